/-! the rules again, over cells given as (kinds, numbers, references); contracts of a known answer -/
/-- called with As over h, it returns v with the cells h2; makes nothing -/
def kF (E : kEnv) (d : Nat) (M : kMd) (As : List kV) (h : kH) (v : Option kV) (h2 : kH) : Prop := kC E d 0 0 M As h (fun r h' => r = v ∧ h' = h2)
section KW8
variable {E : kEnv} {d mc ms d2 : Nat} {M M2 : kMd} {pc idx : Nat} {L : kLs} {S S0 As : List kV} {m : List (Nat × Nat)} {f : Nat → Int → Int} {g : Nat → Int → Option Nat} {h h2 : kH} {Q : Option kV → kH → Prop}
theorem kv_getI {ci k0 N a : Nat} {kz : Int} (hd : decode M.2.1 pc = .ok (.getfield idx, 3)) (q : k_fldr M.1.cls idx ci k0 N) (hm : m[a]? = some (ci, N)) (hf : k_fr ci k0 = false) (hz : (k0 : Int) = kz) {v : Int} (hv : f a kz = v) (k : kW E d mc ms M (pc + 3) L (kI v :: S) (m, f, g) Q) : kW E d mc ms M pc L (kA a :: S) (m, f, g) Q := kw_getI hd q hm hf hz (by rw [← hv] at k; exact k)
theorem kv_getR {ci k0 N a b : Nat} (hd : decode M.2.1 pc = .ok (.getfield idx, 3)) (q : k_fldr M.1.cls idx ci k0 N) (hm : m[a]? = some (ci, N)) (hf : k_fr ci k0 = true) {kz : Int} (hz : (k0 : Int) = kz) (hr : g a kz = some b) (k : kW E d mc ms M (pc + 3) L (kA b :: S) (m, f, g) Q) : kW E d mc ms M pc L (kA a :: S) (m, f, g) Q := kw_getR hd q hm hf hz hr k
theorem kv_putI {ci k0 N a : Nat} {fin : Bool} {kz z : Int} (hd : decode M.2.1 pc = .ok (.putfield idx, 3)) (q : k_fld M.1.cls idx ci k0 N fin) (hm : m[a]? = some (ci, N)) (hf : k_fr ci k0 = false) (hn : fin = true → M.1.name = "<init>") (hz : (k0 : Int) = kz) (k : kW E d mc ms M (pc + 3) L S (m, k_u f a kz z, g) Q) : kW E d mc ms M pc L (kI z :: kA a :: S) (m, f, g) Q := kw_putI hd q hm hf hn hz k
theorem kv_putR {ci k0 N a : Nat} {fin : Bool} {kz : Int} {b : Nat} (hd : decode M.2.1 pc = .ok (.putfield idx, 3)) (q : k_fld M.1.cls idx ci k0 N fin) (hm : m[a]? = some (ci, N)) (hf : k_fr ci k0 = true) (hb : b < 1000000) (hn : fin = true → M.1.name = "<init>") (hz : (k0 : Int) = kz) (k : kW E d mc ms M (pc + 3) L S (m, f, k_u g a kz (some b)) Q) : kW E d mc ms M pc L (kA b :: kA a :: S) (m, f, g) Q := kw_putR hd q hm hf hb hn hz k
theorem kv_iald {a n : Nat} {i : Int} (hd : decode M.2.1 pc = .ok (.iaload, 1)) (hm : m[a]? = some (100, n)) (h0 : 0 ≤ i) (h1 : i < n) {v : Int} (hv : f a i = v) (k : kW E d mc ms M (pc + 1) L (kI v :: S) (m, f, g) Q) : kW E d mc ms M pc L (kI i :: kA a :: S) (m, f, g) Q := kw_iald hd hm h0 h1 (by rw [← hv] at k; exact k)
theorem kv_cald {a n : Nat} {i : Int} (hd : decode M.2.1 pc = .ok (.caload, 1)) (hm : m[a]? = some (101, n)) (h0 : 0 ≤ i) (h1 : i < n) {v : Int} (hv : f a i = v) (k : kW E d mc ms M (pc + 1) L (kI v :: S) (m, f, g) Q) : kW E d mc ms M pc L (kI i :: kA a :: S) (m, f, g) Q := kw_cald hd hm h0 h1 (by rw [← hv] at k; exact k)
theorem kv_aald {a n b : Nat} {i : Int} (hd : decode M.2.1 pc = .ok (.aaload, 1)) (hm : m[a]? = some (102, n)) (h0 : 0 ≤ i) (h1 : i < n) (hr : g a i = some b) (k : kW E d mc ms M (pc + 1) L (kA b :: S) (m, f, g) Q) : kW E d mc ms M pc L (kI i :: kA a :: S) (m, f, g) Q := kw_aald hd hm h0 h1 hr k
theorem kv_alen {a t n : Nat} (hd : decode M.2.1 pc = .ok (.arraylength, 1)) (hm : m[a]? = some (t, n)) (ht : t = 100 ∨ t = 101 ∨ t = 102) (k : kW E d mc ms M (pc + 1) L (kI n :: S) (m, f, g) Q) : kW E d mc ms M pc L (kA a :: S) (m, f, g) Q := kw_alen hd hm ht k
theorem kv_iast {a n : Nat} {i x : Int} (hd : decode M.2.1 pc = .ok (.iastore, 1)) (hm : m[a]? = some (100, n)) (h0 : 0 ≤ i) (h1 : i < n) (k : kW E d mc ms M (pc + 1) L S (m, k_u f a i x, g) Q) : kW E d mc ms M pc L (kI x :: kI i :: kA a :: S) (m, f, g) Q := kw_iast hd hm h0 h1 k
theorem kv_cast {a n : Nat} {i x : Int} (hd : decode M.2.1 pc = .ok (.castore, 1)) (hm : m[a]? = some (101, n)) (h0 : 0 ≤ i) (h1 : i < n) (hx0 : 0 ≤ x) (hx1 : x < 65536) (k : kW E d mc ms M (pc + 1) L S (m, k_u f a i x, g) Q) : kW E d mc ms M pc L (kI x :: kI i :: kA a :: S) (m, f, g) Q := kw_cast hd hm h0 h1 hx0 hx1 k
theorem kv_aast {a n b : Nat} {i : Int} (hd : decode M.2.1 pc = .ok (.aastore, 1)) (hm : m[a]? = some (102, n)) (hb : m[b]? = some (4, 3)) (h0 : 0 ≤ i) (h1 : i < n) (k : kW E d mc ms M (pc + 1) L S (m, f, k_u g a i (some b)) Q) : kW E d mc ms M pc L (kA b :: kI i :: kA a :: S) (m, f, g) Q := kw_aast hd hm hb h0 h1 k
theorem kv_copy {a0 a1 n0 n1 : Nat} {sp dp n : Int} (hd : decode M.2.1 pc = .ok (.invokestatic idx, 3)) (hw : Cond.methodLink M.1.cls idx arraycopyName ∈ k_KT) (hm0 : m[a0]? = some (100, n0)) (hm1 : m[a1]? = some (100, n1)) (h1 : 0 ≤ sp) (h2 : 0 ≤ dp) (h3 : 0 ≤ n) (h4 : sp + n ≤ n0) (h5 : dp + n ≤ n1) (hwd : (S.map k_wd).sum ≤ 8) (hd1 : 1 ≤ d)
    (k : kW E d mc ms M (pc + 3) L S (m, k_cp f a0 a1 sp dp n, g) Q) : kW E d mc ms M pc L (kI n :: kI dp :: kA a1 :: kI sp :: kA a0 :: S) (m, f, g) Q := kw_copy hd hw hm0 hm1 h1 h2 h3 h4 h5 hwd hd1 k
theorem kv_alenT0 (hd : decode M.2.1 pc = .ok (.arraylength, 1)) (k : kW E d mc ms M (pc + 1) L (kI 10 :: S) h Q) : kW E d mc ms M pc L (kA 1000000 :: S) h Q := kw_alenS (j := 0) hd (by decide) (by show (10 : Nat) < _; decide) k
theorem kv_alenT1 (hd : decode M.2.1 pc = .ok (.arraylength, 1)) (k : kW E d mc ms M (pc + 1) L (kI 10 :: S) h Q) : kW E d mc ms M pc L (kA 1000001 :: S) h Q := kw_alenS (j := 1) hd (by decide) (by show (10 : Nat) < _; decide) k
theorem k_T10 {l : List Int} (hl : ∀ z ∈ l, k_in z) (i : Nat) : k_in (l.getD i 0) := by
  by_cases hi : i < l.length
  · have e : l.getD i 0 = l[i] := by simp [List.getD_eq_getElem?_getD, hi]
    rw [e]
    exact hl _ (List.getElem_mem hi)
  · have e : l.getD i 0 = 0 := by simp [List.getD_eq_getElem?_getD, Nat.not_lt.mp hi]
    rw [e]
    exact k_in0
theorem kv_ialdT0 {i : Int} (hd : decode M.2.1 pc = .ok (.iaload, 1)) (h0 : 0 ≤ i) (h1 : i < 10) (k : kW E d mc ms M (pc + 1) L (kI (k_LEAST.getD i.toNat 0) :: S) h Q) : kW E d mc ms M pc L (kI i :: kA 1000000 :: S) h Q := kw_ialdS (j := 0) hd (by decide) h0 h1 (k_T10 (by unfold k_LEAST k_in; decide) _) k
theorem kv_ialdT1 {i : Int} (hd : decode M.2.1 pc = .ok (.iaload, 1)) (h0 : 0 ≤ i) (h1 : i < 10) (k : kW E d mc ms M (pc + 1) L (kI (k_MOST.getD i.toNat 0) :: S) h Q) : kW E d mc ms M pc L (kI i :: kA 1000001 :: S) h Q := kw_ialdS (j := 1) hd (by decide) h0 h1 (k_T10 (by unfold k_MOST k_in; decide) _) k
theorem kv_callV1 {b ci N : Nat} {T : u_T} {v : kV} (hd : decode M.2.1 pc = .ok (.invokevirtual idx, 3)) (hlk : Cond.methodLink M.1.cls idx M2.1 ∈ k_KT) (q : k_qV M2 As.length) (hcl : vwCl[ci]? = some (M2.1.cls, T, N)) (hb : h.1[b]? = some (ci, N)) (hs0 : S0 = As.reverse ++ kA b :: S) (hwd : (S.map k_wd).sum ≤ 8) (hc : kF E d2 M2 (kA b :: As) h (some v) h2) (hd2 : d2 + 1 ≤ d)
    (k : kW E d mc ms M (pc + 3) L (v :: S) h2 Q) : kW E d mc ms M pc L S0 h Q := kw_callV hd hlk q hcl hb hs0 hwd hc hd2 (Nat.le_refl _) (Nat.le_refl _) (fun r h' z => by obtain ⟨rfl, rfl⟩ := z; exact k)
theorem kv_callV0 {b ci N : Nat} {T : u_T} (hd : decode M.2.1 pc = .ok (.invokevirtual idx, 3)) (hlk : Cond.methodLink M.1.cls idx M2.1 ∈ k_KT) (q : k_qV M2 As.length) (hcl : vwCl[ci]? = some (M2.1.cls, T, N)) (hb : h.1[b]? = some (ci, N)) (hs0 : S0 = As.reverse ++ kA b :: S) (hwd : (S.map k_wd).sum ≤ 8) (hc : kF E d2 M2 (kA b :: As) h none h2) (hd2 : d2 + 1 ≤ d)
    (k : kW E d mc ms M (pc + 3) L S h2 Q) : kW E d mc ms M pc L S0 h Q := kw_callV hd hlk q hcl hb hs0 hwd hc hd2 (Nat.le_refl _) (Nat.le_refl _) (fun r h' z => by obtain ⟨rfl, rfl⟩ := z; exact k)
theorem kv_callS1 {v : kV} (hd : decode M.2.1 pc = .ok (.invokestatic idx, 3)) (hlk : Cond.methodLink M.1.cls idx M2.1 ∈ k_KT) (q : k_qS M2 As.length) (hs0 : S0 = As.reverse ++ S) (hwd : (S.map k_wd).sum ≤ 8) (hc : kF E d2 M2 As h (some v) h2) (hd2 : d2 + 1 ≤ d)
    (k : kW E d mc ms M (pc + 3) L (v :: S) h2 Q) : kW E d mc ms M pc L S0 h Q := kw_callS hd hlk q hs0 hwd hc hd2 (Nat.le_refl _) (Nat.le_refl _) (fun r h' z => by obtain ⟨rfl, rfl⟩ := z; exact k)
theorem kv_callS0 (hd : decode M.2.1 pc = .ok (.invokestatic idx, 3)) (hlk : Cond.methodLink M.1.cls idx M2.1 ∈ k_KT) (q : k_qS M2 As.length) (hs0 : S0 = As.reverse ++ S) (hwd : (S.map k_wd).sum ≤ 8) (hc : kF E d2 M2 As h none h2) (hd2 : d2 + 1 ≤ d)
    (k : kW E d mc ms M (pc + 3) L S h2 Q) : kW E d mc ms M pc L S0 h Q := kw_callS hd hlk q hs0 hwd hc hd2 (Nat.le_refl _) (Nat.le_refl _) (fun r h' z => by obtain ⟨rfl, rfl⟩ := z; exact k)
theorem kv_callN1 {v : kV} (hd : decode M.2.1 pc = .ok (.invokestatic idx, 3)) (hlk : (idx, M.1.cls, M2.1) ∈ k_nest) (q : k_qS M2 As.length) (hs0 : S0 = As.reverse ++ S) (hwd : (S.map k_wd).sum ≤ 8) (hc : kF E d2 M2 As h (some v) h2) (hd2 : d2 + 1 ≤ d)
    (k : kW E d mc ms M (pc + 3) L (v :: S) h2 Q) : kW E d mc ms M pc L S0 h Q := kw_callSN hd hlk q hs0 hwd hc hd2 (Nat.le_refl _) (Nat.le_refl _) (fun r h' z => by obtain ⟨rfl, rfl⟩ := z; exact k)
theorem kv_ifeqB {P : Prop} [Decidable P] {off : Int} {tgt : Nat} (hd : decode M.2.1 pc = .ok (.ifCond .eq off, 3)) (ht : (pc : Int) + off = (tgt : Int)) (kt : ¬ P → kW E d mc ms M tgt L S h Q) (kf : P → kW E d mc ms M (pc + 3) L S h Q) : kW E d mc ms M pc L (kI (if P then 1 else 0) :: S) h Q :=
  kw_if_eq hd ht (fun z => kt (fun p => by rw [if_pos p] at z; cases z)) (fun z => kf (Decidable.byContradiction (fun p => z (if_neg p))))
theorem kv_ifneB {P : Prop} [Decidable P] {off : Int} {tgt : Nat} (hd : decode M.2.1 pc = .ok (.ifCond .ne off, 3)) (ht : (pc : Int) + off = (tgt : Int)) (kt : P → kW E d mc ms M tgt L S h Q) (kf : ¬ P → kW E d mc ms M (pc + 3) L S h Q) : kW E d mc ms M pc L (kI (if P then 1 else 0) :: S) h Q :=
  kw_if_ne hd ht (fun z => kt (Decidable.byContradiction (fun p => z (if_neg p)))) (fun z => kf (fun p => by rw [if_pos p] at z; exact z (by decide)))
theorem kv_ri {z v : Int} (hd : decode M.2.1 pc = .ok (.ireturn, 1)) (hr : M.2.2.2 = some .int) (he : z = v) (hh : h = h2) : kW E d mc ms M pc L [kI z] h (fun r h' => r = some (kI v) ∧ h' = h2) := kw_iret hd hr rfl ⟨by rw [he], hh⟩
theorem k_nz {z : Int} (h : z = 0 ∨ z = 1) : narrow .boolean (.int (Int32.ofInt z)) = .int (Int32.ofInt z) := by
  rcases h with rfl | rfl <;> rfl
theorem k_nc {z : Int} (h0 : 0 ≤ z) (h1 : z < 65536) : narrow .char (.int (Int32.ofInt z)) = .int (Int32.ofInt z) := by
  obtain ⟨m, rfl⟩ := Int.eq_ofNat_of_zero_le h0
  rw [Int32.ofInt_eq_ofNat]
  exact (pk_charN (q := m) (by omega)).1
theorem kv_rb {z : Int} {P : Prop} [Decidable P] (hd : decode M.2.1 pc = .ok (.ireturn, 1)) (hr : M.2.2.2 = some .boolean) (he : z = if P then 1 else 0) (hh : h = h2) : kW E d mc ms M pc L [kI z] h (fun r h' => r = some (kI (if P then 1 else 0)) ∧ h' = h2) := kw_iret hd hr (k_nz (by rw [he]; split <;> simp)) ⟨by rw [he], hh⟩
theorem kv_rc {z v : Int} (hd : decode M.2.1 pc = .ok (.ireturn, 1)) (hr : M.2.2.2 = some .char) (h0 : 0 ≤ z) (h1 : z < 65536) (he : z = v) (hh : h = h2) : kW E d mc ms M pc L [kI z] h (fun r h' => r = some (kI v) ∧ h' = h2) := kw_iret hd hr (k_nc h0 h1) ⟨by rw [he], hh⟩
theorem kv_rv (hd : decode M.2.1 pc = .ok (.return_, 1)) (hr : M.2.2.2 = none) (hh : h = h2) : kW E d mc ms M pc L [] h (fun r h' => r = none ∧ h' = h2) := kw_ret hd hr ⟨rfl, hh⟩
theorem kF_of {v : Option kV} (hy : plainName M.1.cls = true) (hone : ∀ v ∈ As, k_one v) (hlen : As.length ≤ M.2.2.1) {L : kLs} (hL : As.map some ++ List.replicate (M.2.2.1 - As.length) none = L) (k : kW E d 0 0 M 0 L [] h (fun r h' => r = v ∧ h' = h2)) : kF E d M As h v h2 := by
  subst hL
  exact kC_of hy hone hlen k
end KW8
/-! the law's world: kinds and lengths of the class's cells and of the model's, the references that never change -/
def kMC : List (Nat × Nat) := [(6, 7), (5, 3), (101, 200), (100, 4), (2, 10), (100, 8), (100, 8), (100, 8), (100, 4), (100, 4), (4, 3), (100, 20), (3, 2), (102, 8), (4, 3), (100, 20), (4, 3), (100, 20), (4, 3), (100, 20), (4, 3), (100, 20), (4, 3), (100, 20), (4, 3), (100, 20), (4, 3), (100, 20), (4, 3), (100, 20), (3, 2), (102, 2), (4, 3), (100, 20), (4, 3), (100, 20), (0, 2), (4, 3), (100, 20), (1, 7), (100, 8), (100, 9), (100, 4), (100, 8), (100, 8)]
def kMM : List (Nat × Nat) := [(7, 14), (100, 200), (100, 37), (100, 37), (100, 29), (100, 29), (100, 232), (100, 58), (100, 29), (100, 4), (100, 8)]
/-- where a State lies -/
def kSA (a : Nat) : Prop := a = 10 ∨ a = 14 ∨ a = 16 ∨ a = 18 ∨ a = 20 ∨ a = 22 ∨ a = 24 ∨ a = 26 ∨ a = 28 ∨ a = 32 ∨ a = 34 ∨ a = 37
def kGL : List (Nat × Nat × Nat) := [(0, 0, 1), (0, 1, 4), (0, 2, 10), (0, 3, 12), (0, 4, 30), (0, 5, 36), (0, 6, 39), (1, 0, 2), (1, 1, 3), (4, 0, 5), (4, 1, 6), (4, 2, 7), (4, 3, 8), (4, 4, 9), (10, 0, 11), (12, 0, 13), (14, 0, 15), (16, 0, 17), (18, 0, 19), (20, 0, 21), (22, 0, 23), (24, 0, 25), (26, 0, 27), (28, 0, 29), (30, 0, 31), (32, 0, 33), (34, 0, 35), (36, 0, 4), (36, 1, 37), (37, 0, 38), (39, 0, 4), (39, 1, 40), (39, 2, 41), (39, 3, 42), (39, 4, 43), (39, 5, 44)]
/-- the class's references -/
def kG (g : Nat → Int → Option Nat) : Prop := ∀ q ∈ kGL, g q.1 (q.2.1 : Int) = some q.2.2
theorem kSA_m {a : Nat} (h : kSA a) (w : List (Nat × Nat)) : (kMC ++ w)[a]? = some (4, 3) := by
  rcases h with rfl | rfl | rfl | rfl | rfl | rfl | rfl | rfl | rfl | rfl | rfl | rfl <;> rfl
theorem kSA_c {a : Nat} (h : kSA a) (w : List (Nat × Nat)) : (kMC ++ w)[a + 1]? = some (100, 20) := by
  rcases h with rfl | rfl | rfl | rfl | rfl | rfl | rfl | rfl | rfl | rfl | rfl | rfl <;> rfl
theorem kSA_g {a : Nat} (h : kSA a) {g : Nat → Int → Option Nat} (hg : kG g) : g a 0 = some (a + 1) := by
  rcases h with rfl | rfl | rfl | rfl | rfl | rfl | rfl | rfl | rfl | rfl | rfl | rfl
  · exact hg (10, 0, 11) (by decide)
  · exact hg (14, 0, 15) (by decide)
  · exact hg (16, 0, 17) (by decide)
  · exact hg (18, 0, 19) (by decide)
  · exact hg (20, 0, 21) (by decide)
  · exact hg (22, 0, 23) (by decide)
  · exact hg (24, 0, 25) (by decide)
  · exact hg (26, 0, 27) (by decide)
  · exact hg (28, 0, 29) (by decide)
  · exact hg (32, 0, 33) (by decide)
  · exact hg (34, 0, 35) (by decide)
  · exact hg (37, 0, 38) (by decide)
