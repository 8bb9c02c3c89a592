/-! how the class's cells stand to the model's rows -/
def RF (T : Int → Int) (f : Nat → Int → Int) : Prop := f 4 5 = T 0 ∧ f 4 6 = T 1 ∧ f 4 7 = T 2 ∧ f 4 8 = T 3 ∧ f 4 9 = T 4 ∧ (∀ b, 0 ≤ b → b < T 0 → f 5 b = T (5 + b) ∧ f 6 b = T (13 + b) ∧ f 7 b = T (21 + b)) ∧ (∀ i, 0 ≤ i → i < T 1 → f 8 i = T (29 + i) ∧ f 9 i = T (33 + i))
abbrev gsum (s : Int → Int) : Int := s 8 + 2 * s 9 + 4 * s 10 + 8 * s 11 + 16 * s 12 + 32 * s 13 + 64 * s 14 + 128 * s 15
def Sim (T : Int → Int) (f : Nat → Int → Int) (a : Nat) (s : Int → Int) : Prop := f a 1 = s 28 ∧ f a 2 = gsum s ∧ (∀ b, 0 ≤ b → b < T 0 → s (8 + b) = 0 → f (a + 1) b = s b) ∧ (∀ i, 0 ≤ i → i < T 1 → f (a + 1) (8 + i) = s (20 + i) ∧ f (a + 1) (12 + i) = s (16 + i) ∧ f (a + 1) (16 + i) = s (24 + i)) ∧ (∀ b, 0 ≤ b → b < T 0 → -100 ≤ f (a + 1) b ∧ f (a + 1) b ≤ 300)
/-- other cells than those of the state at a are the same -/
def kEq (f f2 : Nat → Int → Int) (a : Nat) : Prop := ∀ b : Nat, b ≠ a → b ≠ a + 1 → f2 b = f b
theorem RF_FO {T : Int → Int} {f : Nat → Int → Int} (hT : mTO T) (h : RF T f) : kFO f := by
  obtain ⟨h0, h1, h2, h3, h4, h5, h6⟩ := h
  refine ⟨by rw [h0]; exact hT.1, by rw [h1]; exact hT.2.1, by rw [h2]; exact hT.2.2.1, by rw [h3]; exact hT.2.2.2.1, by rw [h4]; exact hT.2.2.2.2.1, fun b a1 a2 => ?_, fun i a1 a2 => ?_⟩
  · rw [h0] at a2
    obtain ⟨e1, e2, e3⟩ := h5 b a1 a2
    rw [e1, e2, e3]
    exact hT.2.2.2.2.2.1 b a1 a2
  · rw [h1] at a2
    obtain ⟨e1, e2⟩ := h6 i a1 a2
    rw [e1, e2]
    exact hT.2.2.2.2.2.2 i a1 a2
theorem RF_mono {T : Int → Int} {f f2 : Nat → Int → Int} (h : RF T f) (he : ∀ b : Nat, b < 10 → f2 b = f b) : RF T f2 := by
  unfold RF
  rw [he 4 (by omega), he 5 (by omega), he 6 (by omega), he 7 (by omega), he 8 (by omega), he 9 (by omega)]
  exact h
theorem gsum_le {T s : Int → Int} (h : mSO T s) : 0 ≤ gsum s ∧ gsum s < 256 := by
  have a0 := (h.1 0 (by omega) (by omega)).1
  have a1 := (h.1 1 (by omega) (by omega)).1
  have a2 := (h.1 2 (by omega) (by omega)).1
  have a3 := (h.1 3 (by omega) (by omega)).1
  have a4 := (h.1 4 (by omega) (by omega)).1
  have a5 := (h.1 5 (by omega) (by omega)).1
  have a6 := (h.1 6 (by omega) (by omega)).1
  have a7 := (h.1 7 (by omega) (by omega)).1
  simp only [Int.reduceAdd] at a0 a1 a2 a3 a4 a5 a6 a7
  unfold gsum
  omega
theorem gsum_bit {T s : Int → Int} (h : mSO T s) {b : Int} (hb : 0 ≤ b ∧ b < 8) : kbit (gsum s) b = s (8 + b) := by
  have a0 := (h.1 0 (by omega) (by omega)).1
  have a1 := (h.1 1 (by omega) (by omega)).1
  have a2 := (h.1 2 (by omega) (by omega)).1
  have a3 := (h.1 3 (by omega) (by omega)).1
  have a4 := (h.1 4 (by omega) (by omega)).1
  have a5 := (h.1 5 (by omega) (by omega)).1
  have a6 := (h.1 6 (by omega) (by omega)).1
  have a7 := (h.1 7 (by omega) (by omega)).1
  simp only [Int.reduceAdd] at a0 a1 a2 a3 a4 a5 a6 a7
  unfold kbit gsum
  rcases (show b = 0 ∨ b = 1 ∨ b = 2 ∨ b = 3 ∨ b = 4 ∨ b = 5 ∨ b = 6 ∨ b = 7 by omega) with rfl | rfl | rfl | rfl | rfl | rfl | rfl | rfl <;> simp only [Int.reduceAdd, Int.reduceToNat, Int.reducePow] <;> omega
theorem Sim_SO {T s : Int → Int} {f : Nat → Int → Int} {a : Nat} (hT : mTO T) (hS : mSO T s) (hR : RF T f) (h : Sim T f a s) (hd : 0 ≤ s 28 ∧ s 28 ≤ 300) : kSO f a := by
  have hg := gsum_le hS
  have hgo := mGone_le hS
  obtain ⟨h1, h2, h3, h4, h5⟩ := h
  refine ⟨by rw [h1]; exact hd, by rw [h2]; exact hg, fun b a1 a2 => h5 b a1 (by rw [hR.1] at a2; exact a2), fun i a1 a2 => ?_⟩
  rw [hR.2.1] at a2
  obtain ⟨e1, e2, e3⟩ := h4 i a1 a2
  have q := hS.2.2 i a1 a2
  rw [e1, e2, e3]
  exact ⟨by omega, by omega, by omega⟩
theorem Sim_could {T s : Int → Int} {f : Nat → Int → Int} {a : Nat} {i b d c : Int} (hR : RF T f) (hi : 0 ≤ i ∧ i < T 1) (hb : 0 ≤ b ∧ b < T 0) (e : f (a + 1) b = s b) (e2 : f (a + 1) (12 + i) = s (16 + i)) : rCould f a i b d c ↔ mCould T s i b d c := by
  obtain ⟨h0, h1, h2, h3, h4, h5, h6⟩ := hR
  obtain ⟨b1, b2, b3⟩ := h5 b hb.1 hb.2
  obtain ⟨i1, i2⟩ := h6 i hi.1 hi.2
  unfold rCould mCould rFall rReach
  rw [e, e2, b1, b2, b3, i1, h4]
  constructor
  · rintro ⟨x1, x2, x3⟩
    exact ⟨x1, x3.elim (fun q => Or.inr q) (fun q => Or.inl q), x2⟩
  · rintro ⟨x1, x2, x3⟩
    exact ⟨x1, x3, x2.elim (fun q => Or.inr q) (fun q => Or.inl q)⟩
theorem Sim_can {T s : Int → Int} {f : Nat → Int → Int} {a : Nat} {i b : Int} (hT : mTO T) (hS : mSO T s) (hR : RF T f) (h : Sim T f a s) (hi : 0 ≤ i ∧ i < T 1) (hb : 0 ≤ b ∧ b < T 0) : rCan f a i b ↔ mCan T s i b := by
  have n0 := hT.1
  have hbit := gsum_bit hS (b := b) (by omega)
  have h01 := (hS.1 b (by omega) (by omega)).1
  obtain ⟨h1, h2, h3, h4, h5⟩ := h
  unfold rCan mCan
  rw [h2, hbit, h1, (h4 i hi.1 hi.2).2.2]
  by_cases hg : s (8 + b) = 0
  · rw [Sim_could hR hi hb (h3 b hb.1 hb.2 hg) (h4 i hi.1 hi.2).2.1]
    constructor
    · intro q; exact ⟨hg, q.2⟩
    · intro q; exact ⟨by omega, q.2⟩
  · constructor
    · intro q; exact absurd q.1 (fun z => z (by omega))
    · intro q; exact absurd q.1 hg
theorem Sim_warm {T s : Int → Int} {f : Nat → Int → Int} {a : Nat} {i : Int} (hR : RF T f) (h : Sim T f a s) (hi : 0 ≤ i ∧ i < T 1) : rWarm f a i ↔ mWarm T s i := by
  unfold rWarm mWarm
  rw [(h.2.2.2.1 i hi.1 hi.2).1, (hR.2.2.2.2.2.2 i hi.1 hi.2).2]
def kPick (f : Nat → Int → Int) (a : Nat) (i b v : Int) : Nat → Int → Int := k_u (k_u (k_u f a 2 (f a 2 + 2 ^ b.toNat)) (a + 1) (8 + i) (f (a + 1) (8 + i) + v)) (a + 1) (16 + i) (f (a + 1) (16 + i) + v)
theorem kPick_eq {f : Nat → Int → Int} {a : Nat} {i b v : Int} : kEq f (kPick f a i b v) a := by
  intro c h1 h2
  funext j
  unfold kPick
  rw [k_u_ne h2, k_u_ne h2, k_u_ne h1]
theorem gsum_takes {T s : Int → Int} {i b : Int} (hi : 0 ≤ i ∧ i < 4) (hb : 0 ≤ b ∧ b < 8) (h0 : s (8 + b) = 0) : gsum (mTakes T s i b) = gsum s + 2 ^ b.toNat := by
  have key : ∀ k : Int, 0 ≤ k → k < 8 → mTakes T s i b (8 + k) = if k = b then 1 else s (8 + k) := by
    intro k h1 h2
    by_cases e : k = b
    · subst e; rw [mTakes_b hi hb, if_pos rfl]
    · rw [mTakes_at (8 + k) (by omega) (by omega) (by omega), if_neg e]
  have k0 := key 0 (by omega) (by omega)
  have k1 := key 1 (by omega) (by omega)
  have k2 := key 2 (by omega) (by omega)
  have k3 := key 3 (by omega) (by omega)
  have k4 := key 4 (by omega) (by omega)
  have k5 := key 5 (by omega) (by omega)
  have k6 := key 6 (by omega) (by omega)
  have k7 := key 7 (by omega) (by omega)
  simp only [Int.reduceAdd] at k0 k1 k2 k3 k4 k5 k6 k7
  unfold gsum
  rw [k0, k1, k2, k3, k4, k5, k6, k7]
  rcases (show b = 0 ∨ b = 1 ∨ b = 2 ∨ b = 3 ∨ b = 4 ∨ b = 5 ∨ b = 6 ∨ b = 7 by omega) with rfl | rfl | rfl | rfl | rfl | rfl | rfl | rfl <;> simp at h0 ⊢ <;> omega
theorem Sim_pick {T s : Int → Int} {f : Nat → Int → Int} {a : Nat} {i b v : Int} (hT : mTO T) (h : Sim T f a s) (hi : 0 ≤ i ∧ i < T 1) (hb : 0 ≤ b ∧ b < T 0) (h0 : s (8 + b) = 0) (hv : v = T (21 + b)) : Sim T (kPick f a i b v) a (mTakes T s i b) := by
  have n0 := hT.1
  have n1 := hT.2.1
  obtain ⟨h1, h2, h3, h4, h5⟩ := h
  have e1 : ∀ j, j ≠ 2 → kPick f a i b v a j = f a j := fun j hj => by
    unfold kPick; rw [k_u_ne (by omega), k_u_ne (by omega), k_u_ne2 hj]
  have e2 : ∀ j, j ≠ 8 + i → j ≠ 16 + i → kPick f a i b v (a + 1) j = f (a + 1) j := fun j hj hk => by
    unfold kPick; rw [k_u_ne2 hk, k_u_ne2 hj, k_u_ne (by omega)]
  refine ⟨?_, ?_, fun b2 a1 a2 a3 => ?_, fun i2 a1 a2 => ?_, fun b2 a1 a2 => ?_⟩
  · rw [e1 1 (by omega), h1, mTakes_at 28 (by omega) (by omega) (by omega)]
  · rw [gsum_takes (by omega) (by omega) h0, ← h2]
    unfold kPick; rw [k_u_ne (by omega), k_u_ne (by omega), k_u_self]
  · rw [e2 b2 (by omega) (by omega), mTakes_at b2 (by omega) (by omega) (by omega)]
    refine h3 b2 a1 a2 ?_
    by_cases e : b2 = b
    · subst e; exact h0
    · rw [mTakes_at (8 + b2) (by omega) (by omega) (by omega)] at a3; exact a3
  · have q := h4 i2 a1 a2
    rw [e2 (12 + i2) (by omega) (by omega), mTakes_at (16 + i2) (by omega) (by omega) (by omega)]
    by_cases e : i2 = i
    · subst e
      refine ⟨?_, q.2.1, ?_⟩
      · rw [mTakes_s]; unfold kPick; rw [k_u_ne2 (by omega), k_u_self, q.1, hv]
      · rw [mTakes_c]; unfold kPick; rw [k_u_self, q.2.2, hv]
    · rw [e2 (8 + i2) (by omega) (by omega), e2 (16 + i2) (by omega) (by omega), mTakes_at (20 + i2) (by omega) (by omega) (by omega), mTakes_at (24 + i2) (by omega) (by omega) (by omega)]
      exact q
  · rw [e2 b2 (by omega) (by omega)]
    exact h5 b2 a1 a2
theorem Sim_mono {T s : Int → Int} {f f2 : Nat → Int → Int} {a : Nat} (h : Sim T f a s) (h1 : f2 a = f a) (h2 : f2 (a + 1) = f (a + 1)) : Sim T f2 a s := by
  unfold Sim
  rw [h1, h2]
  exact h
theorem kGoBy_eq {f : Nat → Int → Int} {a : Nat} {n : Int} : kEq f (kGoBy f a n) a := by
  intro c h1 h2
  funext j
  unfold kGoBy
  rw [k_u_ne h2, k_u_ne h2, k_u_ne h2, k_u_ne h2, k_u_ne h1]
theorem Sim_pass {T s : Int → Int} {f : Nat → Int → Int} {a : Nat} (hT : mTO T) (h : Sim T f a s) : Sim T (kGoBy f a 1) a (mPass s) := by
  have n0 := hT.1
  have n1 := hT.2.1
  obtain ⟨h1, h2, h3, h4, h5⟩ := h
  have e1 : ∀ j, j ≠ 1 → kGoBy f a 1 a j = f a j := fun j hj => by
    unfold kGoBy; rw [k_u_ne (by omega), k_u_ne (by omega), k_u_ne (by omega), k_u_ne (by omega), k_u_ne2 hj]
  have e2 : ∀ j, (j < 16 ∨ 19 < j) → kGoBy f a 1 (a + 1) j = f (a + 1) j := fun j hj => by
    unfold kGoBy; rw [k_u_ne2 (by omega), k_u_ne2 (by omega), k_u_ne2 (by omega), k_u_ne2 (by omega), k_u_ne (by omega)]
  have e3 : ∀ i, 0 ≤ i → i < 4 → kGoBy f a 1 (a + 1) (16 + i) = 0 := by
    intro i a1 a2
    rcases (show i = 0 ∨ i = 1 ∨ i = 2 ∨ i = 3 by omega) with rfl | rfl | rfl | rfl <;> simp [kGoBy, k_u]
  have eg : gsum (mPass s) = gsum s := by
    unfold gsum
    simp only [mPass_at (s := s) (j := 8) (by omega), mPass_at (s := s) (j := 9) (by omega), mPass_at (s := s) (j := 10) (by omega), mPass_at (s := s) (j := 11) (by omega), mPass_at (s := s) (j := 12) (by omega), mPass_at (s := s) (j := 13) (by omega), mPass_at (s := s) (j := 14) (by omega), mPass_at (s := s) (j := 15) (by omega)]
  refine ⟨?_, by rw [e1 2 (by omega), eg]; exact h2, fun b2 a1 a2 a3 => ?_, fun i2 a1 a2 => ?_, fun b2 a1 a2 => ?_⟩
  · unfold kGoBy
    rw [k_u_ne (by omega), k_u_ne (by omega), k_u_ne (by omega), k_u_ne (by omega), k_u_self, mPass_d, h1]
  · rw [e2 b2 (by omega), mPass_at (by omega)]
    rw [mPass_at (by omega)] at a3
    exact h3 b2 a1 a2 a3
  · rw [e2 (8 + i2) (by omega), e2 (12 + i2) (by omega), e3 i2 a1 (by omega), mPass_at (j := 20 + i2) (by omega), mPass_at (j := 16 + i2) (by omega), mPass_c (by omega)]
    exact ⟨(h4 i2 a1 a2).1, (h4 i2 a1 a2).2.1, rfl⟩
  · rw [e2 b2 (by omega)]
    exact h5 b2 a1 a2
theorem kEq_rf {f : Nat → Int → Int} {a : Nat} : kEq f f a := fun _ _ _ => rfl
theorem kEq_tr {f f2 f3 : Nat → Int → Int} {a : Nat} (h1 : kEq f f2 a) (h2 : kEq f2 f3 a) : kEq f f3 a := fun b x y => (h2 b x y).trans (h1 b x y)
theorem RF_eq {T : Int → Int} {f f2 : Nat → Int → Int} {a : Nat} (h : RF T f) (ha : 10 ≤ a) (he : kEq f f2 a) : RF T f2 := RF_mono h (fun b hb => he b (by omega) (by omega))
section KW11
variable {E : kEnv} {d mc ms d2 : Nat} {M M2 : kMd} {pc idx : Nat} {L : kLs} {S S0 As : List kV} {m : List (Nat × Nat)} {g : Nat → Int → Option Nat} {h : kH} {Q : Option kV → kH → Prop} {P : (Nat → Int → Int) → Prop}
/-- called with As, it returns v, and the numbers are some for which P holds -/
def kFE (E : kEnv) (d : Nat) (M : kMd) (As : List kV) (h : kH) (v : Option kV) (m : List (Nat × Nat)) (P : (Nat → Int → Int) → Prop) (g : Nat → Int → Option Nat) : Prop := kC E d 0 0 M As h (fun r h' => r = v ∧ ∃ f2, h' = (m, f2, g) ∧ P f2)
theorem kv_callV1E {b ci N : Nat} {T : u_T} {v : kV} (hd : decode M.2.1 pc = .ok (.invokevirtual idx, 3)) (hlk : Cond.methodLink M.1.cls idx M2.1 ∈ k_KT) (q : k_qV M2 As.length) (hcl : vwCl[ci]? = some (M2.1.cls, T, N)) (hb : h.1[b]? = some (ci, N)) (hs0 : S0 = As.reverse ++ kA b :: S) (hwd : (S.map k_wd).sum ≤ 8) (hc : kFE E d2 M2 (kA b :: As) h (some v) m P g) (hd2 : d2 + 1 ≤ d)
    (k : ∀ f2, P f2 → kW E d mc ms M (pc + 3) L (v :: S) (m, f2, g) Q) : kW E d mc ms M pc L S0 h Q := kw_callV hd hlk q hcl hb hs0 hwd hc hd2 (Nat.le_refl _) (Nat.le_refl _) (fun r h' z => by obtain ⟨rfl, f2, rfl, z2⟩ := z; exact k f2 z2)
theorem kv_callV0E {b ci N : Nat} {T : u_T} (hd : decode M.2.1 pc = .ok (.invokevirtual idx, 3)) (hlk : Cond.methodLink M.1.cls idx M2.1 ∈ k_KT) (q : k_qV M2 As.length) (hcl : vwCl[ci]? = some (M2.1.cls, T, N)) (hb : h.1[b]? = some (ci, N)) (hs0 : S0 = As.reverse ++ kA b :: S) (hwd : (S.map k_wd).sum ≤ 8) (hc : kFE E d2 M2 (kA b :: As) h none m P g) (hd2 : d2 + 1 ≤ d)
    (k : ∀ f2, P f2 → kW E d mc ms M (pc + 3) L S (m, f2, g) Q) : kW E d mc ms M pc L S0 h Q := kw_callV hd hlk q hcl hb hs0 hwd hc hd2 (Nat.le_refl _) (Nat.le_refl _) (fun r h' z => by obtain ⟨rfl, f2, rfl, z2⟩ := z; exact k f2 z2)
theorem kFE_of {v : Option kV} (hy : plainName M.1.cls = true) (hone : ∀ v ∈ As, k_one v) (hlen : As.length ≤ M.2.2.1) {L : kLs} (hL : As.map some ++ List.replicate (M.2.2.1 - As.length) none = L) (k : kW E d 0 0 M 0 L [] h (fun r h' => r = v ∧ ∃ f2, h' = (m, f2, g) ∧ P f2)) : kFE E d M As h v m P g := by
  subst hL
  exact kC_of hy hone hlen k
theorem kv_riE {z v : Int} {f : Nat → Int → Int} (hd : decode M.2.1 pc = .ok (.ireturn, 1)) (hr : M.2.2.2 = some .int) (he : z = v) (hh : P f) : kW E d mc ms M pc L [kI z] (m, f, g) (fun r h' => r = some (kI v) ∧ ∃ f2, h' = (m, f2, g) ∧ P f2) := kw_iret hd hr rfl ⟨by rw [he], f, rfl, hh⟩
theorem kv_rvE {f : Nat → Int → Int} (hd : decode M.2.1 pc = .ok (.return_, 1)) (hr : M.2.2.2 = none) (hh : P f) : kW E d mc ms M pc L [] (m, f, g) (fun r h' => r = none ∧ ∃ f2, h' = (m, f2, g) ∧ P f2) := kw_ret hd hr ⟨rfl, f, rfl, hh⟩
end KW11
