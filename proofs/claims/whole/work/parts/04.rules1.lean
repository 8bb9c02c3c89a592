/-! rules of the inner machine: constants, locals, stack, arithmetic, branches -/
theorem k_i8 {n : Int} (h1 : -128 ≤ n) (h2 : n ≤ 127) : (Int8.ofInt n).toInt32 = Int32.ofInt n := by
  apply Int32.toInt_inj.mp
  rw [Int8.toInt_toInt32, Int8.toInt_ofInt_of_le (by omega) (by omega), Int32.toInt_ofInt_of_le (by omega) (by omega)]
theorem k_i16 {n : Int} (h1 : -32768 ≤ n) (h2 : n ≤ 32767) : (Int16.ofInt n).toInt32 = Int32.ofInt n := by
  apply Int32.toInt_inj.mp
  rw [Int16.toInt_toInt32, Int16.toInt_ofInt_of_le (by omega) (by omega), Int32.toInt_ofInt_of_le (by omega) (by omega)]
theorem k_ti {z : Int} (h : k_in z) : (Int32.ofInt z).toInt = z := Int32.toInt_ofInt_of_le (by have := h.1; omega) (by have := h.2; omega)
theorem k_tj {z : Int} (h : k_in64 z) : (Int64.ofInt z).toInt = z := Int64.toInt_ofInt_of_le (by have := h.1; omega) (by have := h.2; omega)
theorem k_tc {z : Int} (h : k_in z) : (Int32.ofInt z).toNatClampNeg = z.toNat := Int32.toNatClampNeg_ofInt_of_le (by have := h.1; omega) (by have := h.2; omega)
theorem k_vpin {z : Int} {n : Nat} (h : k_in z) (h0 : 0 ≤ z) (h1 : z < n) : vp_in (Int32.ofInt z) n := vp_in_iff.mpr (by rw [k_ti h]; exact ⟨h0, h1⟩)
theorem k_rng (x : Int32) : k_in x.toInt := by
  have h1 := x.minValue_le_toInt
  have h2 := x.toInt_le
  exact ⟨h1, h2⟩
theorem k_oki {E : kEnv} {j : Nat} {z : Int} (h : k_ok (kI z)) : k_in z := h
theorem k_tl {v : kV} {S : List kV} (h : ∀ w ∈ v :: S, k_ok w) : k_ok v ∧ ∀ w ∈ S, k_ok w := List.forall_mem_cons.mp h
theorem k_consI {z : Int} {S : List kV} (h1 : k_in z) (h2 : ∀ w ∈ S, k_ok w) : ∀ w ∈ kI z :: S, k_ok w := List.forall_mem_cons.mpr ⟨h1, h2⟩
theorem k_consJ {z : Int} {S : List kV} (h1 : k_in64 z) (h2 : ∀ w ∈ S, k_ok w) : ∀ w ∈ kJ z :: S, k_ok w := List.forall_mem_cons.mpr ⟨h1, h2⟩
theorem k_cons {v : kV} {S : List kV} (h1 : k_ok v) (h2 : ∀ w ∈ S, k_ok w) : ∀ w ∈ v :: S, k_ok w := List.forall_mem_cons.mpr ⟨h1, h2⟩
section KW1
variable {E : kEnv} {d mc ms : Nat} {M : kMd} {pc : Nat} {L : kLs} {S : List kV} {h : kH} {Q : Option kV → kH → Prop}
/-- a row that touches the stack and the place alone -/
theorem kw_st {S S2 : List kV} {pc2 : Nat} (hok : (∀ v ∈ S, k_ok v) → ∀ v ∈ S2, k_ok v)
    (row : ∀ (p : Program) (e : Env) (R : Room) (s : State) (mm : MethodId) (args : Array Value) (below : List Frame) (meth : Method) (c : Code) (H : Heap) (ls : Array Slot) (locs : List Loc) (cells slots : Nat) (QQ : State → Prop), k_cx E M d p R s mm args meth c → k_lr E M.2.2.1 L ls → (∀ v ∈ S, k_ok v) → W p (kl E) e R s mm args below meth c H locs cells slots QQ (F0 mm pc2 ls (S2.map (k_rv E))) → W p (kl E) e R s mm args below meth c H locs cells slots QQ (F0 mm pc ls (S.map (k_rv E))))
    (k : kW E d mc ms M pc2 L S2 h Q) : kW E d mc ms M pc L S h Q := by
  intro p e R s mm args below meth c H ls locs cells slots QQ cx g1 g2 hl hS hH hR hV kk
  exact row p e R s mm args below meth c H ls locs cells slots QQ cx hl hS (k p e R s mm args below meth c H ls locs cells slots QQ cx g1 g2 hl (hok hS) hH hR hV kk)
theorem kw_iconst {n : Int} (hd : decode M.2.1 pc = .ok (.iconst n, 1)) (hn : k_in n) (k : kW E d mc ms M (pc + 1) L (kI n :: S) h Q) : kW E d mc ms M pc L (S) h Q :=
  kw_st (fun hS => k_consI hn hS) (fun p e R s mm args below meth c H ls locs cells slots QQ cx hl hS k => lv_iconst cx.1 cx.2.1 hd rfl k) k
theorem kw_bipush {n : Int} (hd : decode M.2.1 pc = .ok (.bipush n, 2)) (h1 : -128 ≤ n) (h2 : n ≤ 127) (k : kW E d mc ms M (pc + 2) L (kI n :: S) h Q) : kW E d mc ms M pc L (S) h Q :=
  kw_st (fun hS => k_consI ⟨by omega, by omega⟩ hS) (fun p e R s mm args below meth c H ls locs cells slots QQ cx hl hS k => lv_bipush cx.1 cx.2.1 hd (k_i8 h1 h2) k) k
theorem kw_sipush {n : Int} (hd : decode M.2.1 pc = .ok (.sipush n, 3)) (h1 : -32768 ≤ n) (h2 : n ≤ 32767) (k : kW E d mc ms M (pc + 3) L (kI n :: S) h Q) : kW E d mc ms M pc L (S) h Q :=
  kw_st (fun hS => k_consI ⟨by omega, by omega⟩ hS) (fun p e R s mm args below meth c H ls locs cells slots QQ cx hl hS k => lv_sipush cx.1 cx.2.1 hd (k_i16 h1 h2) k) k
theorem kw_lconst0  (hd : decode M.2.1 pc = .ok (.lconst 0, 1)) (k : kW E d mc ms M (pc + 1) L (kJ 0 :: S) h Q) : kW E d mc ms M pc L (S) h Q :=
  kw_st (fun hS => k_consJ ⟨by decide, by decide⟩ hS) (fun p e R s mm args below meth c H ls locs cells slots QQ cx hl hS k => lv_lconst cx.1 cx.2.1 hd rfl k) k
theorem kw_lconst1  (hd : decode M.2.1 pc = .ok (.lconst 1, 1)) (k : kW E d mc ms M (pc + 1) L (kJ 1 :: S) h Q) : kW E d mc ms M pc L (S) h Q :=
  kw_st (fun hS => k_consJ ⟨by decide, by decide⟩ hS) (fun p e R s mm args below meth c H ls locs cells slots QQ cx hl hS k => lv_lconst cx.1 cx.2.1 hd rfl k) k
theorem kw_ldc2 {idx : Nat} {z : Int} (hd : decode M.2.1 pc = .ok (.ldc2_w idx, 3)) (hw : Cond.constantLong M.1.cls idx (Int64.ofInt z) ∈ k_KT) (hz : k_in64 z) (k : kW E d mc ms M (pc + 3) L (kJ z :: S) h Q) : kW E d mc ms M pc L (S) h Q :=
  kw_st (fun hS => k_consJ hz hS) (fun p e R s mm args below meth c H ls locs cells slots QQ cx hl hS k => lv_ldc2 cx.1 cx.2.1 cx.2.2.2.1 (cx.2.2.2.2.1 _ hw) hd k) k
theorem kw_ldcw {idx : Nat} {z : Int} (hd : decode M.2.1 pc = .ok (.ldc_w idx, 3)) (hw : Cond.constant M.1.cls idx (Int32.ofInt z) ∈ k_KT) (hz : k_in z) (k : kW E d mc ms M (pc + 3) L (kI z :: S) h Q) : kW E d mc ms M pc L (S) h Q :=
  kw_st (fun hS => k_consI hz hS) (fun p e R s mm args below meth c H ls locs cells slots QQ cx hl hS k => lv_ldcw cx.1 cx.2.1 cx.2.2.2.1 (cx.2.2.2.2.1 _ hw) hd k) k
theorem kw_iload_n {k0 : Fin 4} {x : Int} (hd : decode M.2.1 pc = .ok (.iload_n k0, 1)) (hL : L[(k0 : Nat)]? = some (some (kI x))) (k : kW E d mc ms M (pc + 1) L (kI x :: S) h Q) : kW E d mc ms M pc L S h Q := by
  intro p e R s mm args below meth c H ls locs cells slots QQ cx g1 g2 hl hS hH hR hV kk
  have q := hl.2.2.2 _ _ hL
  have k2 := k p e R s mm args below meth c H ls locs cells slots QQ cx g1 g2 hl (k_cons q.2 hS) hH hR hV kk
  exact lv_iload_n cx.1 cx.2.1 hd rfl q.1 k2
theorem kw_iload {k0 : Nat} {x : Int} (hd : decode M.2.1 pc = .ok (.iload k0, 2)) (hL : L[k0]? = some (some (kI x))) (k : kW E d mc ms M (pc + 2) L (kI x :: S) h Q) : kW E d mc ms M pc L S h Q := by
  intro p e R s mm args below meth c H ls locs cells slots QQ cx g1 g2 hl hS hH hR hV kk
  have q := hl.2.2.2 _ _ hL
  have k2 := k p e R s mm args below meth c H ls locs cells slots QQ cx g1 g2 hl (k_cons q.2 hS) hH hR hV kk
  exact lv_iload cx.1 cx.2.1 hd q.1 k2
theorem kw_lload_n {k0 : Fin 4} {x : Int} (hd : decode M.2.1 pc = .ok (.lload_n k0, 1)) (hL : L[(k0 : Nat)]? = some (some (kJ x))) (k : kW E d mc ms M (pc + 1) L (kJ x :: S) h Q) : kW E d mc ms M pc L S h Q := by
  intro p e R s mm args below meth c H ls locs cells slots QQ cx g1 g2 hl hS hH hR hV kk
  have q := hl.2.2.2 _ _ hL
  have k2 := k p e R s mm args below meth c H ls locs cells slots QQ cx g1 g2 hl (k_cons q.2 hS) hH hR hV kk
  exact lv_lload_n cx.1 cx.2.1 hd rfl q.1 k2
theorem kw_lload {k0 : Nat} {x : Int} (hd : decode M.2.1 pc = .ok (.lload k0, 2)) (hL : L[k0]? = some (some (kJ x))) (k : kW E d mc ms M (pc + 2) L (kJ x :: S) h Q) : kW E d mc ms M pc L S h Q := by
  intro p e R s mm args below meth c H ls locs cells slots QQ cx g1 g2 hl hS hH hR hV kk
  have q := hl.2.2.2 _ _ hL
  have k2 := k p e R s mm args below meth c H ls locs cells slots QQ cx g1 g2 hl (k_cons q.2 hS) hH hR hV kk
  exact lv_lload cx.1 cx.2.1 hd q.1 k2
theorem k_sv {E : kEnv} {s : State} (h : k_stat E s) : ∀ j : Nat, ksv E j = .null ∨ ∃ t : Nat, ksv E j = .ref t := h.2.2.2.2.2.2.2.1
theorem k_rvR {E : kEnv} {s : State} (h : k_stat E s) (r : Option Nat) : k_rv E (kR r) = .null ∨ ∃ t : Nat, k_rv E (kR r) = .ref t := by
  cases r with
  | none => exact Or.inl rfl
  | some a =>
    by_cases ha : a < 1000000
    · exact Or.inr ⟨kb E + a, if_pos ha⟩
    · rcases k_sv h (a - 1000000) with q | ⟨t, q⟩
      · exact Or.inl ((if_neg ha).trans q)
      · exact Or.inr ⟨t, (if_neg ha).trans q⟩
theorem kw_aload_n {k0 : Fin 4} {x : Option Nat} (hd : decode M.2.1 pc = .ok (.aload_n k0, 1)) (hL : L[(k0 : Nat)]? = some (some (kR x))) (k : kW E d mc ms M (pc + 1) L (kR x :: S) h Q) : kW E d mc ms M pc L S h Q := by
  intro p e R s mm args below meth c H ls locs cells slots QQ cx g1 g2 hl hS hH hR hV kk
  have q := hl.2.2.2 _ _ hL
  have k2 := k p e R s mm args below meth c H ls locs cells slots QQ cx g1 g2 hl (k_cons q.2 hS) hH hR hV kk
  rcases k_rvR cx.2.2.2.2.2.2.1 x with z | ⟨t, z⟩
  · have q1 := q.1
    rw [z] at q1
    simp only [List.map_cons, z] at k2
    exact lv_aload_nN cx.1 cx.2.1 hd rfl q1 k2
  · have q1 := q.1
    rw [z] at q1
    simp only [List.map_cons, z] at k2
    exact lv_aload_n cx.1 cx.2.1 hd rfl q1 k2
theorem kw_aload {k0 : Nat} {x : Option Nat} (hd : decode M.2.1 pc = .ok (.aload k0, 2)) (hL : L[k0]? = some (some (kR x))) (k : kW E d mc ms M (pc + 2) L (kR x :: S) h Q) : kW E d mc ms M pc L S h Q := by
  intro p e R s mm args below meth c H ls locs cells slots QQ cx g1 g2 hl hS hH hR hV kk
  have q := hl.2.2.2 _ _ hL
  have k2 := k p e R s mm args below meth c H ls locs cells slots QQ cx g1 g2 hl (k_cons q.2 hS) hH hR hV kk
  rcases k_rvR cx.2.2.2.2.2.2.1 x with z | ⟨t, z⟩
  · have q1 := q.1
    rw [z] at q1
    simp only [List.map_cons, z] at k2
    exact lv_aloadN cx.1 cx.2.1 hd q1 k2
  · have q1 := q.1
    rw [z] at q1
    simp only [List.map_cons, z] at k2
    exact lv_aload cx.1 cx.2.1 hd q1 k2
theorem kw_dupI {x : Int} (hd : decode M.2.1 pc = .ok (.dup, 1)) (k : kW E d mc ms M (pc + 1) L (kI x :: kI x :: S) h Q) : kW E d mc ms M pc L (kI x :: S) h Q :=
  kw_st (fun hS => k_cons (k_tl hS).1 hS) (fun p e R s mm args below meth c H ls locs cells slots QQ cx hl hS k => lv_dup cx.1 cx.2.1 hd rfl k) k
theorem k_cat {E : kEnv} {s : State} (h : k_stat E s) {v : kV} (hv : k_one v) : (k_rv E v).category = 1 := by
  rcases v with z | z | r
  · rfl
  · exact hv.elim
  · rcases k_rvR h r with q | ⟨t, q⟩
    · show (k_rv E (kR r)).category = 1; rw [q]; rfl
    · show (k_rv E (kR r)).category = 1; rw [q]; rfl
theorem kw_dup {v : kV} (hd : decode M.2.1 pc = .ok (.dup, 1)) (hv : k_one v) (k : kW E d mc ms M (pc + 1) L (v :: v :: S) h Q) : kW E d mc ms M pc L (v :: S) h Q :=
  kw_st (fun hS => k_cons (k_tl hS).1 hS) (fun p e R s mm args below meth c H ls locs cells slots QQ cx hl hS k => lv_dup cx.1 cx.2.1 hd (k_cat cx.2.2.2.2.2.2.1 hv) k) k
theorem kw_pop {v : kV} (hd : decode M.2.1 pc = .ok (.pop, 1)) (hv : k_one v) (k : kW E d mc ms M (pc + 1) L (S) h Q) : kW E d mc ms M pc L (v :: S) h Q :=
  kw_st (fun hS => (k_tl hS).2) (fun p e R s mm args below meth c H ls locs cells slots QQ cx hl hS k => lv_pop cx.1 cx.2.1 hd (k_cat cx.2.2.2.2.2.2.1 hv) k) k
theorem kw_dup2 {v w : kV} (hd : decode M.2.1 pc = .ok (.dup2, 1)) (hv : k_one v) (hw : k_one w) (k : kW E d mc ms M (pc + 1) L (v :: w :: v :: w :: S) h Q) : kW E d mc ms M pc L (v :: w :: S) h Q :=
  kw_st (fun hS => k_cons (k_tl hS).1 (k_cons (k_tl (k_tl hS).2).1 hS)) (fun p e R s mm args below meth c H ls locs cells slots QQ cx hl hS k => lv_dup2_11 cx.1 cx.2.1 hd (k_cat cx.2.2.2.2.2.2.1 hv) (k_cat cx.2.2.2.2.2.2.1 hw) k) k
theorem kw_iadd {x y : Int} (hd : decode M.2.1 pc = .ok (.iadd, 1)) (hr : k_in (x + y)) (k : kW E d mc ms M (pc + 1) L (kI (x + y) :: S) h Q) : kW E d mc ms M pc L (kI y :: kI x :: S) h Q :=
  kw_st (fun hS => k_consI hr (k_tl (k_tl hS).2).2) (fun p e R s mm args below meth c H ls locs cells slots QQ cx hl hS k => (by
    have e1 : Int32.ofInt x + Int32.ofInt y = Int32.ofInt (x + y) := (Int32.ofInt_add x y).symm
    refine lv_iadd cx.1 cx.2.1 hd ?_
    rw [e1]
    exact k)) k
theorem kw_isub {x y : Int} (hd : decode M.2.1 pc = .ok (.isub, 1)) (hr : k_in (x - y)) (k : kW E d mc ms M (pc + 1) L (kI (x - y) :: S) h Q) : kW E d mc ms M pc L (kI y :: kI x :: S) h Q :=
  kw_st (fun hS => k_consI hr (k_tl (k_tl hS).2).2) (fun p e R s mm args below meth c H ls locs cells slots QQ cx hl hS k => (by
    have e1 : Int32.ofInt x - Int32.ofInt y = Int32.ofInt (x - y) := (Int32.ofInt_sub x y).symm
    refine lv_isub cx.1 cx.2.1 hd ?_
    rw [e1]
    exact k)) k
theorem kw_imul {x y : Int} (hd : decode M.2.1 pc = .ok (.imul, 1)) (hr : k_in (x * y)) (k : kW E d mc ms M (pc + 1) L (kI (x * y) :: S) h Q) : kW E d mc ms M pc L (kI y :: kI x :: S) h Q :=
  kw_st (fun hS => k_consI hr (k_tl (k_tl hS).2).2) (fun p e R s mm args below meth c H ls locs cells slots QQ cx hl hS k => (by
    have e1 : Int32.ofInt x * Int32.ofInt y = Int32.ofInt (x * y) := (Int32.ofInt_mul x y).symm
    refine lv_imul cx.1 cx.2.1 hd ?_
    rw [e1]
    exact k)) k
theorem kw_iandG {x y z : Int} (hd : decode M.2.1 pc = .ok (.iand, 1)) (hz : k_in z) (he : Int32.ofInt x &&& Int32.ofInt y = Int32.ofInt z) (k : kW E d mc ms M (pc + 1) L (kI z :: S) h Q) : kW E d mc ms M pc L (kI y :: kI x :: S) h Q :=
  kw_st (fun hS => k_consI hz (k_tl (k_tl hS).2).2) (fun p e R s mm args below meth c H ls locs cells slots QQ cx hl hS k => (by
    refine lv_iand cx.1 cx.2.1 hd ?_
    rw [he]
    exact k)) k
theorem kw_iorG {x y z : Int} (hd : decode M.2.1 pc = .ok (.ior, 1)) (hz : k_in z) (he : Int32.ofInt x ||| Int32.ofInt y = Int32.ofInt z) (k : kW E d mc ms M (pc + 1) L (kI z :: S) h Q) : kW E d mc ms M pc L (kI y :: kI x :: S) h Q :=
  kw_st (fun hS => k_consI hz (k_tl (k_tl hS).2).2) (fun p e R s mm args below meth c H ls locs cells slots QQ cx hl hS k => (by
    refine lv_ior cx.1 cx.2.1 hd ?_
    rw [he]
    exact k)) k
theorem kw_ixorG {x y z : Int} (hd : decode M.2.1 pc = .ok (.ixor, 1)) (hz : k_in z) (he : Int32.ofInt x ^^^ Int32.ofInt y = Int32.ofInt z) (k : kW E d mc ms M (pc + 1) L (kI z :: S) h Q) : kW E d mc ms M pc L (kI y :: kI x :: S) h Q :=
  kw_st (fun hS => k_consI hz (k_tl (k_tl hS).2).2) (fun p e R s mm args below meth c H ls locs cells slots QQ cx hl hS k => (by
    refine lv_ixor cx.1 cx.2.1 hd ?_
    rw [he]
    exact k)) k
theorem kw_ishlG {x y z : Int} (hd : decode M.2.1 pc = .ok (.ishl, 1)) (hz : k_in z) (he : Int32.ofInt x <<< (Int32.ofInt y &&& 31) = Int32.ofInt z) (k : kW E d mc ms M (pc + 1) L (kI z :: S) h Q) : kW E d mc ms M pc L (kI y :: kI x :: S) h Q :=
  kw_st (fun hS => k_consI hz (k_tl (k_tl hS).2).2) (fun p e R s mm args below meth c H ls locs cells slots QQ cx hl hS k => (by
    refine lv_ishl cx.1 cx.2.1 hd ?_
    rw [he]
    exact k)) k
theorem kw_ishrG {x y z : Int} (hd : decode M.2.1 pc = .ok (.ishr, 1)) (hz : k_in z) (he : Int32.ofInt x >>> (Int32.ofInt y &&& 31) = Int32.ofInt z) (k : kW E d mc ms M (pc + 1) L (kI z :: S) h Q) : kW E d mc ms M pc L (kI y :: kI x :: S) h Q :=
  kw_st (fun hS => k_consI hz (k_tl (k_tl hS).2).2) (fun p e R s mm args below meth c H ls locs cells slots QQ cx hl hS k => (by
    refine lv_ishr cx.1 cx.2.1 hd ?_
    rw [he]
    exact k)) k
theorem kw_iushrG {x y z : Int} (hd : decode M.2.1 pc = .ok (.iushr, 1)) (hz : k_in z) (he : ((Int32.ofInt x).toUInt32 >>> ((Int32.ofInt y).toUInt32 &&& Int32.toUInt32 31)).toInt32 = Int32.ofInt z) (k : kW E d mc ms M (pc + 1) L (kI z :: S) h Q) : kW E d mc ms M pc L (kI y :: kI x :: S) h Q :=
  kw_st (fun hS => k_consI hz (k_tl (k_tl hS).2).2) (fun p e R s mm args below meth c H ls locs cells slots QQ cx hl hS k => lv_iushr cx.1 cx.2.1 hd he k) k
theorem hq {x y : Int} (hx : k_in x) (hm : (x.tdiv y).natAbs ≤ x.natAbs) (h0 : 0 < y) : k_in (x.tdiv y) := by
  have a := hx.1
  have b := hx.2
  rcases Int.lt_or_le x 0 with c | c
  · have e1 : x.tdiv y = -((-x) / y) := by
      have e2 : x = -(-x) := by omega
      rw [e2, Int.neg_tdiv, Int.tdiv_eq_ediv_of_nonneg (by omega)]
      simp
    have e3 : 0 ≤ (-x) / y := Int.ediv_nonneg (by omega) (by omega)
    exact ⟨by omega, by omega⟩
  · have e1 : x.tdiv y = x / y := Int.tdiv_eq_ediv_of_nonneg c
    have e3 : 0 ≤ x / y := Int.ediv_nonneg c (by omega)
    exact ⟨by omega, by omega⟩
theorem k_div {x y : Int} (hx : k_in x) (hy : k_in y) (h0 : 0 < y) : Int32.ofInt x / Int32.ofInt y = Int32.ofInt (x.tdiv y) := by
  apply Int32.toInt_inj.mp
  have hm : (x.tdiv y).natAbs ≤ x.natAbs := Int.natAbs_tdiv_le_natAbs x y
  have hn : Int32.ofInt y ≠ -1 := by
    intro q
    have q2 := congrArg Int32.toInt q
    rw [k_ti hy] at q2
    rw [q2] at h0
    exact absurd h0 (by decide)
  rw [Int32.toInt_div_of_ne_right _ _ hn, k_ti hx, k_ti hy]
  rw [k_ti (z := x.tdiv y) (hq hx hm h0)]
theorem kw_idiv {x y : Int} (hd : decode M.2.1 pc = .ok (.idiv, 1)) (h0 : 0 ≤ x) (h1 : 0 < y) (k : kW E d mc ms M (pc + 1) L (kI (x / y) :: S) h Q) : kW E d mc ms M pc L (kI y :: kI x :: S) h Q :=
  kw_st (fun hS => k_consI (by
    have a : k_in x := (k_tl (k_tl hS).2).1
    have e3 : 0 ≤ x / y := Int.ediv_nonneg h0 (by omega)
    have e4 : x / y ≤ x := Int.ediv_le_self y h0
    exact ⟨by have := a.1; omega, by have := a.2; omega⟩) (k_tl (k_tl hS).2).2) (fun p e R s mm args below meth c H ls locs cells slots QQ cx hl hS k => (by
    have hy : k_in y := (k_tl hS).1
    have hx : k_in x := (k_tl (k_tl hS).2).1
    have hne : ¬ Int32.ofInt y = 0 := fun q => by
      have q2 := congrArg Int32.toInt q
      rw [k_ti hy, Int32.toInt_zero] at q2
      omega
    refine lv_idiv cx.1 cx.2.1 hd hne ?_
    rw [k_div hx hy h1, Int.tdiv_eq_ediv_of_nonneg h0]
    exact k)) k
theorem kw_irem {x y : Int} (hd : decode M.2.1 pc = .ok (.irem, 1)) (h0 : 0 ≤ x) (h1 : 0 < y) (k : kW E d mc ms M (pc + 1) L (kI (x % y) :: S) h Q) : kW E d mc ms M pc L (kI y :: kI x :: S) h Q :=
  kw_st (fun hS => k_consI (by
    have a : k_in y := (k_tl hS).1
    have e3 : 0 ≤ x % y := Int.emod_nonneg x (by omega)
    have e4 : x % y < y := Int.emod_lt_of_pos x h1
    exact ⟨by have := a.1; omega, by have := a.2; omega⟩) (k_tl (k_tl hS).2).2) (fun p e R s mm args below meth c H ls locs cells slots QQ cx hl hS k => (by
    have hy : k_in y := (k_tl hS).1
    have hx : k_in x := (k_tl (k_tl hS).2).1
    have hne : ¬ Int32.ofInt y = 0 := fun q => by
      have q2 := congrArg Int32.toInt q
      rw [k_ti hy, Int32.toInt_zero] at q2
      omega
    refine lv_irem cx.1 cx.2.1 hd hne ?_
    have e1 : Int32.ofInt x - Int32.ofInt x / Int32.ofInt y * Int32.ofInt y = Int32.ofInt (x % y) := by
      rw [k_div hx hy h1, Int.tdiv_eq_ediv_of_nonneg h0, ← Int32.ofInt_mul, ← Int32.ofInt_sub]
      congr 1
      have := Int.emod_def x y
      rw [this, Int.mul_comm]
    rw [e1]
    exact k)) k
theorem kw_ladd {x y : Int} (hd : decode M.2.1 pc = .ok (.ladd, 1)) (hr : k_in64 (x + y)) (k : kW E d mc ms M (pc + 1) L (kJ (x + y) :: S) h Q) : kW E d mc ms M pc L (kJ y :: kJ x :: S) h Q :=
  kw_st (fun hS => k_consJ hr (k_tl (k_tl hS).2).2) (fun p e R s mm args below meth c H ls locs cells slots QQ cx hl hS k => (by
    refine lv_ladd cx.1 cx.2.1 hd ?_
    rw [← Int64.ofInt_add]
    exact k)) k
theorem kw_lmul {x y : Int} (hd : decode M.2.1 pc = .ok (.lmul, 1)) (hr : k_in64 (x * y)) (k : kW E d mc ms M (pc + 1) L (kJ (x * y) :: S) h Q) : kW E d mc ms M pc L (kJ y :: kJ x :: S) h Q :=
  kw_st (fun hS => k_consJ hr (k_tl (k_tl hS).2).2) (fun p e R s mm args below meth c H ls locs cells slots QQ cx hl hS k => (by
    refine lv_lmul cx.1 cx.2.1 hd ?_
    rw [← Int64.ofInt_mul]
    exact k)) k
theorem k_ldivE {x y : Int} (hx : k_in64 x) (hy : k_in64 y) (h0 : 0 ≤ x) (h1 : 0 < y) : Int64.ofInt x / Int64.ofInt y = Int64.ofInt (x / y) := by
  apply Int64.toInt_inj.mp
  have hn : Int64.ofInt y ≠ -1 := by
    intro q
    have q2 := congrArg Int64.toInt q
    rw [k_tj hy] at q2
    rw [q2] at h1
    exact absurd h1 (by decide)
  have e3 : 0 ≤ x / y := Int.ediv_nonneg h0 (by omega)
  have e4 : x / y ≤ x := Int.ediv_le_self y h0
  have a := hx.2
  rw [Int64.toInt_div_of_ne_right _ _ hn, k_tj hx, k_tj hy, Int.tdiv_eq_ediv_of_nonneg h0, k_tj ⟨by omega, by omega⟩]
theorem k_lne {y : Int} (hy : k_in64 y) (h1 : 0 < y) : ¬ Int64.ofInt y = 0 := fun q => by
  have q2 := congrArg Int64.toInt q
  rw [k_tj hy, Int64.toInt_zero] at q2
  omega
theorem kw_ldiv {x y : Int} (hd : decode M.2.1 pc = .ok (.ldiv, 1)) (h0 : 0 ≤ x) (h1 : 0 < y) (k : kW E d mc ms M (pc + 1) L (kJ (x / y) :: S) h Q) : kW E d mc ms M pc L (kJ y :: kJ x :: S) h Q :=
  kw_st (fun hS => k_consJ (by
    have a : k_in64 x := (k_tl (k_tl hS).2).1
    have e3 : 0 ≤ x / y := Int.ediv_nonneg h0 (by omega)
    have e4 : x / y ≤ x := Int.ediv_le_self y h0
    exact ⟨by have := a.1; omega, by have := a.2; omega⟩) (k_tl (k_tl hS).2).2) (fun p e R s mm args below meth c H ls locs cells slots QQ cx hl hS k => (by
    have hy : k_in64 y := (k_tl hS).1
    have hx : k_in64 x := (k_tl (k_tl hS).2).1
    refine lv_ldiv cx.1 cx.2.1 hd (k_lne hy h1) ?_
    rw [k_ldivE hx hy h0 h1]
    exact k)) k
theorem kw_lrem {x y : Int} (hd : decode M.2.1 pc = .ok (.lrem, 1)) (h0 : 0 ≤ x) (h1 : 0 < y) (k : kW E d mc ms M (pc + 1) L (kJ (x % y) :: S) h Q) : kW E d mc ms M pc L (kJ y :: kJ x :: S) h Q :=
  kw_st (fun hS => k_consJ (by
    have a : k_in64 y := (k_tl hS).1
    have e3 : 0 ≤ x % y := Int.emod_nonneg x (by omega)
    have e4 : x % y < y := Int.emod_lt_of_pos x h1
    exact ⟨by have := a.1; omega, by have := a.2; omega⟩) (k_tl (k_tl hS).2).2) (fun p e R s mm args below meth c H ls locs cells slots QQ cx hl hS k => (by
    have hy : k_in64 y := (k_tl hS).1
    have hx : k_in64 x := (k_tl (k_tl hS).2).1
    refine lv_lrem cx.1 cx.2.1 hd (k_lne hy h1) ?_
    have e1 : Int64.ofInt x - Int64.ofInt x / Int64.ofInt y * Int64.ofInt y = Int64.ofInt (x % y) := by
      rw [k_ldivE hx hy h0 h1, ← Int64.ofInt_mul, ← Int64.ofInt_sub]
      congr 1
      have := Int.emod_def x y
      rw [this, Int.mul_comm]
    rw [e1]
    exact k)) k
theorem kw_i2l {x : Int} (hd : decode M.2.1 pc = .ok (.i2l, 1)) (k : kW E d mc ms M (pc + 1) L (kJ x :: S) h Q) : kW E d mc ms M pc L (kI x :: S) h Q :=
  kw_st (fun hS => k_consJ (by
    have a : k_in x := (k_tl hS).1
    exact ⟨by have := a.1; omega, by have := a.2; omega⟩) (k_tl hS).2) (fun p e R s mm args below meth c H ls locs cells slots QQ cx hl hS k => (by
    have hx : k_in x := (k_tl hS).1
    refine lv_i2l cx.1 cx.2.1 hd (v := Int64.ofInt x) ?_ k
    apply Int64.toInt_inj.mp
    rw [Int32.toInt_toInt64, k_ti hx, k_tj ⟨by have := hx.1; omega, by have := hx.2; omega⟩])) k
theorem kw_l2i {x : Int} (hd : decode M.2.1 pc = .ok (.l2i, 1)) (hr : k_in x) (k : kW E d mc ms M (pc + 1) L (kI x :: S) h Q) : kW E d mc ms M pc L (kJ x :: S) h Q :=
  kw_st (fun hS => k_consI hr (k_tl hS).2) (fun p e R s mm args below meth c H ls locs cells slots QQ cx hl hS k => (by
    refine lv_l2i cx.1 cx.2.1 hd (v := Int32.ofInt x) ?_ k
    rw [Int64.toInt32_ofInt])) k
theorem kw_i2c {x : Int} (hd : decode M.2.1 pc = .ok (.i2c, 1)) (h0 : 0 ≤ x) (h1 : x < 65536) (k : kW E d mc ms M (pc + 1) L (kI x :: S) h Q) : kW E d mc ms M pc L (kI x :: S) h Q :=
  kw_st (fun hS => hS) (fun p e R s mm args below meth c H ls locs cells slots QQ cx hl hS k => (by
    refine lv_i2c cx.1 cx.2.1 hd (v := Int32.ofInt x) ?_ k
    obtain ⟨n, rfl⟩ := Int.eq_ofNat_of_zero_le h0
    rw [Int32.ofInt_eq_ofNat]
    have hn : n < 65536 := by omega
    have := pk_char (nI n)
    rw [pk_tn (by omega), Nat.mod_eq_of_lt hn] at this
    exact this)) k
theorem k_eqi {x y : Int} (hx : k_in x) (hy : k_in y) : Int32.ofInt x = Int32.ofInt y ↔ x = y := ⟨fun q => by have := congrArg Int32.toInt q; rwa [k_ti hx, k_ti hy] at this, fun q => by rw [q]⟩
theorem k_lei {x y : Int} (hx : k_in x) (hy : k_in y) : Int32.ofInt x ≤ Int32.ofInt y ↔ x ≤ y := by rw [Int32.le_iff_toInt_le, k_ti hx, k_ti hy]
theorem k_lti {x y : Int} (hx : k_in x) (hy : k_in y) : Int32.ofInt x < Int32.ofInt y ↔ x < y := by rw [Int32.lt_iff_toInt_lt, k_ti hx, k_ti hy]
theorem k_z : (0 : Int32) = Int32.ofInt 0 := rfl
theorem k_in0 : k_in 0 := ⟨by decide, by decide⟩
theorem kw_if_eq {x : Int} {off : Int} {tgt : Nat} (hd : decode M.2.1 pc = .ok (.ifCond .eq off, 3)) (ht : (pc : Int) + off = (tgt : Int)) (kt : x = 0 → kW E d mc ms M tgt L S h Q) (kf : ¬ (x = 0) → kW E d mc ms M (pc + 3) L S h Q) : kW E d mc ms M pc L (kI x :: S) h Q := by
  intro p e R s mm args below meth c H ls locs cells slots QQ cx g1 g2 hl hS hH hR hV kk
  have hx : k_in x := (k_tl hS).1
  have hS2 := (k_tl hS).2
  exact lv_if_eq cx.1 cx.2.1 hd ht (fun q => by rw [k_z] at q; exact kt ((k_eqi hx k_in0).mp q) p e R s mm args below meth c H ls locs cells slots QQ cx g1 g2 hl hS2 hH hR hV kk) (fun q => by rw [k_z] at q; exact kf (fun z => q ((k_eqi hx k_in0).mpr z)) p e R s mm args below meth c H ls locs cells slots QQ cx g1 g2 hl hS2 hH hR hV kk)
theorem kw_icmp_eq {x y : Int} {off : Int} {tgt : Nat} (hd : decode M.2.1 pc = .ok (.if_icmp .eq off, 3)) (ht : (pc : Int) + off = (tgt : Int)) (kt : x = y → kW E d mc ms M tgt L S h Q) (kf : ¬ (x = y) → kW E d mc ms M (pc + 3) L S h Q) : kW E d mc ms M pc L (kI y :: kI x :: S) h Q := by
  intro p e R s mm args below meth c H ls locs cells slots QQ cx g1 g2 hl hS hH hR hV kk
  have hy : k_in y := (k_tl hS).1
  have hx : k_in x := (k_tl (k_tl hS).2).1
  have hS2 := (k_tl (k_tl hS).2).2
  exact lv_icmp_eq cx.1 cx.2.1 hd ht (fun q => by exact kt ((k_eqi hx hy).mp q) p e R s mm args below meth c H ls locs cells slots QQ cx g1 g2 hl hS2 hH hR hV kk) (fun q => by exact kf (fun z => q ((k_eqi hx hy).mpr z)) p e R s mm args below meth c H ls locs cells slots QQ cx g1 g2 hl hS2 hH hR hV kk)
theorem kw_if_ne {x : Int} {off : Int} {tgt : Nat} (hd : decode M.2.1 pc = .ok (.ifCond .ne off, 3)) (ht : (pc : Int) + off = (tgt : Int)) (kt : x ≠ 0 → kW E d mc ms M tgt L S h Q) (kf : ¬ (x ≠ 0) → kW E d mc ms M (pc + 3) L S h Q) : kW E d mc ms M pc L (kI x :: S) h Q := by
  intro p e R s mm args below meth c H ls locs cells slots QQ cx g1 g2 hl hS hH hR hV kk
  have hx : k_in x := (k_tl hS).1
  have hS2 := (k_tl hS).2
  exact lv_if_ne cx.1 cx.2.1 hd ht (fun q => by rw [k_z] at q; exact kt (fun z => q ((k_eqi hx k_in0).mpr z)) p e R s mm args below meth c H ls locs cells slots QQ cx g1 g2 hl hS2 hH hR hV kk) (fun q => by rw [k_z] at q; exact kf (fun z => z ((k_eqi hx k_in0).mp q)) p e R s mm args below meth c H ls locs cells slots QQ cx g1 g2 hl hS2 hH hR hV kk)
theorem kw_icmp_ne {x y : Int} {off : Int} {tgt : Nat} (hd : decode M.2.1 pc = .ok (.if_icmp .ne off, 3)) (ht : (pc : Int) + off = (tgt : Int)) (kt : x ≠ y → kW E d mc ms M tgt L S h Q) (kf : ¬ (x ≠ y) → kW E d mc ms M (pc + 3) L S h Q) : kW E d mc ms M pc L (kI y :: kI x :: S) h Q := by
  intro p e R s mm args below meth c H ls locs cells slots QQ cx g1 g2 hl hS hH hR hV kk
  have hy : k_in y := (k_tl hS).1
  have hx : k_in x := (k_tl (k_tl hS).2).1
  have hS2 := (k_tl (k_tl hS).2).2
  exact lv_icmp_ne cx.1 cx.2.1 hd ht (fun q => by exact kt (fun z => q ((k_eqi hx hy).mpr z)) p e R s mm args below meth c H ls locs cells slots QQ cx g1 g2 hl hS2 hH hR hV kk) (fun q => by exact kf (fun z => z ((k_eqi hx hy).mp q)) p e R s mm args below meth c H ls locs cells slots QQ cx g1 g2 hl hS2 hH hR hV kk)
theorem kw_if_lt {x : Int} {off : Int} {tgt : Nat} (hd : decode M.2.1 pc = .ok (.ifCond .lt off, 3)) (ht : (pc : Int) + off = (tgt : Int)) (kt : x < 0 → kW E d mc ms M tgt L S h Q) (kf : ¬ (x < 0) → kW E d mc ms M (pc + 3) L S h Q) : kW E d mc ms M pc L (kI x :: S) h Q := by
  intro p e R s mm args below meth c H ls locs cells slots QQ cx g1 g2 hl hS hH hR hV kk
  have hx : k_in x := (k_tl hS).1
  have hS2 := (k_tl hS).2
  exact lv_if_lt cx.1 cx.2.1 hd ht (fun q => by rw [k_z] at q; exact kt ((k_lti hx k_in0).mp q) p e R s mm args below meth c H ls locs cells slots QQ cx g1 g2 hl hS2 hH hR hV kk) (fun q => by rw [k_z] at q; exact kf (fun z => q ((k_lti hx k_in0).mpr z)) p e R s mm args below meth c H ls locs cells slots QQ cx g1 g2 hl hS2 hH hR hV kk)
theorem kw_icmp_lt {x y : Int} {off : Int} {tgt : Nat} (hd : decode M.2.1 pc = .ok (.if_icmp .lt off, 3)) (ht : (pc : Int) + off = (tgt : Int)) (kt : x < y → kW E d mc ms M tgt L S h Q) (kf : ¬ (x < y) → kW E d mc ms M (pc + 3) L S h Q) : kW E d mc ms M pc L (kI y :: kI x :: S) h Q := by
  intro p e R s mm args below meth c H ls locs cells slots QQ cx g1 g2 hl hS hH hR hV kk
  have hy : k_in y := (k_tl hS).1
  have hx : k_in x := (k_tl (k_tl hS).2).1
  have hS2 := (k_tl (k_tl hS).2).2
  exact lv_icmp_lt cx.1 cx.2.1 hd ht (fun q => by exact kt ((k_lti hx hy).mp q) p e R s mm args below meth c H ls locs cells slots QQ cx g1 g2 hl hS2 hH hR hV kk) (fun q => by exact kf (fun z => q ((k_lti hx hy).mpr z)) p e R s mm args below meth c H ls locs cells slots QQ cx g1 g2 hl hS2 hH hR hV kk)
theorem kw_if_ge {x : Int} {off : Int} {tgt : Nat} (hd : decode M.2.1 pc = .ok (.ifCond .ge off, 3)) (ht : (pc : Int) + off = (tgt : Int)) (kt : 0 ≤ x → kW E d mc ms M tgt L S h Q) (kf : ¬ (0 ≤ x) → kW E d mc ms M (pc + 3) L S h Q) : kW E d mc ms M pc L (kI x :: S) h Q := by
  intro p e R s mm args below meth c H ls locs cells slots QQ cx g1 g2 hl hS hH hR hV kk
  have hx : k_in x := (k_tl hS).1
  have hS2 := (k_tl hS).2
  exact lv_if_ge cx.1 cx.2.1 hd ht (fun q => by rw [k_z] at q; exact kt ((k_lei k_in0 hx).mp q) p e R s mm args below meth c H ls locs cells slots QQ cx g1 g2 hl hS2 hH hR hV kk) (fun q => by rw [k_z] at q; exact kf (fun z => q ((k_lei k_in0 hx).mpr z)) p e R s mm args below meth c H ls locs cells slots QQ cx g1 g2 hl hS2 hH hR hV kk)
theorem kw_icmp_ge {x y : Int} {off : Int} {tgt : Nat} (hd : decode M.2.1 pc = .ok (.if_icmp .ge off, 3)) (ht : (pc : Int) + off = (tgt : Int)) (kt : y ≤ x → kW E d mc ms M tgt L S h Q) (kf : ¬ (y ≤ x) → kW E d mc ms M (pc + 3) L S h Q) : kW E d mc ms M pc L (kI y :: kI x :: S) h Q := by
  intro p e R s mm args below meth c H ls locs cells slots QQ cx g1 g2 hl hS hH hR hV kk
  have hy : k_in y := (k_tl hS).1
  have hx : k_in x := (k_tl (k_tl hS).2).1
  have hS2 := (k_tl (k_tl hS).2).2
  exact lv_icmp_ge cx.1 cx.2.1 hd ht (fun q => by exact kt ((k_lei hy hx).mp q) p e R s mm args below meth c H ls locs cells slots QQ cx g1 g2 hl hS2 hH hR hV kk) (fun q => by exact kf (fun z => q ((k_lei hy hx).mpr z)) p e R s mm args below meth c H ls locs cells slots QQ cx g1 g2 hl hS2 hH hR hV kk)
theorem kw_if_gt {x : Int} {off : Int} {tgt : Nat} (hd : decode M.2.1 pc = .ok (.ifCond .gt off, 3)) (ht : (pc : Int) + off = (tgt : Int)) (kt : 0 < x → kW E d mc ms M tgt L S h Q) (kf : ¬ (0 < x) → kW E d mc ms M (pc + 3) L S h Q) : kW E d mc ms M pc L (kI x :: S) h Q := by
  intro p e R s mm args below meth c H ls locs cells slots QQ cx g1 g2 hl hS hH hR hV kk
  have hx : k_in x := (k_tl hS).1
  have hS2 := (k_tl hS).2
  exact lv_if_gt cx.1 cx.2.1 hd ht (fun q => by rw [k_z] at q; exact kt ((k_lti k_in0 hx).mp q) p e R s mm args below meth c H ls locs cells slots QQ cx g1 g2 hl hS2 hH hR hV kk) (fun q => by rw [k_z] at q; exact kf (fun z => q ((k_lti k_in0 hx).mpr z)) p e R s mm args below meth c H ls locs cells slots QQ cx g1 g2 hl hS2 hH hR hV kk)
theorem kw_icmp_gt {x y : Int} {off : Int} {tgt : Nat} (hd : decode M.2.1 pc = .ok (.if_icmp .gt off, 3)) (ht : (pc : Int) + off = (tgt : Int)) (kt : y < x → kW E d mc ms M tgt L S h Q) (kf : ¬ (y < x) → kW E d mc ms M (pc + 3) L S h Q) : kW E d mc ms M pc L (kI y :: kI x :: S) h Q := by
  intro p e R s mm args below meth c H ls locs cells slots QQ cx g1 g2 hl hS hH hR hV kk
  have hy : k_in y := (k_tl hS).1
  have hx : k_in x := (k_tl (k_tl hS).2).1
  have hS2 := (k_tl (k_tl hS).2).2
  exact lv_icmp_gt cx.1 cx.2.1 hd ht (fun q => by exact kt ((k_lti hy hx).mp q) p e R s mm args below meth c H ls locs cells slots QQ cx g1 g2 hl hS2 hH hR hV kk) (fun q => by exact kf (fun z => q ((k_lti hy hx).mpr z)) p e R s mm args below meth c H ls locs cells slots QQ cx g1 g2 hl hS2 hH hR hV kk)
theorem kw_if_le {x : Int} {off : Int} {tgt : Nat} (hd : decode M.2.1 pc = .ok (.ifCond .le off, 3)) (ht : (pc : Int) + off = (tgt : Int)) (kt : x ≤ 0 → kW E d mc ms M tgt L S h Q) (kf : ¬ (x ≤ 0) → kW E d mc ms M (pc + 3) L S h Q) : kW E d mc ms M pc L (kI x :: S) h Q := by
  intro p e R s mm args below meth c H ls locs cells slots QQ cx g1 g2 hl hS hH hR hV kk
  have hx : k_in x := (k_tl hS).1
  have hS2 := (k_tl hS).2
  exact lv_if_le cx.1 cx.2.1 hd ht (fun q => by rw [k_z] at q; exact kt ((k_lei hx k_in0).mp q) p e R s mm args below meth c H ls locs cells slots QQ cx g1 g2 hl hS2 hH hR hV kk) (fun q => by rw [k_z] at q; exact kf (fun z => q ((k_lei hx k_in0).mpr z)) p e R s mm args below meth c H ls locs cells slots QQ cx g1 g2 hl hS2 hH hR hV kk)
theorem kw_icmp_le {x y : Int} {off : Int} {tgt : Nat} (hd : decode M.2.1 pc = .ok (.if_icmp .le off, 3)) (ht : (pc : Int) + off = (tgt : Int)) (kt : x ≤ y → kW E d mc ms M tgt L S h Q) (kf : ¬ (x ≤ y) → kW E d mc ms M (pc + 3) L S h Q) : kW E d mc ms M pc L (kI y :: kI x :: S) h Q := by
  intro p e R s mm args below meth c H ls locs cells slots QQ cx g1 g2 hl hS hH hR hV kk
  have hy : k_in y := (k_tl hS).1
  have hx : k_in x := (k_tl (k_tl hS).2).1
  have hS2 := (k_tl (k_tl hS).2).2
  exact lv_icmp_le cx.1 cx.2.1 hd ht (fun q => by exact kt ((k_lei hx hy).mp q) p e R s mm args below meth c H ls locs cells slots QQ cx g1 g2 hl hS2 hH hR hV kk) (fun q => by exact kf (fun z => q ((k_lei hx hy).mpr z)) p e R s mm args below meth c H ls locs cells slots QQ cx g1 g2 hl hS2 hH hR hV kk)
theorem kw_goto {off : Int} {tgt : Nat} (hd : decode M.2.1 pc = .ok (.goto off, 3)) (ht : (pc : Int) + off = (tgt : Int)) (k : kW E d mc ms M tgt L S h Q) : kW E d mc ms M pc L S h Q :=
  kw_st (fun hS => hS) (fun p e R s mm args below meth c H ls locs cells slots QQ cx hl hS k => lv_goto cx.1 cx.2.1 hd ht k) k
theorem kw_ifnullA {a : Nat} (ha : a < 1000000) {off : Int} (hd : decode M.2.1 pc = .ok (.ifnull off, 3)) (k : kW E d mc ms M (pc + 3) L S h Q) : kW E d mc ms M pc L (kA a :: S) h Q :=
  kw_st (fun hS => (k_tl hS).2) (fun p e R s mm args below meth c H ls locs cells slots QQ cx hl hS k => (by
    have z : k_rv E (kA a) = .ref (kb E + a) := if_pos ha
    rw [List.map_cons, z]
    exact lv_ifnull cx.1 cx.2.1 hd k)) k
theorem kw_tblIn {x : Int} {df lo hi : Int} {offs : Array Int} {len : Nat} {off : Int} {tgt : Nat} (hd : decode M.2.1 pc = .ok (.tableswitch df lo hi offs, len)) (h1 : lo ≤ x) (h2 : x ≤ hi) (ho : offs[(x - lo).toNat]? = some off) (ht : (pc : Int) + off = (tgt : Int)) (k : kW E d mc ms M tgt L S h Q) : kW E d mc ms M pc L (kI x :: S) h Q :=
  kw_st (fun hS => (k_tl hS).2) (fun p e R s mm args below meth c H ls locs cells slots QQ cx hl hS k => (by
    have hx : k_in x := (k_tl hS).1
    exact lv_tableIn cx.1 cx.2.1 hd (x := Int32.ofInt x) (by rw [k_ti hx]; omega) (by rw [k_ti hx]; omega) (by rw [k_ti hx]; exact ho) ht k)) k
theorem kw_tblOut {x : Int} {df lo hi : Int} {offs : Array Int} {len : Nat} {tgt : Nat} (hd : decode M.2.1 pc = .ok (.tableswitch df lo hi offs, len)) (h1 : x < lo ∨ hi < x) (ht : (pc : Int) + df = (tgt : Int)) (k : kW E d mc ms M tgt L S h Q) : kW E d mc ms M pc L (kI x :: S) h Q :=
  kw_st (fun hS => (k_tl hS).2) (fun p e R s mm args below meth c H ls locs cells slots QQ cx hl hS k => (by
    have hx : k_in x := (k_tl hS).1
    exact lv_tableOut cx.1 cx.2.1 hd (x := Int32.ofInt x) (by rw [k_ti hx]; exact h1) ht k)) k
theorem kw_look {x : Int} {df : Int} {ps : Array (Int × Int)} {len : Nat} {off : Int} {tgt : Nat} (hd : decode M.2.1 pc = .ok (.lookupswitch df ps, len)) (hp : (ps.toList.zip (ps.toList.drop 1)).all (fun (a, next) => a.1 < next.1) = true) (ho : Op.lookupswitch.offset ps.toList df x = off) (ht : (pc : Int) + off = (tgt : Int)) (k : kW E d mc ms M tgt L S h Q) : kW E d mc ms M pc L (kI x :: S) h Q :=
  kw_st (fun hS => (k_tl hS).2) (fun p e R s mm args below meth c H ls locs cells slots QQ cx hl hS k => (by
    have hx : k_in x := (k_tl hS).1
    exact lv_lookup cx.1 cx.2.1 hd (x := Int32.ofInt x) hp (by rw [k_ti hx]; exact ho) ht k)) k
end KW1
