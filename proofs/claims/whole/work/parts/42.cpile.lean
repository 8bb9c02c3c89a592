/-! the class's piles -/
/-- the states that lie in a pile's row -/
def kPile (g : Nat → Int → Option Nat) (a : Nat) (n : Int) (st : Int → Nat) : Prop := ∀ i, 0 ≤ i → i < n → g a i = some (st i) ∧ kSA (st i)
def kRo (g : Nat → Int → Option Nat) (k : Int) : Nat → Int → Option Nat := fun b i => if b = 13 ∧ 0 ≤ i ∧ i < k - 1 then g 13 (i + 1) else g b i
theorem kRo_1 {g : Nat → Int → Option Nat} : kRo g 1 = g := by
  funext b i
  exact if_neg (by omega)
theorem kRo_k {g : Nat → Int → Option Nat} {k : Int} : kRo g k 13 k = g 13 k := if_neg (by omega)
theorem kRo_s {g : Nat → Int → Option Nat} {k : Int} {b : Nat} (h : 1 ≤ k) (e : g 13 k = some b) : k_u (kRo g k) 13 (k - 1) (some b) = kRo g (k + 1) := by
  funext c i
  by_cases q : c = 13 ∧ i = k - 1
  · have z : kRo g (k + 1) 13 (k - 1) = g 13 (k - 1 + 1) := if_pos (by omega)
    rw [q.1, q.2, k_u_self, z, show k - 1 + 1 = k by omega, e]
  · have e2 : k_u (kRo g k) 13 (k - 1) (some b) c i = kRo g k c i := if_neg q
    rw [e2]
    unfold kRo
    by_cases q2 : c = 13 ∧ 0 ≤ i ∧ i < k - 1
    · exact (if_pos q2).trans (if_pos (by omega)).symm
    · exact (if_neg q2).trans (if_neg (by omega)).symm
theorem kG_ro {g : Nat → Int → Option Nat} {k : Int} (hg : kG g) : kG (kRo g k) := by
  intro q hq
  have h := hg q hq
  have hne : q.1 ≠ 13 := by
    have z : ∀ q ∈ kGL, q.1 ≠ 13 := by decide
    exact z q hq
  exact (if_neg (fun z => hne z.1)).trans h
theorem l_drop {E : kEnv} {w : List (Nat × Nat)} {f : Nat → Int → Int} {g : Nat → Int → Option Nat} {d : Nat} {Q : Option kV → kH → Prop} {st : Int → Nat} (hg : kG g) (hst : kPile g 13 8 st) (hm : f 12 1 = 8) (hx : kW E d 0 0 M_X3_dropOldest 56 [some (kA 12), some (kA (st 0)), some (kI 8)] [] ((kMC ++ w), f, kRo g 8) Q) : ∀ (n : Nat) (k : Int), (1 ≤ k ∧ k ≤ 8) → (8 - k).toNat < n → kW E d 0 0 M_X3_dropOldest 28 [some (kA 12), some (kA (st 0)), some (kI k)] [] ((kMC ++ w), f, kRo g k) Q := by
  intro n
  induction n with
  | zero => intro k _ q; omega
  | succ n ih =>
    intro k y0 y1
    refine kw_iload_n dX3_dropOldest_28 rfl ?_
    refine kw_aload_n dX3_dropOldest_29 rfl ?_
    refine kv_getI (kz := 1) dX3_dropOldest_30 kf_X3_22 rfl rfl rfl rfl ?_
    refine kw_icmp_ge (tgt := 56) dX3_dropOldest_33 (by decide) (fun h1 => ?_) (fun h1 => ?_)
    · have e1 : k = 8 := by omega
      subst e1
      exact hx
    · refine kw_aload_n dX3_dropOldest_36 rfl ?_
      refine kv_getR (b := 13) dX3_dropOldest_37 kf_X3_15 rfl rfl rfl ((kG_ro hg) (12, 0, 13) (by decide)) ?_
      refine kw_iload_n dX3_dropOldest_40 rfl ?_
      refine kw_iconst dX3_dropOldest_41 ⟨by decide, by decide⟩ ?_
      refine kw_isub dX3_dropOldest_42 ⟨by omega, by omega⟩ ?_
      refine kw_aload_n dX3_dropOldest_43 rfl ?_
      refine kv_getR (b := 13) dX3_dropOldest_44 kf_X3_15 rfl rfl rfl ((kG_ro hg) (12, 0, 13) (by decide)) ?_
      refine kw_iload_n dX3_dropOldest_47 rfl ?_
      refine kv_aald dX3_dropOldest_48 rfl (by omega) (by omega) (kRo_k.trans (hst k (by omega) (by omega)).1) ?_
      refine kv_aast dX3_dropOldest_49 rfl (kSA_m (hst k (by omega) (by omega)).2 w) (by omega) (by omega) ?_
      refine kw_iinc dX3_dropOldest_50 (by decide) rfl ⟨by omega, by omega⟩ trivial (L2 := [some (kA (12)), some (kA ((st 0))), some (kI (k + 1))]) rfl ?_
      refine kw_goto (tgt := 28) dX3_dropOldest_53 (by decide) ?_
      rw [kRo_s (by omega) (hst k (by omega) (by omega)).1]
      exact ih (k + 1) ⟨by omega, by omega⟩ (by omega)
def kRt (g : Nat → Int → Option Nat) (st : Int → Nat) : Nat → Int → Option Nat := k_u (kRo g 8) 13 7 (some (st 0))
def kSt (st : Int → Nat) : Int → Nat := fun i => if i < 7 then st (i + 1) else st 0
theorem kPile_rt {g : Nat → Int → Option Nat} {st : Int → Nat} (h : kPile g 13 8 st) : kPile (kRt g st) 13 8 (kSt st) := by
  intro i i0 i1
  by_cases q : i = 7
  · rw [q]
    exact ⟨k_u_self, (h 0 (by omega) (by omega)).2⟩
  · have h1 := h (i + 1) (by omega) (by omega)
    have e1 : kRt g st 13 i = kRo g 8 13 i := k_u_ne2 (by omega)
    have e2 : kRo g 8 13 i = g 13 (i + 1) := if_pos (by omega)
    have e3 : kSt st i = st (i + 1) := if_pos (by omega)
    rw [e1, e2, e3]
    exact h1
theorem kG_rt {g : Nat → Int → Option Nat} {st : Int → Nat} (hg : kG g) : kG (kRt g st) := by
  intro q hq
  have h := kG_ro (k := 8) hg q hq
  have hne : q.1 ≠ 13 := by
    have z : ∀ q ∈ kGL, q.1 ≠ 13 := by decide
    exact z q hq
  exact (k_u_ne hne).trans h
theorem c_drop {E : kEnv} {w : List (Nat × Nat)} {f : Nat → Int → Int} {g : Nat → Int → Option Nat} {st : Int → Nat} (hg : kG g) (hst : kPile g 13 8 st) (hm : f 12 1 = 8) : kF E 0 M_X3_dropOldest [kA 12] ((kMC ++ w), f, g) none ((kMC ++ w), k_u f 12 1 7, kRt g st) := by
  refine kF_of (by decide) (by simp [k_one]) (Nat.le_of_ble_eq_true rfl) (L := [some (kA 12), none, none]) rfl ?_
  have zst := kSA_lt (hst 0 (by omega) (by omega)).2
  refine kw_aload_n dX3_dropOldest_0 rfl ?_
  refine kv_getI (kz := 1) dX3_dropOldest_1 kf_X3_22 rfl rfl rfl rfl ?_
  refine kw_if_le (tgt := 76) dX3_dropOldest_4 (by decide) (fun h1 => ?_) (fun h1 => ?_)
  · exfalso
    omega
  · refine kw_aload_n dX3_dropOldest_7 rfl ?_
    refine kv_getI (kz := 1) dX3_dropOldest_8 kf_X3_22 rfl rfl rfl rfl ?_
    refine kw_aload_n dX3_dropOldest_11 rfl ?_
    refine kv_getR (b := 13) dX3_dropOldest_12 kf_X3_15 rfl rfl rfl (hg (12, 0, 13) (by decide)) ?_
    refine kv_alen dX3_dropOldest_15 rfl (by decide) ?_
    refine kw_icmp_gt (tgt := 76) dX3_dropOldest_16 (by decide) (fun h2 => ?_) (fun h2 => ?_)
    · exfalso
      omega
    · refine kw_aload_n dX3_dropOldest_19 rfl ?_
      refine kv_getR (b := 13) dX3_dropOldest_20 kf_X3_15 rfl rfl rfl (hg (12, 0, 13) (by decide)) ?_
      refine kw_iconst dX3_dropOldest_23 ⟨by decide, by decide⟩ ?_
      refine kv_aald dX3_dropOldest_24 rfl (by omega) (by omega) (hst 0 (by omega) (by omega)).1 ?_
      refine kw_astore_n dX3_dropOldest_25 (by omega) (by decide) trivial (L2 := [some (kA (12)), some (kA ((st 0))), none]) rfl ?_
      refine kw_iconst dX3_dropOldest_26 ⟨by decide, by decide⟩ ?_
      refine kw_istore_n dX3_dropOldest_27 (by decide) trivial (L2 := [some (kA (12)), some (kA ((st 0))), some (kI (1))]) rfl ?_
      have h := l_drop (E := E) (w := w) (f := f) (d := 0) (Q := (fun r h' => r = none ∧ h' = ((kMC ++ w), k_u f 12 1 7, kRt g st))) hg hst hm ?_ _ 1 ⟨by omega, by omega⟩ (Nat.lt_succ_self _)
      · rw [kRo_1] at h
        exact h
      refine kw_aload_n dX3_dropOldest_56 rfl ?_
      refine kw_dup dX3_dropOldest_57 trivial ?_
      refine kv_getI (kz := 1) dX3_dropOldest_58 kf_X3_22 rfl rfl rfl rfl ?_
      refine kw_iconst dX3_dropOldest_61 ⟨by decide, by decide⟩ ?_
      refine kw_isub dX3_dropOldest_62 ⟨by omega, by omega⟩ ?_
      refine kv_putI (kz := 1) dX3_dropOldest_63 kp_X3_22 rfl rfl (fun h => by cases h) rfl ?_
      refine kw_aload_n dX3_dropOldest_66 rfl ?_
      refine kv_getR (b := 13) dX3_dropOldest_67 kf_X3_15 rfl rfl rfl ((kG_ro hg) (12, 0, 13) (by decide)) ?_
      refine kw_aload_n dX3_dropOldest_70 rfl ?_
      refine kv_getI (kz := 1) dX3_dropOldest_71 kf_X3_22 rfl rfl rfl (k_u_self) ?_
      refine kw_aload_n dX3_dropOldest_74 rfl ?_
      refine kv_aast dX3_dropOldest_75 rfl (kSA_m (hst 0 (by omega) (by omega)).2 w) (by omega) (by omega) ?_
      rw [hm, show (8 : Int) - 1 = 7 by decide]
      exact kv_rv dX3_dropOldest_76 rfl rfl
theorem l_padd_past {E : kEnv} {w : List (Nat × Nat)} {f : Nat → Int → Int} {g : Nat → Int → Option Nat} {d : Nat} {st : Int → Nat} (hg : kG g) (hst : kPile g 13 8 st) (hd : 2 ≤ d) (hm : 0 ≤ f 12 1 ∧ f 12 1 < 8) : kW E d 0 0 M_X3_add 11 [some (kA 12), some (kA 10)] [] ((kMC ++ w), f, g) (fun r h' => r = none ∧ h' = ((kMC ++ w), k_u (kBec f (st (f 12 1)) 10) 12 1 (f 12 1 + 1), g)) := by
  have hq := hst (f 12 1) (by omega) (by omega)
  have zst := kSA_lt hq.2
  have z12 : (st (f 12 1)) ≠ 12 ∧ (st (f 12 1)) ≠ 30 ∧ (st (f 12 1)) + 1 ≠ 12 ∧ (st (f 12 1)) + 1 ≠ 30 := by
    rcases hq.2 with e | e | e | e | e | e | e | e | e | e | e | e <;> rw [e] <;> decide
  have ek : kBec f (st (f 12 1)) 10 12 1 = f 12 1 := by rw [kBec_eq 12 (by omega) (by omega)]
  refine kw_aload_n dX3_add_11 rfl ?_
  refine kv_getI (kz := 1) dX3_add_12 kf_X3_22 rfl rfl rfl rfl ?_
  refine kw_if_lt (tgt := 65) dX3_add_15 (by decide) (fun h1 => ?_) (fun h1 => ?_)
  · first
      | exact kv_rv dX3_add_65 rfl (by rw [ek])
      | (exfalso; omega)
  · refine kw_aload_n dX3_add_18 rfl ?_
    refine kv_getI (kz := 1) dX3_add_19 kf_X3_22 rfl rfl rfl rfl ?_
    refine kw_aload_n dX3_add_22 rfl ?_
    refine kv_getR (b := 13) dX3_add_23 kf_X3_15 rfl rfl rfl (hg (12, 0, 13) (by decide)) ?_
    refine kv_alen dX3_add_26 rfl (by decide) ?_
    refine kw_icmp_ge (tgt := 65) dX3_add_27 (by decide) (fun h2 => ?_) (fun h2 => ?_)
    · first
        | exact kv_rv dX3_add_65 rfl (by rw [ek])
        | (exfalso; omega)
    · refine kw_aload_n dX3_add_30 rfl ?_
      refine kv_getR (b := 13) dX3_add_31 kf_X3_15 rfl rfl rfl (hg (12, 0, 13) (by decide)) ?_
      refine kw_aload_n dX3_add_34 rfl ?_
      refine kv_getI (kz := 1) dX3_add_35 kf_X3_22 rfl rfl rfl rfl ?_
      refine kv_aald dX3_add_38 rfl (by omega) (by omega) hq.1 ?_
      refine kw_ifnullA (by omega) dX3_add_39 ?_
      refine kw_aload_n dX3_add_42 rfl ?_
      refine kv_getR (b := 13) dX3_add_43 kf_X3_15 rfl rfl rfl (hg (12, 0, 13) (by decide)) ?_
      refine kw_aload_n dX3_add_46 rfl ?_
      refine kv_getI (kz := 1) dX3_add_47 kf_X3_22 rfl rfl rfl rfl ?_
      refine kv_aald dX3_add_50 rfl (by omega) (by omega) hq.1 ?_
      refine kw_aload_n dX3_add_51 rfl ?_
      refine kv_callV0 (M2 := M_X4_become) (As := [kA (10)]) dX3_add_52 ml_X3_33 q_X4_become rfl (kSA_m hq.2 w) rfl (Nat.le_of_ble_eq_true rfl) (c_become hq.2 hg (by unfold kSA; omega)) (by omega) ?_
      refine kw_aload_n dX3_add_55 rfl ?_
      refine kw_dup dX3_add_56 trivial ?_
      refine kv_getI (kz := 1) dX3_add_57 kf_X3_22 rfl rfl rfl rfl ?_
      refine kw_iconst dX3_add_60 ⟨by decide, by decide⟩ ?_
      refine kw_iadd dX3_add_61 ⟨by omega, by omega⟩ ?_
      refine kv_putI (kz := 1) dX3_add_62 kp_X3_22 rfl rfl (fun h => by cases h) rfl ?_
      first
        | exact kv_rv dX3_add_65 rfl (by rw [ek])
        | (exfalso; omega)
theorem c_padd_past {E : kEnv} {w : List (Nat × Nat)} {f : Nat → Int → Int} {g : Nat → Int → Option Nat} {st : Int → Nat} (hg : kG g) (hst : kPile g 13 8 st) (hm : 0 ≤ f 12 1 ∧ f 12 1 < 8) : kF E 2 M_X3_add [kA 12, kA 10] ((kMC ++ w), f, g) none ((kMC ++ w), k_u (kBec f (st (f 12 1)) 10) 12 1 (f 12 1 + 1), g) := by
  refine kF_of (by decide) (by simp [k_one]) (Nat.le_of_ble_eq_true rfl) (L := [some (kA 12), some (kA 10)]) rfl ?_
  refine kw_aload_n dX3_add_0 rfl ?_
  refine kv_callV1 (M2 := M_X3_isFull) (As := []) dX3_add_1 ml_X3_26 q_X3_isFull rfl rfl rfl (Nat.le_of_ble_eq_true rfl) (c_full_past hg) (by omega) ?_
  refine kv_ifeqB (tgt := 11) dX3_add_4 (by decide) (fun h1 => ?_) (fun h1 => ?_)
  · exact l_padd_past hg hst (by omega) (by omega)
  · exfalso
    omega
theorem c_padd8 {E : kEnv} {w : List (Nat × Nat)} {f : Nat → Int → Int} {g : Nat → Int → Option Nat} {st : Int → Nat} (hg : kG g) (hst : kPile g 13 8 st) (hm : f 12 1 = 8) : kF E 2 M_X3_add [kA 12, kA 10] ((kMC ++ w), f, g) none ((kMC ++ w), k_u (kBec (k_u f 12 1 7) (st 0) 10) 12 1 (7 + 1), kRt g st) := by
  refine kF_of (by decide) (by simp [k_one]) (Nat.le_of_ble_eq_true rfl) (L := [some (kA 12), some (kA 10)]) rfl ?_
  refine kw_aload_n dX3_add_0 rfl ?_
  refine kv_callV1 (M2 := M_X3_isFull) (As := []) dX3_add_1 ml_X3_26 q_X3_isFull rfl rfl rfl (Nat.le_of_ble_eq_true rfl) (c_full_past hg) (by omega) ?_
  refine kv_ifeqB (tgt := 11) dX3_add_4 (by decide) (fun h1 => ?_) (fun h1 => ?_)
  · exfalso
    omega
  · refine kw_aload_n dX3_add_7 rfl ?_
    refine kv_callV0 (M2 := M_X3_dropOldest) (As := []) dX3_add_8 ml_X3_30 q_X3_dropOldest rfl rfl rfl (Nat.le_of_ble_eq_true rfl) (c_drop hg hst (by omega)) (by omega) ?_
    have h := l_padd_past (E := E) (w := w) (f := k_u f 12 1 7) (d := 2) (kG_rt hg) (kPile_rt hst) (by omega) (by rw [k_u_self]; omega)
    rw [k_u_self, show kSt st 7 = st 0 from if_neg (by omega)] at h
    exact h
theorem l_padd_kept {E : kEnv} {w : List (Nat × Nat)} {f : Nat → Int → Int} {g : Nat → Int → Option Nat} {d : Nat} {st : Int → Nat} (hg : kG g) (hst : kPile g 31 2 st) (hd : 2 ≤ d) (hm : 0 ≤ f 30 1 ∧ f 30 1 < 2) : kW E d 0 0 M_X3_add 11 [some (kA 30), some (kA 10)] [] ((kMC ++ w), f, g) (fun r h' => r = none ∧ h' = ((kMC ++ w), k_u (kBec f (st (f 30 1)) 10) 30 1 (f 30 1 + 1), g)) := by
  have hq := hst (f 30 1) (by omega) (by omega)
  have zst := kSA_lt hq.2
  have z12 : (st (f 30 1)) ≠ 12 ∧ (st (f 30 1)) ≠ 30 ∧ (st (f 30 1)) + 1 ≠ 12 ∧ (st (f 30 1)) + 1 ≠ 30 := by
    rcases hq.2 with e | e | e | e | e | e | e | e | e | e | e | e <;> rw [e] <;> decide
  have ek : kBec f (st (f 30 1)) 10 30 1 = f 30 1 := by rw [kBec_eq 30 (by omega) (by omega)]
  refine kw_aload_n dX3_add_11 rfl ?_
  refine kv_getI (kz := 1) dX3_add_12 kf_X3_22 rfl rfl rfl rfl ?_
  refine kw_if_lt (tgt := 65) dX3_add_15 (by decide) (fun h1 => ?_) (fun h1 => ?_)
  · first
      | exact kv_rv dX3_add_65 rfl (by rw [ek])
      | (exfalso; omega)
  · refine kw_aload_n dX3_add_18 rfl ?_
    refine kv_getI (kz := 1) dX3_add_19 kf_X3_22 rfl rfl rfl rfl ?_
    refine kw_aload_n dX3_add_22 rfl ?_
    refine kv_getR (b := 31) dX3_add_23 kf_X3_15 rfl rfl rfl (hg (30, 0, 31) (by decide)) ?_
    refine kv_alen dX3_add_26 rfl (by decide) ?_
    refine kw_icmp_ge (tgt := 65) dX3_add_27 (by decide) (fun h2 => ?_) (fun h2 => ?_)
    · first
        | exact kv_rv dX3_add_65 rfl (by rw [ek])
        | (exfalso; omega)
    · refine kw_aload_n dX3_add_30 rfl ?_
      refine kv_getR (b := 31) dX3_add_31 kf_X3_15 rfl rfl rfl (hg (30, 0, 31) (by decide)) ?_
      refine kw_aload_n dX3_add_34 rfl ?_
      refine kv_getI (kz := 1) dX3_add_35 kf_X3_22 rfl rfl rfl rfl ?_
      refine kv_aald dX3_add_38 rfl (by omega) (by omega) hq.1 ?_
      refine kw_ifnullA (by omega) dX3_add_39 ?_
      refine kw_aload_n dX3_add_42 rfl ?_
      refine kv_getR (b := 31) dX3_add_43 kf_X3_15 rfl rfl rfl (hg (30, 0, 31) (by decide)) ?_
      refine kw_aload_n dX3_add_46 rfl ?_
      refine kv_getI (kz := 1) dX3_add_47 kf_X3_22 rfl rfl rfl rfl ?_
      refine kv_aald dX3_add_50 rfl (by omega) (by omega) hq.1 ?_
      refine kw_aload_n dX3_add_51 rfl ?_
      refine kv_callV0 (M2 := M_X4_become) (As := [kA (10)]) dX3_add_52 ml_X3_33 q_X4_become rfl (kSA_m hq.2 w) rfl (Nat.le_of_ble_eq_true rfl) (c_become hq.2 hg (by unfold kSA; omega)) (by omega) ?_
      refine kw_aload_n dX3_add_55 rfl ?_
      refine kw_dup dX3_add_56 trivial ?_
      refine kv_getI (kz := 1) dX3_add_57 kf_X3_22 rfl rfl rfl rfl ?_
      refine kw_iconst dX3_add_60 ⟨by decide, by decide⟩ ?_
      refine kw_iadd dX3_add_61 ⟨by omega, by omega⟩ ?_
      refine kv_putI (kz := 1) dX3_add_62 kp_X3_22 rfl rfl (fun h => by cases h) rfl ?_
      first
        | exact kv_rv dX3_add_65 rfl (by rw [ek])
        | (exfalso; omega)
theorem c_padd_kept {E : kEnv} {w : List (Nat × Nat)} {f : Nat → Int → Int} {g : Nat → Int → Option Nat} {st : Int → Nat} (hg : kG g) (hst : kPile g 31 2 st) (hm : 0 ≤ f 30 1 ∧ f 30 1 < 2) : kF E 2 M_X3_add [kA 30, kA 10] ((kMC ++ w), f, g) none ((kMC ++ w), k_u (kBec f (st (f 30 1)) 10) 30 1 (f 30 1 + 1), g) := by
  refine kF_of (by decide) (by simp [k_one]) (Nat.le_of_ble_eq_true rfl) (L := [some (kA 30), some (kA 10)]) rfl ?_
  refine kw_aload_n dX3_add_0 rfl ?_
  refine kv_callV1 (M2 := M_X3_isFull) (As := []) dX3_add_1 ml_X3_26 q_X3_isFull rfl rfl rfl (Nat.le_of_ble_eq_true rfl) (c_full_kept hg) (by omega) ?_
  refine kv_ifeqB (tgt := 11) dX3_add_4 (by decide) (fun h1 => ?_) (fun h1 => ?_)
  · exact l_padd_kept hg hst (by omega) (by omega)
  · exfalso
    omega
theorem c_pmove_past {E : kEnv} {w : List (Nat × Nat)} {f : Nat → Int → Int} {g : Nat → Int → Option Nat} {st : Int → Nat} (hg : kG g) (hst : kPile g 13 8 st) (hm : 1 ≤ f 12 1 ∧ f 12 1 ≤ 8) : kF E 2 M_X3_moveLastTo [kA 12, kA 10] ((kMC ++ w), f, g) none ((kMC ++ w), kBec (k_u f 12 1 (f 12 1 - 1)) 10 (st (f 12 1 - 1)), g) := by
  refine kF_of (by decide) (by simp [k_one]) (Nat.le_of_ble_eq_true rfl) (L := [some (kA 12), some (kA 10)]) rfl ?_
  have hq := hst (f 12 1 - 1) (by omega) (by omega)
  have zst := kSA_lt hq.2
  refine kw_aload_n dX3_moveLastTo_0 rfl ?_
  refine kv_getI (kz := 1) dX3_moveLastTo_1 kf_X3_22 rfl rfl rfl rfl ?_
  refine kw_if_le (tgt := 42) dX3_moveLastTo_4 (by decide) (fun h1 => ?_) (fun h1 => ?_)
  · first
      | exact kv_rv dX3_moveLastTo_42 rfl rfl
      | (exfalso; omega)
  · refine kw_aload_n dX3_moveLastTo_7 rfl ?_
    refine kv_getI (kz := 1) dX3_moveLastTo_8 kf_X3_22 rfl rfl rfl rfl ?_
    refine kw_aload_n dX3_moveLastTo_11 rfl ?_
    refine kv_getR (b := 13) dX3_moveLastTo_12 kf_X3_15 rfl rfl rfl (hg (12, 0, 13) (by decide)) ?_
    refine kv_alen dX3_moveLastTo_15 rfl (by decide) ?_
    refine kw_icmp_gt (tgt := 42) dX3_moveLastTo_16 (by decide) (fun h2 => ?_) (fun h2 => ?_)
    · first
        | exact kv_rv dX3_moveLastTo_42 rfl rfl
        | (exfalso; omega)
    · refine kw_aload_n dX3_moveLastTo_19 rfl ?_
      refine kw_dup dX3_moveLastTo_20 trivial ?_
      refine kv_getI (kz := 1) dX3_moveLastTo_21 kf_X3_22 rfl rfl rfl rfl ?_
      refine kw_iconst dX3_moveLastTo_24 ⟨by decide, by decide⟩ ?_
      refine kw_isub dX3_moveLastTo_25 ⟨by omega, by omega⟩ ?_
      refine kv_putI (kz := 1) dX3_moveLastTo_26 kp_X3_22 rfl rfl (fun h => by cases h) rfl ?_
      refine kw_aload_n dX3_moveLastTo_29 rfl ?_
      refine kw_aload_n dX3_moveLastTo_30 rfl ?_
      refine kv_getR (b := 13) dX3_moveLastTo_31 kf_X3_15 rfl rfl rfl (hg (12, 0, 13) (by decide)) ?_
      refine kw_aload_n dX3_moveLastTo_34 rfl ?_
      refine kv_getI (kz := 1) dX3_moveLastTo_35 kf_X3_22 rfl rfl rfl (k_u_self) ?_
      refine kv_aald dX3_moveLastTo_38 rfl (by omega) (by omega) hq.1 ?_
      refine kv_callV0 (M2 := M_X4_become) (As := [kA ((st (f 12 1 - 1)))]) dX3_moveLastTo_39 ml_X3_33 q_X4_become rfl rfl rfl (Nat.le_of_ble_eq_true rfl) (c_become (by unfold kSA; omega) hg hq.2) (by omega) ?_
      first
        | exact kv_rv dX3_moveLastTo_42 rfl rfl
        | (exfalso; omega)
theorem c_pmove_kept {E : kEnv} {w : List (Nat × Nat)} {f : Nat → Int → Int} {g : Nat → Int → Option Nat} {st : Int → Nat} (hg : kG g) (hst : kPile g 31 2 st) (hm : 1 ≤ f 30 1 ∧ f 30 1 ≤ 2) : kF E 2 M_X3_moveLastTo [kA 30, kA 10] ((kMC ++ w), f, g) none ((kMC ++ w), kBec (k_u f 30 1 (f 30 1 - 1)) 10 (st (f 30 1 - 1)), g) := by
  refine kF_of (by decide) (by simp [k_one]) (Nat.le_of_ble_eq_true rfl) (L := [some (kA 30), some (kA 10)]) rfl ?_
  have hq := hst (f 30 1 - 1) (by omega) (by omega)
  have zst := kSA_lt hq.2
  refine kw_aload_n dX3_moveLastTo_0 rfl ?_
  refine kv_getI (kz := 1) dX3_moveLastTo_1 kf_X3_22 rfl rfl rfl rfl ?_
  refine kw_if_le (tgt := 42) dX3_moveLastTo_4 (by decide) (fun h1 => ?_) (fun h1 => ?_)
  · first
      | exact kv_rv dX3_moveLastTo_42 rfl rfl
      | (exfalso; omega)
  · refine kw_aload_n dX3_moveLastTo_7 rfl ?_
    refine kv_getI (kz := 1) dX3_moveLastTo_8 kf_X3_22 rfl rfl rfl rfl ?_
    refine kw_aload_n dX3_moveLastTo_11 rfl ?_
    refine kv_getR (b := 31) dX3_moveLastTo_12 kf_X3_15 rfl rfl rfl (hg (30, 0, 31) (by decide)) ?_
    refine kv_alen dX3_moveLastTo_15 rfl (by decide) ?_
    refine kw_icmp_gt (tgt := 42) dX3_moveLastTo_16 (by decide) (fun h2 => ?_) (fun h2 => ?_)
    · first
        | exact kv_rv dX3_moveLastTo_42 rfl rfl
        | (exfalso; omega)
    · refine kw_aload_n dX3_moveLastTo_19 rfl ?_
      refine kw_dup dX3_moveLastTo_20 trivial ?_
      refine kv_getI (kz := 1) dX3_moveLastTo_21 kf_X3_22 rfl rfl rfl rfl ?_
      refine kw_iconst dX3_moveLastTo_24 ⟨by decide, by decide⟩ ?_
      refine kw_isub dX3_moveLastTo_25 ⟨by omega, by omega⟩ ?_
      refine kv_putI (kz := 1) dX3_moveLastTo_26 kp_X3_22 rfl rfl (fun h => by cases h) rfl ?_
      refine kw_aload_n dX3_moveLastTo_29 rfl ?_
      refine kw_aload_n dX3_moveLastTo_30 rfl ?_
      refine kv_getR (b := 31) dX3_moveLastTo_31 kf_X3_15 rfl rfl rfl (hg (30, 0, 31) (by decide)) ?_
      refine kw_aload_n dX3_moveLastTo_34 rfl ?_
      refine kv_getI (kz := 1) dX3_moveLastTo_35 kf_X3_22 rfl rfl rfl (k_u_self) ?_
      refine kv_aald dX3_moveLastTo_38 rfl (by omega) (by omega) hq.1 ?_
      refine kv_callV0 (M2 := M_X4_become) (As := [kA ((st (f 30 1 - 1)))]) dX3_moveLastTo_39 ml_X3_33 q_X4_become rfl rfl rfl (Nat.le_of_ble_eq_true rfl) (c_become (by unfold kSA; omega) hg hq.2) (by omega) ?_
      first
        | exact kv_rv dX3_moveLastTo_42 rfl rfl
        | (exfalso; omega)
