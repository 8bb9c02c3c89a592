/-! the class: pass -/
theorem c_pass {E : kEnv} {w : List (Nat × Nat)} {f : Nat → Int → Int} {g : Nat → Int → Option Nat} {v : Int} {st : Int → Nat} (hg : kG g) (hst : kPile g 13 8 st) (hm : 0 ≤ f 12 1 ∧ f 12 1 ≤ 8) (hP : ∀ i, 0 ≤ i → i < 8 → 14 ≤ st i ∧ st i ≤ 28) (h28 : 0 ≤ f 10 1 ∧ f 10 1 ≤ 99) : kF E 3 M_X6_pass [kA (0), kI (v)] ((kMC ++ w), f, g) (some (kI (if 1 ≤ v ∧ v ≤ 30 then (if f 10 1 + v ≤ 99 then f 10 1 + v else -2) else -1))) ((kMC ++ w), (if (1 ≤ v ∧ v ≤ 30) ∧ f 10 1 + v ≤ 99 then kGoBy (kAd f st) 10 v else f), (if (1 ≤ v ∧ v ≤ 30) ∧ f 10 1 + v ≤ 99 then kAg f g st else g)) := by
  refine kF_of (by decide) (by simp [k_one]) (Nat.le_of_ble_eq_true rfl) (L := [some (kA (0)), some (kI (v))]) rfl ?_
  have e10 : kAd f st 10 = f 10 := kAd_b hst hm (by omega) (fun i a b => by have := hP i a b; omega)
  have q10 := congrFun e10 1
  have eg : kGoBy (kAd f st) 10 v 10 1 = f 10 1 + v := by
    unfold kGoBy
    rw [k_u_ne (by omega), k_u_ne (by omega), k_u_ne (by omega), k_u_ne (by omega), k_u_self, q10]
  refine kw_iload_n dX6_pass_0 rfl ?_
  refine kw_iconst dX6_pass_1 ⟨by decide, by decide⟩ ?_
  refine kw_bipush dX6_pass_2 (by decide) (by decide) ?_
  refine kv_callS1 (M2 := M_X6_isWithin) (As := [kI (v), kI (1), kI (30)]) dX6_pass_4 ml_X6_72 q_X6_isWithin rfl (Nat.le_of_ble_eq_true rfl) (c_isWithin) (by omega) ?_
  refine kv_ifneB (tgt := 12) dX6_pass_7 (by decide) (fun h1 => ?_) (fun h1 => ?_)
  · refine kw_aload_n dX6_pass_12 rfl ?_
    refine kv_getR (b := 10) dX6_pass_13 kf_X6_26 rfl rfl rfl (hg (0, 2, 10) (by decide)) ?_
    refine kv_getI (kz := 1) dX6_pass_16 kf_X6_114 rfl rfl rfl rfl ?_
    refine kw_iload_n dX6_pass_19 rfl ?_
    refine kw_iadd dX6_pass_20 ⟨by omega, by omega⟩ ?_
    refine kw_bipush dX6_pass_21 (by decide) (by decide) ?_
    refine kw_icmp_le (tgt := 29) dX6_pass_23 (by decide) (fun h2 => ?_) (fun h2 => ?_)
    · refine kw_aload_n dX6_pass_29 rfl ?_
      refine kv_getR (b := 12) dX6_pass_30 kf_X6_35 rfl rfl rfl (hg (0, 3, 12) (by decide)) ?_
      refine kw_aload_n dX6_pass_33 rfl ?_
      refine kv_getR (b := 10) dX6_pass_34 kf_X6_26 rfl rfl rfl (hg (0, 2, 10) (by decide)) ?_
      refine kv_callV0 (M2 := M_X3_add) (As := [kA (10)]) dX6_pass_37 ml_X6_159 q_X3_add rfl rfl rfl (Nat.le_of_ble_eq_true rfl) (c_padd hg hst hm) (by omega) ?_
      refine kw_aload_n dX6_pass_40 rfl ?_
      refine kv_getR (b := 10) dX6_pass_41 kf_X6_26 rfl rfl rfl ((kAg_G hg) (0, 2, 10) (by decide)) ?_
      refine kw_iload_n dX6_pass_44 rfl ?_
      refine kv_callV0 (M2 := M_X4_goBy) (As := [kI (v)]) dX6_pass_45 ml_X6_169 q_X4_goBy rfl rfl rfl (Nat.le_of_ble_eq_true rfl) (c_goBy (by unfold kSA; omega) (kAg_G hg) (by omega) (by omega)) (by omega) ?_
      refine kw_aload_n dX6_pass_48 rfl ?_
      refine kv_getR (b := 10) dX6_pass_49 kf_X6_26 rfl rfl rfl ((kAg_G hg) (0, 2, 10) (by decide)) ?_
      refine kv_getI (kz := 1) dX6_pass_52 kf_X6_114 rfl rfl rfl rfl ?_
      exact kv_ri dX6_pass_55 rfl (Eq.symm (by first | (rw [if_neg (by omega)]; done) | (rw [if_pos (by omega), if_neg (by omega)]; done) | (rw [if_pos (by omega), if_pos (by omega)]; exact eg.symm))) (by first | rw [if_pos (by omega), if_pos (by omega)] | rw [if_neg (by omega), if_neg (by omega)])
    · refine kw_bipush dX6_pass_26 (by decide) (by decide) ?_
      exact kv_ri dX6_pass_28 rfl (Eq.symm (by first | (rw [if_neg (by omega)]; done) | (rw [if_pos (by omega), if_neg (by omega)]; done) | (rw [if_pos (by omega), if_pos (by omega)]; exact eg.symm))) (by first | rw [if_pos (by omega), if_pos (by omega)] | rw [if_neg (by omega), if_neg (by omega)])
  · refine kw_iconst dX6_pass_10 ⟨by decide, by decide⟩ ?_
    exact kv_ri dX6_pass_11 rfl (Eq.symm (by first | (rw [if_neg (by omega)]; done) | (rw [if_pos (by omega), if_neg (by omega)]; done) | (rw [if_pos (by omega), if_pos (by omega)]; exact eg.symm))) (by first | rw [if_pos (by omega), if_pos (by omega)] | rw [if_neg (by omega), if_neg (by omega)])
