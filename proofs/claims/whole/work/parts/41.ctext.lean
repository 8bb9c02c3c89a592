/-! the class's text: write, wipe -/
theorem c_tfull {E : kEnv} {w : List (Nat × Nat)} {f : Nat → Int → Int} {g : Nat → Int → Option Nat}  (hg : kG g) : kF E 0 M_X5_isFull [kA (1)] ((kMC ++ w), f, g) (some (kI (if 200 ≤ f 1 2 then 1 else 0))) ((kMC ++ w), f, g) := by
  refine kF_of (by decide) (by simp [k_one]) (Nat.le_of_ble_eq_true rfl) (L := [some (kA (1))]) rfl ?_
  refine kw_aload_n dX5_isFull_0 rfl ?_
  refine kv_getI (kz := 2) dX5_isFull_1 kf_X5_19 rfl rfl rfl rfl ?_
  refine kw_sipush dX5_isFull_4 (by decide) (by decide) ?_
  refine kw_icmp_lt (tgt := 14) dX5_isFull_7 (by decide) (fun h1 => ?_) (fun h1 => ?_)
  · refine kw_iconst dX5_isFull_14 ⟨by decide, by decide⟩ ?_
    exact kv_rb dX5_isFull_15 rfl (by first | rfl | omega | (split <;> omega) | ((repeat' split) <;> omega) | grind) (by first | rfl | rw [if_pos (by omega)] | rw [if_neg (by omega)] | grind)
  · refine kw_iconst dX5_isFull_10 ⟨by decide, by decide⟩ ?_
    refine kw_goto (tgt := 15) dX5_isFull_11 (by decide) ?_
    exact kv_rb dX5_isFull_15 rfl (by first | rfl | omega | (split <;> omega) | ((repeat' split) <;> omega) | grind) (by first | rfl | rw [if_pos (by omega)] | rw [if_neg (by omega)] | grind)
theorem c_tadd {E : kEnv} {w : List (Nat × Nat)} {f : Nat → Int → Int} {g : Nat → Int → Option Nat} {c : Int} (hg : kG g) (hl : 0 ≤ f 1 2 ∧ f 1 2 < 200) (hc : 0 ≤ c ∧ c ≤ 65535) : kF E 0 M_X5_add [kA (1), kI (c)] ((kMC ++ w), f, g) (none) ((kMC ++ w), k_u (k_u f 2 (f 1 2) c) 1 2 (f 1 2 + 1), g) := by
  refine kF_of (by decide) (by simp [k_one]) (Nat.le_of_ble_eq_true rfl) (L := [some (kA (1)), some (kI (c))]) rfl ?_
  refine kw_aload_n dX5_add_0 rfl ?_
  refine kv_getI (kz := 2) dX5_add_1 kf_X5_19 rfl rfl rfl rfl ?_
  refine kw_if_lt (tgt := 39) dX5_add_4 (by decide) (fun h1 => ?_) (fun h1 => ?_)
  · first
      | exact kv_rv dX5_add_39 rfl rfl
      | (exfalso; omega)
  · refine kw_aload_n dX5_add_7 rfl ?_
    refine kv_getI (kz := 2) dX5_add_8 kf_X5_19 rfl rfl rfl rfl ?_
    refine kw_aload_n dX5_add_11 rfl ?_
    refine kv_getR (b := 2) dX5_add_12 kf_X5_11 rfl rfl rfl (hg (1, 0, 2) (by decide)) ?_
    refine kv_alen dX5_add_15 rfl (by decide) ?_
    refine kw_icmp_ge (tgt := 39) dX5_add_16 (by decide) (fun h2 => ?_) (fun h2 => ?_)
    · first
        | exact kv_rv dX5_add_39 rfl rfl
        | (exfalso; omega)
    · refine kw_aload_n dX5_add_19 rfl ?_
      refine kv_getR (b := 2) dX5_add_20 kf_X5_11 rfl rfl rfl (hg (1, 0, 2) (by decide)) ?_
      refine kw_aload_n dX5_add_23 rfl ?_
      refine kv_getI (kz := 2) dX5_add_24 kf_X5_19 rfl rfl rfl rfl ?_
      refine kw_iload_n dX5_add_27 rfl ?_
      refine kv_cast dX5_add_28 rfl (by omega) (by omega) (by omega) (by omega) ?_
      refine kw_aload_n dX5_add_29 rfl ?_
      refine kw_dup dX5_add_30 trivial ?_
      refine kv_getI (kz := 2) dX5_add_31 kf_X5_19 rfl rfl rfl (k_u_ne (by omega)) ?_
      refine kw_iconst dX5_add_34 ⟨by decide, by decide⟩ ?_
      refine kw_iadd dX5_add_35 ⟨by omega, by omega⟩ ?_
      refine kv_putI (kz := 2) dX5_add_36 kp_X5_19 rfl rfl (fun h => by cases h) rfl ?_
      first
        | exact kv_rv dX5_add_39 rfl rfl
        | (exfalso; omega)
theorem c_letter {E : kEnv} {w : List (Nat × Nat)} {f : Nat → Int → Int} {g : Nat → Int → Option Nat} {p : Int} (hg : kG g) (hl : ∀ _ : Unit, 0 ≤ p → p < f 1 2 → 32 ≤ f 2 p ∧ f 2 p ≤ 126) : kF E 0 M_X5_letter [kA (1), kI (p)] ((kMC ++ w), f, g) (some (kI (if 0 ≤ p ∧ p < f 1 2 ∧ p < 200 then f 2 p else 0))) ((kMC ++ w), f, g) := by
  refine kF_of (by decide) (by simp [k_one]) (Nat.le_of_ble_eq_true rfl) (L := [some (kA (1)), some (kI (p))]) rfl ?_
  refine kw_iload_n dX5_letter_0 rfl ?_
  refine kw_if_lt (tgt := 30) dX5_letter_1 (by decide) (fun h1 => ?_) (fun h1 => ?_)
  · refine kw_iconst dX5_letter_30 ⟨by decide, by decide⟩ ?_
    exact kv_rc dX5_letter_31 rfl (by decide) (by decide) (Eq.symm (if_neg (by omega))) rfl
  · refine kw_iload_n dX5_letter_4 rfl ?_
    refine kw_aload_n dX5_letter_5 rfl ?_
    refine kv_getI (kz := 2) dX5_letter_6 kf_X5_19 rfl rfl rfl rfl ?_
    refine kw_icmp_ge (tgt := 30) dX5_letter_9 (by decide) (fun h2 => ?_) (fun h2 => ?_)
    · refine kw_iconst dX5_letter_30 ⟨by decide, by decide⟩ ?_
      exact kv_rc dX5_letter_31 rfl (by decide) (by decide) (Eq.symm (if_neg (by omega))) rfl
    · refine kw_iload_n dX5_letter_12 rfl ?_
      refine kw_aload_n dX5_letter_13 rfl ?_
      refine kv_getR (b := 2) dX5_letter_14 kf_X5_11 rfl rfl rfl (hg (1, 0, 2) (by decide)) ?_
      refine kv_alen dX5_letter_17 rfl (by decide) ?_
      refine kw_icmp_ge (tgt := 30) dX5_letter_18 (by decide) (fun h3 => ?_) (fun h3 => ?_)
      · refine kw_iconst dX5_letter_30 ⟨by decide, by decide⟩ ?_
        exact kv_rc dX5_letter_31 rfl (by decide) (by decide) (Eq.symm (if_neg (by omega))) rfl
      · refine kw_aload_n dX5_letter_21 rfl ?_
        refine kv_getR (b := 2) dX5_letter_22 kf_X5_11 rfl rfl rfl (hg (1, 0, 2) (by decide)) ?_
        refine kw_iload_n dX5_letter_25 rfl ?_
        refine kv_cald dX5_letter_26 rfl (by omega) (by omega) rfl ?_
        refine kw_goto (tgt := 31) dX5_letter_27 (by decide) ?_
        have hl0 := hl () (by omega) (by omega)
        exact kv_rc dX5_letter_31 rfl (by omega) (by omega) (Eq.symm (if_pos (by omega))) rfl
theorem c_write {E : kEnv} {w : List (Nat × Nat)} {f : Nat → Int → Int} {g : Nat → Int → Option Nat} {v : Int} (hg : kG g) (hl : 0 ≤ f 1 2 ∧ f 1 2 ≤ 200) : kF E 1 M_X6_write [kA (0), kI (v)] ((kMC ++ w), f, g) (some (kI (sWrite (f 1 2) v))) ((kMC ++ w), (if (32 ≤ v ∧ v ≤ 126) ∧ f 1 2 ≠ 200 then k_u (k_u f 2 (f 1 2) v) 1 2 (f 1 2 + 1) else f), g) := by
  refine kF_of (by decide) (by simp [k_one]) (Nat.le_of_ble_eq_true rfl) (L := [some (kA (0)), some (kI (v))]) rfl ?_
  refine kw_iload_n dX6_write_0 rfl ?_
  refine kw_bipush dX6_write_1 (by decide) (by decide) ?_
  refine kw_bipush dX6_write_3 (by decide) (by decide) ?_
  refine kv_callS1 (M2 := M_X6_isWithin) (As := [kI (v), kI (32), kI (126)]) dX6_write_5 ml_X6_72 q_X6_isWithin rfl (Nat.le_of_ble_eq_true rfl) (c_isWithin) (by omega) ?_
  refine kv_ifneB (tgt := 13) dX6_write_8 (by decide) (fun h1 => ?_) (fun h1 => ?_)
  · refine kw_aload_n dX6_write_13 rfl ?_
    refine kv_getR (b := 1) dX6_write_14 kf_X6_10 rfl rfl rfl (hg (0, 0, 1) (by decide)) ?_
    refine kv_callV1 (M2 := M_X5_isFull) (As := []) dX6_write_17 ml_X6_76 q_X5_isFull rfl rfl rfl (Nat.le_of_ble_eq_true rfl) (c_tfull hg) (by omega) ?_
    refine kv_ifeqB (tgt := 26) dX6_write_20 (by decide) (fun h2 => ?_) (fun h2 => ?_)
    · refine kw_aload_n dX6_write_26 rfl ?_
      refine kv_getR (b := 1) dX6_write_27 kf_X6_10 rfl rfl rfl (hg (0, 0, 1) (by decide)) ?_
      refine kw_iload_n dX6_write_30 rfl ?_
      refine kw_i2c dX6_write_31 (by omega) (by omega) ?_
      refine kv_callV0 (M2 := M_X5_add) (As := [kI (v)]) dX6_write_32 ml_X6_80 q_X5_add rfl rfl rfl (Nat.le_of_ble_eq_true rfl) (c_tadd hg (by omega) (by omega)) (by omega) ?_
      refine kw_aload_n dX6_write_35 rfl ?_
      refine kv_getR (b := 1) dX6_write_36 kf_X6_10 rfl rfl rfl (hg (0, 0, 1) (by decide)) ?_
      refine kv_getI (kz := 2) dX6_write_39 kf_X6_68 rfl rfl rfl rfl ?_
      exact kv_ri dX6_write_42 rfl (Eq.symm (by unfold sWrite; first | (rw [if_neg (by omega)]; done) | (rw [if_pos (by omega), if_pos (by omega)]; done) | (rw [if_pos (by omega), if_neg (by omega)]; exact k_u_self.symm))) (by first | rw [if_pos (by omega)] | rw [if_neg (by omega)])
    · refine kw_bipush dX6_write_23 (by decide) (by decide) ?_
      exact kv_ri dX6_write_25 rfl (Eq.symm (by unfold sWrite; first | (rw [if_neg (by omega)]; done) | (rw [if_pos (by omega), if_pos (by omega)]; done) | (rw [if_pos (by omega), if_neg (by omega)]; exact k_u_self.symm))) (by first | rw [if_pos (by omega)] | rw [if_neg (by omega)])
  · refine kw_iconst dX6_write_11 ⟨by decide, by decide⟩ ?_
    exact kv_ri dX6_write_12 rfl (Eq.symm (by unfold sWrite; first | (rw [if_neg (by omega)]; done) | (rw [if_pos (by omega), if_pos (by omega)]; done) | (rw [if_pos (by omega), if_neg (by omega)]; exact k_u_self.symm))) (by first | rw [if_pos (by omega)] | rw [if_neg (by omega)])
theorem c_wipe {E : kEnv} {w : List (Nat × Nat)} {f : Nat → Int → Int} {g : Nat → Int → Option Nat}  (hg : kG g) : kF E 0 M_X6_wipe [kA (0)] ((kMC ++ w), f, g) (some (kI (f 1 2))) ((kMC ++ w), (k_u f 1 2 0), g) := by
  refine kF_of (by decide) (by simp [k_one]) (Nat.le_of_ble_eq_true rfl) (L := [some (kA (0)), none]) rfl ?_
  refine kw_aload_n dX6_wipe_0 rfl ?_
  refine kv_getR (b := 1) dX6_wipe_1 kf_X6_10 rfl rfl rfl (hg (0, 0, 1) (by decide)) ?_
  refine kv_getI (kz := 2) dX6_wipe_4 kf_X6_68 rfl rfl rfl rfl ?_
  refine kw_istore_n dX6_wipe_7 (by decide) trivial (L2 := [some (kA (0)), some (kI (f 1 2))]) rfl ?_
  refine kw_aload_n dX6_wipe_8 rfl ?_
  refine kv_getR (b := 1) dX6_wipe_9 kf_X6_10 rfl rfl rfl (hg (0, 0, 1) (by decide)) ?_
  refine kw_iconst dX6_wipe_12 ⟨by decide, by decide⟩ ?_
  refine kv_putI (kz := 2) dX6_wipe_13 kp_X6_68 rfl rfl (fun h => by cases h) rfl ?_
  refine kw_iload_n dX6_wipe_16 rfl ?_
  exact kv_ri dX6_wipe_17 rfl rfl rfl
theorem c_full_past {E : kEnv} {w : List (Nat × Nat)} {f : Nat → Int → Int} {g : Nat → Int → Option Nat}  (hg : kG g) : kF E 0 M_X3_isFull [kA (12)] ((kMC ++ w), f, g) (some (kI (if 8 ≤ f 12 1 then 1 else 0))) ((kMC ++ w), f, g) := by
  refine kF_of (by decide) (by simp [k_one]) (Nat.le_of_ble_eq_true rfl) (L := [some (kA (12))]) rfl ?_
  refine kw_aload_n dX3_isFull_0 rfl ?_
  refine kv_getI (kz := 1) dX3_isFull_1 kf_X3_22 rfl rfl rfl rfl ?_
  refine kw_aload_n dX3_isFull_4 rfl ?_
  refine kv_getR (b := 13) dX3_isFull_5 kf_X3_15 rfl rfl rfl (hg (12, 0, 13) (by decide)) ?_
  refine kv_alen dX3_isFull_8 rfl (by decide) ?_
  refine kw_icmp_lt (tgt := 16) dX3_isFull_9 (by decide) (fun h1 => ?_) (fun h1 => ?_)
  · refine kw_iconst dX3_isFull_16 ⟨by decide, by decide⟩ ?_
    exact kv_rb dX3_isFull_17 rfl (by first | rfl | omega | (split <;> omega) | ((repeat' split) <;> omega) | grind) (by first | rfl | rw [if_pos (by omega)] | rw [if_neg (by omega)] | grind)
  · refine kw_iconst dX3_isFull_12 ⟨by decide, by decide⟩ ?_
    refine kw_goto (tgt := 17) dX3_isFull_13 (by decide) ?_
    exact kv_rb dX3_isFull_17 rfl (by first | rfl | omega | (split <;> omega) | ((repeat' split) <;> omega) | grind) (by first | rfl | rw [if_pos (by omega)] | rw [if_neg (by omega)] | grind)
theorem c_clear_past {E : kEnv} {w : List (Nat × Nat)} {f : Nat → Int → Int} {g : Nat → Int → Option Nat}  (hg : kG g) : kF E 0 M_X3_clear [kA (12)] ((kMC ++ w), f, g) (none) ((kMC ++ w), (k_u f 12 1 0), g) := by
  refine kF_of (by decide) (by simp [k_one]) (Nat.le_of_ble_eq_true rfl) (L := [some (kA (12))]) rfl ?_
  refine kw_aload_n dX3_clear_0 rfl ?_
  refine kw_iconst dX3_clear_1 ⟨by decide, by decide⟩ ?_
  refine kv_putI (kz := 1) dX3_clear_2 kp_X3_22 rfl rfl (fun h => by cases h) rfl ?_
  exact kv_rv dX3_clear_5 rfl rfl
theorem c_full_kept {E : kEnv} {w : List (Nat × Nat)} {f : Nat → Int → Int} {g : Nat → Int → Option Nat}  (hg : kG g) : kF E 0 M_X3_isFull [kA (30)] ((kMC ++ w), f, g) (some (kI (if 2 ≤ f 30 1 then 1 else 0))) ((kMC ++ w), f, g) := by
  refine kF_of (by decide) (by simp [k_one]) (Nat.le_of_ble_eq_true rfl) (L := [some (kA (30))]) rfl ?_
  refine kw_aload_n dX3_isFull_0 rfl ?_
  refine kv_getI (kz := 1) dX3_isFull_1 kf_X3_22 rfl rfl rfl rfl ?_
  refine kw_aload_n dX3_isFull_4 rfl ?_
  refine kv_getR (b := 31) dX3_isFull_5 kf_X3_15 rfl rfl rfl (hg (30, 0, 31) (by decide)) ?_
  refine kv_alen dX3_isFull_8 rfl (by decide) ?_
  refine kw_icmp_lt (tgt := 16) dX3_isFull_9 (by decide) (fun h1 => ?_) (fun h1 => ?_)
  · refine kw_iconst dX3_isFull_16 ⟨by decide, by decide⟩ ?_
    exact kv_rb dX3_isFull_17 rfl (by first | rfl | omega | (split <;> omega) | ((repeat' split) <;> omega) | grind) (by first | rfl | rw [if_pos (by omega)] | rw [if_neg (by omega)] | grind)
  · refine kw_iconst dX3_isFull_12 ⟨by decide, by decide⟩ ?_
    refine kw_goto (tgt := 17) dX3_isFull_13 (by decide) ?_
    exact kv_rb dX3_isFull_17 rfl (by first | rfl | omega | (split <;> omega) | ((repeat' split) <;> omega) | grind) (by first | rfl | rw [if_pos (by omega)] | rw [if_neg (by omega)] | grind)
theorem c_clear_kept {E : kEnv} {w : List (Nat × Nat)} {f : Nat → Int → Int} {g : Nat → Int → Option Nat}  (hg : kG g) : kF E 0 M_X3_clear [kA (30)] ((kMC ++ w), f, g) (none) ((kMC ++ w), (k_u f 30 1 0), g) := by
  refine kF_of (by decide) (by simp [k_one]) (Nat.le_of_ble_eq_true rfl) (L := [some (kA (30))]) rfl ?_
  refine kw_aload_n dX3_clear_0 rfl ?_
  refine kw_iconst dX3_clear_1 ⟨by decide, by decide⟩ ?_
  refine kv_putI (kz := 1) dX3_clear_2 kp_X3_22 rfl rfl (fun h => by cases h) rfl ?_
  exact kv_rv dX3_clear_5 rfl rfl
