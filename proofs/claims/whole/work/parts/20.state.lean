theorem c_deadFrom {E : kEnv} {w : List (Nat × Nat)} {f : Nat → Int → Int} {g : Nat → Int → Option Nat} {a : Nat} {b : Int} (ha : kSA a) (hg : kG g) : kF E 0 M_X4_deadFrom [kA (a), kI (b)] ((kMC ++ w), f, g) (some (kI (if 0 ≤ b ∧ b < 8 then f (a + 1) b else 100))) ((kMC ++ w), f, g) := by
  refine kF_of (by decide) (by simp [k_one]) (Nat.le_of_ble_eq_true rfl) (L := [some (kA (a)), some (kI (b))]) rfl ?_
  refine kw_iload_n dX4_deadFrom_0 rfl ?_
  refine kw_if_lt (tgt := 19) dX4_deadFrom_1 (by decide) (fun h1 => ?_) (fun h1 => ?_)
  · refine kw_bipush dX4_deadFrom_19 (by decide) (by decide) ?_
    exact kv_ri dX4_deadFrom_21 rfl (by first | rfl | omega | (split <;> omega) | ((repeat' split) <;> omega) | grind) (by first | rfl | rw [if_pos (by omega)] | rw [if_neg (by omega)] | grind)
  · refine kw_iload_n dX4_deadFrom_4 rfl ?_
    refine kw_bipush dX4_deadFrom_5 (by decide) (by decide) ?_
    refine kw_icmp_ge (tgt := 19) dX4_deadFrom_7 (by decide) (fun h2 => ?_) (fun h2 => ?_)
    · refine kw_bipush dX4_deadFrom_19 (by decide) (by decide) ?_
      exact kv_ri dX4_deadFrom_21 rfl (by first | rfl | omega | (split <;> omega) | ((repeat' split) <;> omega) | grind) (by first | rfl | rw [if_pos (by omega)] | rw [if_neg (by omega)] | grind)
    · refine kw_aload_n dX4_deadFrom_10 rfl ?_
      refine kv_getR dX4_deadFrom_11 kf_X4_11 (kSA_m ha w) rfl rfl (kSA_g ha hg) ?_
      refine kw_iload_n dX4_deadFrom_14 rfl ?_
      refine kv_iald dX4_deadFrom_15 (kSA_c ha w) (by omega) (by omega) ?_
      refine kw_goto (tgt := 21) dX4_deadFrom_16 (by decide) ?_
      exact kv_ri dX4_deadFrom_21 rfl (by first | rfl | omega | (split <;> omega) | ((repeat' split) <;> omega) | grind) (by first | rfl | rw [if_pos (by omega)] | rw [if_neg (by omega)] | grind)
theorem c_setDeadFrom {E : kEnv} {w : List (Nat × Nat)} {f : Nat → Int → Int} {g : Nat → Int → Option Nat} {a : Nat} {b d : Int} (ha : kSA a) (hg : kG g) : kF E 0 M_X4_setDeadFrom [kA (a), kI (b), kI (d)] ((kMC ++ w), f, g) (none) ((kMC ++ w), (if 0 ≤ b ∧ b < 8 then k_u f (a + 1) b d else f), g) := by
  refine kF_of (by decide) (by simp [k_one]) (Nat.le_of_ble_eq_true rfl) (L := [some (kA (a)), some (kI (b)), some (kI (d))]) rfl ?_
  refine kw_iload_n dX4_setDeadFrom_0 rfl ?_
  refine kw_if_lt (tgt := 17) dX4_setDeadFrom_1 (by decide) (fun h1 => ?_) (fun h1 => ?_)
  · exact kv_rv dX4_setDeadFrom_17 rfl (by first | rfl | rw [if_pos (by omega)] | rw [if_neg (by omega)] | grind)
  · refine kw_iload_n dX4_setDeadFrom_4 rfl ?_
    refine kw_bipush dX4_setDeadFrom_5 (by decide) (by decide) ?_
    refine kw_icmp_ge (tgt := 17) dX4_setDeadFrom_7 (by decide) (fun h2 => ?_) (fun h2 => ?_)
    · exact kv_rv dX4_setDeadFrom_17 rfl (by first | rfl | rw [if_pos (by omega)] | rw [if_neg (by omega)] | grind)
    · refine kw_aload_n dX4_setDeadFrom_10 rfl ?_
      refine kv_getR dX4_setDeadFrom_11 kf_X4_11 (kSA_m ha w) rfl rfl (kSA_g ha hg) ?_
      refine kw_iload_n dX4_setDeadFrom_14 rfl ?_
      refine kw_iload_n dX4_setDeadFrom_15 rfl ?_
      refine kv_iast dX4_setDeadFrom_16 (kSA_c ha w) (by omega) (by omega) ?_
      exact kv_rv dX4_setDeadFrom_17 rfl (by first | rfl | rw [if_pos (by omega)] | rw [if_neg (by omega)] | grind)
theorem c_stack {E : kEnv} {w : List (Nat × Nat)} {f : Nat → Int → Int} {g : Nat → Int → Option Nat} {a : Nat} {i : Int} (ha : kSA a) (hg : kG g) : kF E 0 M_X4_stack [kA (a), kI (i)] ((kMC ++ w), f, g) (some (kI (if 0 ≤ i ∧ i < 4 then f (a + 1) (8 + i) else 0))) ((kMC ++ w), f, g) := by
  refine kF_of (by decide) (by simp [k_one]) (Nat.le_of_ble_eq_true rfl) (L := [some (kA (a)), some (kI (i))]) rfl ?_
  refine kw_iload_n dX4_stack_0 rfl ?_
  refine kw_if_lt (tgt := 21) dX4_stack_1 (by decide) (fun h1 => ?_) (fun h1 => ?_)
  · refine kw_iconst dX4_stack_21 ⟨by decide, by decide⟩ ?_
    exact kv_ri dX4_stack_22 rfl (by first | rfl | omega | (split <;> omega) | ((repeat' split) <;> omega) | grind) (by first | rfl | rw [if_pos (by omega)] | rw [if_neg (by omega)] | grind)
  · refine kw_iload_n dX4_stack_4 rfl ?_
    refine kw_iconst dX4_stack_5 ⟨by decide, by decide⟩ ?_
    refine kw_icmp_ge (tgt := 21) dX4_stack_6 (by decide) (fun h2 => ?_) (fun h2 => ?_)
    · refine kw_iconst dX4_stack_21 ⟨by decide, by decide⟩ ?_
      exact kv_ri dX4_stack_22 rfl (by first | rfl | omega | (split <;> omega) | ((repeat' split) <;> omega) | grind) (by first | rfl | rw [if_pos (by omega)] | rw [if_neg (by omega)] | grind)
    · refine kw_aload_n dX4_stack_9 rfl ?_
      refine kv_getR dX4_stack_10 kf_X4_11 (kSA_m ha w) rfl rfl (kSA_g ha hg) ?_
      refine kw_bipush dX4_stack_13 (by decide) (by decide) ?_
      refine kw_iload_n dX4_stack_15 rfl ?_
      refine kw_iadd dX4_stack_16 ⟨by omega, by omega⟩ ?_
      refine kv_iald dX4_stack_17 (kSA_c ha w) (by omega) (by omega) ?_
      refine kw_goto (tgt := 22) dX4_stack_18 (by decide) ?_
      exact kv_ri dX4_stack_22 rfl (by first | rfl | omega | (split <;> omega) | ((repeat' split) <;> omega) | grind) (by first | rfl | rw [if_pos (by omega)] | rw [if_neg (by omega)] | grind)
theorem c_reach {E : kEnv} {w : List (Nat × Nat)} {f : Nat → Int → Int} {g : Nat → Int → Option Nat} {a : Nat} {i : Int} (ha : kSA a) (hg : kG g) : kF E 0 M_X4_reach [kA (a), kI (i)] ((kMC ++ w), f, g) (some (kI (if 0 ≤ i ∧ i < 4 then f (a + 1) (12 + i) else 0))) ((kMC ++ w), f, g) := by
  refine kF_of (by decide) (by simp [k_one]) (Nat.le_of_ble_eq_true rfl) (L := [some (kA (a)), some (kI (i))]) rfl ?_
  refine kw_iload_n dX4_reach_0 rfl ?_
  refine kw_if_lt (tgt := 21) dX4_reach_1 (by decide) (fun h1 => ?_) (fun h1 => ?_)
  · refine kw_iconst dX4_reach_21 ⟨by decide, by decide⟩ ?_
    exact kv_ri dX4_reach_22 rfl (by first | rfl | omega | (split <;> omega) | ((repeat' split) <;> omega) | grind) (by first | rfl | rw [if_pos (by omega)] | rw [if_neg (by omega)] | grind)
  · refine kw_iload_n dX4_reach_4 rfl ?_
    refine kw_iconst dX4_reach_5 ⟨by decide, by decide⟩ ?_
    refine kw_icmp_ge (tgt := 21) dX4_reach_6 (by decide) (fun h2 => ?_) (fun h2 => ?_)
    · refine kw_iconst dX4_reach_21 ⟨by decide, by decide⟩ ?_
      exact kv_ri dX4_reach_22 rfl (by first | rfl | omega | (split <;> omega) | ((repeat' split) <;> omega) | grind) (by first | rfl | rw [if_pos (by omega)] | rw [if_neg (by omega)] | grind)
    · refine kw_aload_n dX4_reach_9 rfl ?_
      refine kv_getR dX4_reach_10 kf_X4_11 (kSA_m ha w) rfl rfl (kSA_g ha hg) ?_
      refine kw_bipush dX4_reach_13 (by decide) (by decide) ?_
      refine kw_iload_n dX4_reach_15 rfl ?_
      refine kw_iadd dX4_reach_16 ⟨by omega, by omega⟩ ?_
      refine kv_iald dX4_reach_17 (kSA_c ha w) (by omega) (by omega) ?_
      refine kw_goto (tgt := 22) dX4_reach_18 (by decide) ?_
      exact kv_ri dX4_reach_22 rfl (by first | rfl | omega | (split <;> omega) | ((repeat' split) <;> omega) | grind) (by first | rfl | rw [if_pos (by omega)] | rw [if_neg (by omega)] | grind)
theorem c_carried {E : kEnv} {w : List (Nat × Nat)} {f : Nat → Int → Int} {g : Nat → Int → Option Nat} {a : Nat} {i : Int} (ha : kSA a) (hg : kG g) : kF E 0 M_X4_carried [kA (a), kI (i)] ((kMC ++ w), f, g) (some (kI (if 0 ≤ i ∧ i < 4 then f (a + 1) (16 + i) else 0))) ((kMC ++ w), f, g) := by
  refine kF_of (by decide) (by simp [k_one]) (Nat.le_of_ble_eq_true rfl) (L := [some (kA (a)), some (kI (i))]) rfl ?_
  refine kw_iload_n dX4_carried_0 rfl ?_
  refine kw_if_lt (tgt := 21) dX4_carried_1 (by decide) (fun h1 => ?_) (fun h1 => ?_)
  · refine kw_iconst dX4_carried_21 ⟨by decide, by decide⟩ ?_
    exact kv_ri dX4_carried_22 rfl (by first | rfl | omega | (split <;> omega) | ((repeat' split) <;> omega) | grind) (by first | rfl | rw [if_pos (by omega)] | rw [if_neg (by omega)] | grind)
  · refine kw_iload_n dX4_carried_4 rfl ?_
    refine kw_iconst dX4_carried_5 ⟨by decide, by decide⟩ ?_
    refine kw_icmp_ge (tgt := 21) dX4_carried_6 (by decide) (fun h2 => ?_) (fun h2 => ?_)
    · refine kw_iconst dX4_carried_21 ⟨by decide, by decide⟩ ?_
      exact kv_ri dX4_carried_22 rfl (by first | rfl | omega | (split <;> omega) | ((repeat' split) <;> omega) | grind) (by first | rfl | rw [if_pos (by omega)] | rw [if_neg (by omega)] | grind)
    · refine kw_aload_n dX4_carried_9 rfl ?_
      refine kv_getR dX4_carried_10 kf_X4_11 (kSA_m ha w) rfl rfl (kSA_g ha hg) ?_
      refine kw_bipush dX4_carried_13 (by decide) (by decide) ?_
      refine kw_iload_n dX4_carried_15 rfl ?_
      refine kw_iadd dX4_carried_16 ⟨by omega, by omega⟩ ?_
      refine kv_iald dX4_carried_17 (kSA_c ha w) (by omega) (by omega) ?_
      refine kw_goto (tgt := 22) dX4_carried_18 (by decide) ?_
      exact kv_ri dX4_carried_22 rfl (by first | rfl | omega | (split <;> omega) | ((repeat' split) <;> omega) | grind) (by first | rfl | rw [if_pos (by omega)] | rw [if_neg (by omega)] | grind)
theorem c_setReach {E : kEnv} {w : List (Nat × Nat)} {f : Nat → Int → Int} {g : Nat → Int → Option Nat} {a : Nat} {i r : Int} (ha : kSA a) (hg : kG g) : kF E 0 M_X4_setReach [kA (a), kI (i), kI (r)] ((kMC ++ w), f, g) (none) ((kMC ++ w), (if 0 ≤ i ∧ i < 4 then k_u f (a + 1) (12 + i) r else f), g) := by
  refine kF_of (by decide) (by simp [k_one]) (Nat.le_of_ble_eq_true rfl) (L := [some (kA (a)), some (kI (i)), some (kI (r))]) rfl ?_
  refine kw_iload_n dX4_setReach_0 rfl ?_
  refine kw_if_lt (tgt := 19) dX4_setReach_1 (by decide) (fun h1 => ?_) (fun h1 => ?_)
  · exact kv_rv dX4_setReach_19 rfl (by first | rfl | rw [if_pos (by omega)] | rw [if_neg (by omega)] | grind)
  · refine kw_iload_n dX4_setReach_4 rfl ?_
    refine kw_iconst dX4_setReach_5 ⟨by decide, by decide⟩ ?_
    refine kw_icmp_ge (tgt := 19) dX4_setReach_6 (by decide) (fun h2 => ?_) (fun h2 => ?_)
    · exact kv_rv dX4_setReach_19 rfl (by first | rfl | rw [if_pos (by omega)] | rw [if_neg (by omega)] | grind)
    · refine kw_aload_n dX4_setReach_9 rfl ?_
      refine kv_getR dX4_setReach_10 kf_X4_11 (kSA_m ha w) rfl rfl (kSA_g ha hg) ?_
      refine kw_bipush dX4_setReach_13 (by decide) (by decide) ?_
      refine kw_iload_n dX4_setReach_15 rfl ?_
      refine kw_iadd dX4_setReach_16 ⟨by omega, by omega⟩ ?_
      refine kw_iload_n dX4_setReach_17 rfl ?_
      refine kv_iast dX4_setReach_18 (kSA_c ha w) (by omega) (by omega) ?_
      exact kv_rv dX4_setReach_19 rfl (by first | rfl | rw [if_pos (by omega)] | rw [if_neg (by omega)] | grind)
theorem c_loseStack {E : kEnv} {w : List (Nat × Nat)} {f : Nat → Int → Int} {g : Nat → Int → Option Nat} {a : Nat} {i : Int} (ha : kSA a) (hg : kG g) : kF E 0 M_X4_loseStack [kA (a), kI (i)] ((kMC ++ w), f, g) (none) ((kMC ++ w), (if 0 ≤ i ∧ i < 4 then k_u f (a + 1) (8 + i) 0 else f), g) := by
  refine kF_of (by decide) (by simp [k_one]) (Nat.le_of_ble_eq_true rfl) (L := [some (kA (a)), some (kI (i))]) rfl ?_
  refine kw_iload_n dX4_loseStack_0 rfl ?_
  refine kw_if_lt (tgt := 19) dX4_loseStack_1 (by decide) (fun h1 => ?_) (fun h1 => ?_)
  · exact kv_rv dX4_loseStack_19 rfl (by first | rfl | rw [if_pos (by omega)] | rw [if_neg (by omega)] | grind)
  · refine kw_iload_n dX4_loseStack_4 rfl ?_
    refine kw_iconst dX4_loseStack_5 ⟨by decide, by decide⟩ ?_
    refine kw_icmp_ge (tgt := 19) dX4_loseStack_6 (by decide) (fun h2 => ?_) (fun h2 => ?_)
    · exact kv_rv dX4_loseStack_19 rfl (by first | rfl | rw [if_pos (by omega)] | rw [if_neg (by omega)] | grind)
    · refine kw_aload_n dX4_loseStack_9 rfl ?_
      refine kv_getR dX4_loseStack_10 kf_X4_11 (kSA_m ha w) rfl rfl (kSA_g ha hg) ?_
      refine kw_bipush dX4_loseStack_13 (by decide) (by decide) ?_
      refine kw_iload_n dX4_loseStack_15 rfl ?_
      refine kw_iadd dX4_loseStack_16 ⟨by omega, by omega⟩ ?_
      refine kw_iconst dX4_loseStack_17 ⟨by decide, by decide⟩ ?_
      refine kv_iast dX4_loseStack_18 (kSA_c ha w) (by omega) (by omega) ?_
      exact kv_rv dX4_loseStack_19 rfl (by first | rfl | rw [if_pos (by omega)] | rw [if_neg (by omega)] | grind)
