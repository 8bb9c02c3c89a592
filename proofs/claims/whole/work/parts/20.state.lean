theorem c_deadFrom {E : kEnv} {w : List (Nat × Nat)} {f : Nat → Int → Int} {g : Nat → Int → Option Nat} {a : Nat} {b : Int} (ha : kSA a) (hg : kG g) : kF E 0 M_X4_deadFrom [kA (a), kI (b)] ((kMC ++ w), f, g) (some (kI (if 0 ≤ b ∧ b < 8 then f (a + 1) b else 100))) ((kMC ++ w), f, g) := by
  refine kF_of (by decide) (by simp [k_one]) (Nat.le_of_ble_eq_true rfl) (L := [some (kA (a)), some (kI (b))]) rfl ?_
  refine kw_iload_n dX4_deadFrom_0 rfl ?_
  refine kw_if_lt (tgt := 19) dX4_deadFrom_1 (by decide) (fun h1 => ?_) (fun h1 => ?_)
  · refine kw_bipush dX4_deadFrom_19 (by decide) (by decide) ?_
    exact kv_ri dX4_deadFrom_21 rfl (by first | rfl | omega | (split <;> omega) | ((repeat' split) <;> omega) | grind) (by first | rfl | rw [if_pos (by omega)] | rw [if_neg (by omega)] | grind)
  · refine kw_iload_n dX4_deadFrom_4 rfl ?_
    refine kw_bipush dX4_deadFrom_5 (by decide) (by decide) ?_
    refine kw_icmp_ge (tgt := 19) dX4_deadFrom_7 (by decide) (fun h2 => ?_) (fun h2 => ?_)
    · refine kw_bipush dX4_deadFrom_19 (by decide) (by decide) ?_
      exact kv_ri dX4_deadFrom_21 rfl (by first | rfl | omega | (split <;> omega) | ((repeat' split) <;> omega) | grind) (by first | rfl | rw [if_pos (by omega)] | rw [if_neg (by omega)] | grind)
    · refine kw_aload_n dX4_deadFrom_10 rfl ?_
      refine kv_getR dX4_deadFrom_11 kf_X4_11 (kSA_m ha w) rfl rfl (kSA_g ha hg) ?_
      refine kw_iload_n dX4_deadFrom_14 rfl ?_
      refine kv_iald dX4_deadFrom_15 (kSA_c ha w) (by omega) (by omega) rfl ?_
      refine kw_goto (tgt := 21) dX4_deadFrom_16 (by decide) ?_
      exact kv_ri dX4_deadFrom_21 rfl (by first | rfl | omega | (split <;> omega) | ((repeat' split) <;> omega) | grind) (by first | rfl | rw [if_pos (by omega)] | rw [if_neg (by omega)] | grind)
theorem c_setDeadFrom {E : kEnv} {w : List (Nat × Nat)} {f : Nat → Int → Int} {g : Nat → Int → Option Nat} {a : Nat} {b d : Int} (ha : kSA a) (hg : kG g) : kF E 0 M_X4_setDeadFrom [kA (a), kI (b), kI (d)] ((kMC ++ w), f, g) (none) ((kMC ++ w), (if 0 ≤ b ∧ b < 8 then k_u f (a + 1) b d else f), g) := by
  refine kF_of (by decide) (by simp [k_one]) (Nat.le_of_ble_eq_true rfl) (L := [some (kA (a)), some (kI (b)), some (kI (d))]) rfl ?_
  refine kw_iload_n dX4_setDeadFrom_0 rfl ?_
  refine kw_if_lt (tgt := 17) dX4_setDeadFrom_1 (by decide) (fun h1 => ?_) (fun h1 => ?_)
  · exact kv_rv dX4_setDeadFrom_17 rfl (by first | rfl | rw [if_pos (by omega)] | rw [if_neg (by omega)] | grind)
  · refine kw_iload_n dX4_setDeadFrom_4 rfl ?_
    refine kw_bipush dX4_setDeadFrom_5 (by decide) (by decide) ?_
    refine kw_icmp_ge (tgt := 17) dX4_setDeadFrom_7 (by decide) (fun h2 => ?_) (fun h2 => ?_)
    · exact kv_rv dX4_setDeadFrom_17 rfl (by first | rfl | rw [if_pos (by omega)] | rw [if_neg (by omega)] | grind)
    · refine kw_aload_n dX4_setDeadFrom_10 rfl ?_
      refine kv_getR dX4_setDeadFrom_11 kf_X4_11 (kSA_m ha w) rfl rfl (kSA_g ha hg) ?_
      refine kw_iload_n dX4_setDeadFrom_14 rfl ?_
      refine kw_iload_n dX4_setDeadFrom_15 rfl ?_
      refine kv_iast dX4_setDeadFrom_16 (kSA_c ha w) (by omega) (by omega) ?_
      exact kv_rv dX4_setDeadFrom_17 rfl (by first | rfl | rw [if_pos (by omega)] | rw [if_neg (by omega)] | grind)
theorem c_stack {E : kEnv} {w : List (Nat × Nat)} {f : Nat → Int → Int} {g : Nat → Int → Option Nat} {a : Nat} {i : Int} (ha : kSA a) (hg : kG g) : kF E 0 M_X4_stack [kA (a), kI (i)] ((kMC ++ w), f, g) (some (kI (if 0 ≤ i ∧ i < 4 then f (a + 1) (8 + i) else 0))) ((kMC ++ w), f, g) := by
  refine kF_of (by decide) (by simp [k_one]) (Nat.le_of_ble_eq_true rfl) (L := [some (kA (a)), some (kI (i))]) rfl ?_
  refine kw_iload_n dX4_stack_0 rfl ?_
  refine kw_if_lt (tgt := 21) dX4_stack_1 (by decide) (fun h1 => ?_) (fun h1 => ?_)
  · refine kw_iconst dX4_stack_21 ⟨by decide, by decide⟩ ?_
    exact kv_ri dX4_stack_22 rfl (by first | rfl | omega | (split <;> omega) | ((repeat' split) <;> omega) | grind) (by first | rfl | rw [if_pos (by omega)] | rw [if_neg (by omega)] | grind)
  · refine kw_iload_n dX4_stack_4 rfl ?_
    refine kw_iconst dX4_stack_5 ⟨by decide, by decide⟩ ?_
    refine kw_icmp_ge (tgt := 21) dX4_stack_6 (by decide) (fun h2 => ?_) (fun h2 => ?_)
    · refine kw_iconst dX4_stack_21 ⟨by decide, by decide⟩ ?_
      exact kv_ri dX4_stack_22 rfl (by first | rfl | omega | (split <;> omega) | ((repeat' split) <;> omega) | grind) (by first | rfl | rw [if_pos (by omega)] | rw [if_neg (by omega)] | grind)
    · refine kw_aload_n dX4_stack_9 rfl ?_
      refine kv_getR dX4_stack_10 kf_X4_11 (kSA_m ha w) rfl rfl (kSA_g ha hg) ?_
      refine kw_bipush dX4_stack_13 (by decide) (by decide) ?_
      refine kw_iload_n dX4_stack_15 rfl ?_
      refine kw_iadd dX4_stack_16 ⟨by omega, by omega⟩ ?_
      refine kv_iald dX4_stack_17 (kSA_c ha w) (by omega) (by omega) rfl ?_
      refine kw_goto (tgt := 22) dX4_stack_18 (by decide) ?_
      exact kv_ri dX4_stack_22 rfl (by first | rfl | omega | (split <;> omega) | ((repeat' split) <;> omega) | grind) (by first | rfl | rw [if_pos (by omega)] | rw [if_neg (by omega)] | grind)
theorem c_reach {E : kEnv} {w : List (Nat × Nat)} {f : Nat → Int → Int} {g : Nat → Int → Option Nat} {a : Nat} {i : Int} (ha : kSA a) (hg : kG g) : kF E 0 M_X4_reach [kA (a), kI (i)] ((kMC ++ w), f, g) (some (kI (if 0 ≤ i ∧ i < 4 then f (a + 1) (12 + i) else 0))) ((kMC ++ w), f, g) := by
  refine kF_of (by decide) (by simp [k_one]) (Nat.le_of_ble_eq_true rfl) (L := [some (kA (a)), some (kI (i))]) rfl ?_
  refine kw_iload_n dX4_reach_0 rfl ?_
  refine kw_if_lt (tgt := 21) dX4_reach_1 (by decide) (fun h1 => ?_) (fun h1 => ?_)
  · refine kw_iconst dX4_reach_21 ⟨by decide, by decide⟩ ?_
    exact kv_ri dX4_reach_22 rfl (by first | rfl | omega | (split <;> omega) | ((repeat' split) <;> omega) | grind) (by first | rfl | rw [if_pos (by omega)] | rw [if_neg (by omega)] | grind)
  · refine kw_iload_n dX4_reach_4 rfl ?_
    refine kw_iconst dX4_reach_5 ⟨by decide, by decide⟩ ?_
    refine kw_icmp_ge (tgt := 21) dX4_reach_6 (by decide) (fun h2 => ?_) (fun h2 => ?_)
    · refine kw_iconst dX4_reach_21 ⟨by decide, by decide⟩ ?_
      exact kv_ri dX4_reach_22 rfl (by first | rfl | omega | (split <;> omega) | ((repeat' split) <;> omega) | grind) (by first | rfl | rw [if_pos (by omega)] | rw [if_neg (by omega)] | grind)
    · refine kw_aload_n dX4_reach_9 rfl ?_
      refine kv_getR dX4_reach_10 kf_X4_11 (kSA_m ha w) rfl rfl (kSA_g ha hg) ?_
      refine kw_bipush dX4_reach_13 (by decide) (by decide) ?_
      refine kw_iload_n dX4_reach_15 rfl ?_
      refine kw_iadd dX4_reach_16 ⟨by omega, by omega⟩ ?_
      refine kv_iald dX4_reach_17 (kSA_c ha w) (by omega) (by omega) rfl ?_
      refine kw_goto (tgt := 22) dX4_reach_18 (by decide) ?_
      exact kv_ri dX4_reach_22 rfl (by first | rfl | omega | (split <;> omega) | ((repeat' split) <;> omega) | grind) (by first | rfl | rw [if_pos (by omega)] | rw [if_neg (by omega)] | grind)
theorem c_carried {E : kEnv} {w : List (Nat × Nat)} {f : Nat → Int → Int} {g : Nat → Int → Option Nat} {a : Nat} {i : Int} (ha : kSA a) (hg : kG g) : kF E 0 M_X4_carried [kA (a), kI (i)] ((kMC ++ w), f, g) (some (kI (if 0 ≤ i ∧ i < 4 then f (a + 1) (16 + i) else 0))) ((kMC ++ w), f, g) := by
  refine kF_of (by decide) (by simp [k_one]) (Nat.le_of_ble_eq_true rfl) (L := [some (kA (a)), some (kI (i))]) rfl ?_
  refine kw_iload_n dX4_carried_0 rfl ?_
  refine kw_if_lt (tgt := 21) dX4_carried_1 (by decide) (fun h1 => ?_) (fun h1 => ?_)
  · refine kw_iconst dX4_carried_21 ⟨by decide, by decide⟩ ?_
    exact kv_ri dX4_carried_22 rfl (by first | rfl | omega | (split <;> omega) | ((repeat' split) <;> omega) | grind) (by first | rfl | rw [if_pos (by omega)] | rw [if_neg (by omega)] | grind)
  · refine kw_iload_n dX4_carried_4 rfl ?_
    refine kw_iconst dX4_carried_5 ⟨by decide, by decide⟩ ?_
    refine kw_icmp_ge (tgt := 21) dX4_carried_6 (by decide) (fun h2 => ?_) (fun h2 => ?_)
    · refine kw_iconst dX4_carried_21 ⟨by decide, by decide⟩ ?_
      exact kv_ri dX4_carried_22 rfl (by first | rfl | omega | (split <;> omega) | ((repeat' split) <;> omega) | grind) (by first | rfl | rw [if_pos (by omega)] | rw [if_neg (by omega)] | grind)
    · refine kw_aload_n dX4_carried_9 rfl ?_
      refine kv_getR dX4_carried_10 kf_X4_11 (kSA_m ha w) rfl rfl (kSA_g ha hg) ?_
      refine kw_bipush dX4_carried_13 (by decide) (by decide) ?_
      refine kw_iload_n dX4_carried_15 rfl ?_
      refine kw_iadd dX4_carried_16 ⟨by omega, by omega⟩ ?_
      refine kv_iald dX4_carried_17 (kSA_c ha w) (by omega) (by omega) rfl ?_
      refine kw_goto (tgt := 22) dX4_carried_18 (by decide) ?_
      exact kv_ri dX4_carried_22 rfl (by first | rfl | omega | (split <;> omega) | ((repeat' split) <;> omega) | grind) (by first | rfl | rw [if_pos (by omega)] | rw [if_neg (by omega)] | grind)
theorem c_setReach {E : kEnv} {w : List (Nat × Nat)} {f : Nat → Int → Int} {g : Nat → Int → Option Nat} {a : Nat} {i r : Int} (ha : kSA a) (hg : kG g) : kF E 0 M_X4_setReach [kA (a), kI (i), kI (r)] ((kMC ++ w), f, g) (none) ((kMC ++ w), (if 0 ≤ i ∧ i < 4 then k_u f (a + 1) (12 + i) r else f), g) := by
  refine kF_of (by decide) (by simp [k_one]) (Nat.le_of_ble_eq_true rfl) (L := [some (kA (a)), some (kI (i)), some (kI (r))]) rfl ?_
  refine kw_iload_n dX4_setReach_0 rfl ?_
  refine kw_if_lt (tgt := 19) dX4_setReach_1 (by decide) (fun h1 => ?_) (fun h1 => ?_)
  · exact kv_rv dX4_setReach_19 rfl (by first | rfl | rw [if_pos (by omega)] | rw [if_neg (by omega)] | grind)
  · refine kw_iload_n dX4_setReach_4 rfl ?_
    refine kw_iconst dX4_setReach_5 ⟨by decide, by decide⟩ ?_
    refine kw_icmp_ge (tgt := 19) dX4_setReach_6 (by decide) (fun h2 => ?_) (fun h2 => ?_)
    · exact kv_rv dX4_setReach_19 rfl (by first | rfl | rw [if_pos (by omega)] | rw [if_neg (by omega)] | grind)
    · refine kw_aload_n dX4_setReach_9 rfl ?_
      refine kv_getR dX4_setReach_10 kf_X4_11 (kSA_m ha w) rfl rfl (kSA_g ha hg) ?_
      refine kw_bipush dX4_setReach_13 (by decide) (by decide) ?_
      refine kw_iload_n dX4_setReach_15 rfl ?_
      refine kw_iadd dX4_setReach_16 ⟨by omega, by omega⟩ ?_
      refine kw_iload_n dX4_setReach_17 rfl ?_
      refine kv_iast dX4_setReach_18 (kSA_c ha w) (by omega) (by omega) ?_
      exact kv_rv dX4_setReach_19 rfl (by first | rfl | rw [if_pos (by omega)] | rw [if_neg (by omega)] | grind)
theorem c_loseStack {E : kEnv} {w : List (Nat × Nat)} {f : Nat → Int → Int} {g : Nat → Int → Option Nat} {a : Nat} {i : Int} (ha : kSA a) (hg : kG g) : kF E 0 M_X4_loseStack [kA (a), kI (i)] ((kMC ++ w), f, g) (none) ((kMC ++ w), (if 0 ≤ i ∧ i < 4 then k_u f (a + 1) (8 + i) 0 else f), g) := by
  refine kF_of (by decide) (by simp [k_one]) (Nat.le_of_ble_eq_true rfl) (L := [some (kA (a)), some (kI (i))]) rfl ?_
  refine kw_iload_n dX4_loseStack_0 rfl ?_
  refine kw_if_lt (tgt := 19) dX4_loseStack_1 (by decide) (fun h1 => ?_) (fun h1 => ?_)
  · exact kv_rv dX4_loseStack_19 rfl (by first | rfl | rw [if_pos (by omega)] | rw [if_neg (by omega)] | grind)
  · refine kw_iload_n dX4_loseStack_4 rfl ?_
    refine kw_iconst dX4_loseStack_5 ⟨by decide, by decide⟩ ?_
    refine kw_icmp_ge (tgt := 19) dX4_loseStack_6 (by decide) (fun h2 => ?_) (fun h2 => ?_)
    · exact kv_rv dX4_loseStack_19 rfl (by first | rfl | rw [if_pos (by omega)] | rw [if_neg (by omega)] | grind)
    · refine kw_aload_n dX4_loseStack_9 rfl ?_
      refine kv_getR dX4_loseStack_10 kf_X4_11 (kSA_m ha w) rfl rfl (kSA_g ha hg) ?_
      refine kw_bipush dX4_loseStack_13 (by decide) (by decide) ?_
      refine kw_iload_n dX4_loseStack_15 rfl ?_
      refine kw_iadd dX4_loseStack_16 ⟨by omega, by omega⟩ ?_
      refine kw_iconst dX4_loseStack_17 ⟨by decide, by decide⟩ ?_
      refine kv_iast dX4_loseStack_18 (kSA_c ha w) (by omega) (by omega) ?_
      exact kv_rv dX4_loseStack_19 rfl (by first | rfl | rw [if_pos (by omega)] | rw [if_neg (by omega)] | grind)
theorem c_isGone {E : kEnv} {w : List (Nat × Nat)} {f : Nat → Int → Int} {g : Nat → Int → Option Nat} {a : Nat} {b : Int} (ha : kSA a) (hg : kG g) (hr : 0 ≤ f a 2 ∧ f a 2 < 256) (hb : 0 ≤ b ∧ b < 8) : kF E 0 M_X4_isGone [kA (a), kI (b)] ((kMC ++ w), f, g) (some (kI (if kbit (f a 2) b = 1 then 1 else 0))) ((kMC ++ w), f, g) := by
  refine kF_of (by decide) (by simp [k_one]) (Nat.le_of_ble_eq_true rfl) (L := [some (kA (a)), some (kI (b))]) rfl ?_
  have z := k_divb (b := b) hr.1 hr.2
  have z2 := z.2
  refine kw_iload_n dX4_isGone_0 rfl ?_
  refine kw_if_lt (tgt := 26) dX4_isGone_1 (by decide) (fun h1 => ?_) (fun h1 => ?_)
  · refine kw_iconst dX4_isGone_26 ⟨by decide, by decide⟩ ?_
    exact kv_rb dX4_isGone_27 rfl (by first | rfl | omega | (split <;> omega) | ((repeat' split) <;> omega) | grind) (by first | rfl | rw [if_pos (by omega)] | rw [if_neg (by omega)] | grind)
  · refine kw_iload_n dX4_isGone_4 rfl ?_
    refine kw_bipush dX4_isGone_5 (by decide) (by decide) ?_
    refine kw_icmp_ge (tgt := 26) dX4_isGone_7 (by decide) (fun h2 => ?_) (fun h2 => ?_)
    · refine kw_iconst dX4_isGone_26 ⟨by decide, by decide⟩ ?_
      exact kv_rb dX4_isGone_27 rfl (by first | rfl | omega | (split <;> omega) | ((repeat' split) <;> omega) | grind) (by first | rfl | rw [if_pos (by omega)] | rw [if_neg (by omega)] | grind)
    · refine kw_aload_n dX4_isGone_10 rfl ?_
      refine kv_getI (kz := 2) dX4_isGone_11 kf_X4_19 (kSA_m ha w) rfl rfl rfl ?_
      refine kw_iload_n dX4_isGone_14 rfl ?_
      refine kv_shr dX4_isGone_15 (by omega) (by omega) (by omega) (by omega) ?_
      refine kw_iconst dX4_isGone_16 ⟨by decide, by decide⟩ ?_
      refine kv_and1 dX4_isGone_17 (by omega) (by omega) ?_
      refine kw_iconst dX4_isGone_18 ⟨by decide, by decide⟩ ?_
      refine kw_icmp_ne (tgt := 26) dX4_isGone_19 (by decide) (fun h3 => ?_) (fun h3 => ?_)
      · refine kw_iconst dX4_isGone_26 ⟨by decide, by decide⟩ ?_
        exact kv_rb dX4_isGone_27 rfl (by first | rfl | omega | (split <;> omega) | ((repeat' split) <;> omega) | grind) (by first | rfl | rw [if_pos (by omega)] | rw [if_neg (by omega)] | grind)
      · refine kw_iconst dX4_isGone_22 ⟨by decide, by decide⟩ ?_
        refine kw_goto (tgt := 27) dX4_isGone_23 (by decide) ?_
        exact kv_rb dX4_isGone_27 rfl (by first | rfl | omega | (split <;> omega) | ((repeat' split) <;> omega) | grind) (by first | rfl | rw [if_pos (by omega)] | rw [if_neg (by omega)] | grind)
theorem c_pick {E : kEnv} {w : List (Nat × Nat)} {f : Nat → Int → Int} {g : Nat → Int → Option Nat} {a : Nat} {i b v : Int} (ha : kSA a) (hg : kG g) (hr : 0 ≤ f a 2 ∧ f a 2 < 256) (hb : 0 ≤ b ∧ b < 8) (hi : 0 ≤ i ∧ i < 4) (h0 : kbit (f a 2) b = 0) (hv : 0 ≤ v ∧ v ≤ 100) (h1 : -1000 ≤ f (a + 1) (8 + i) ∧ f (a + 1) (8 + i) ≤ 1000) (h2 : -1000 ≤ f (a + 1) (16 + i) ∧ f (a + 1) (16 + i) ≤ 1000) : kF E 0 M_X4_pick [kA (a), kI (i), kI (b), kI (v)] ((kMC ++ w), f, g) (none) ((kMC ++ w), k_u (k_u (k_u f a 2 (f a 2 + 2 ^ b.toNat)) (a + 1) (8 + i) (f (a + 1) (8 + i) + v)) (a + 1) (16 + i) (f (a + 1) (16 + i) + v), g) := by
  refine kF_of (by decide) (by simp [k_one]) (Nat.le_of_ble_eq_true rfl) (L := [some (kA (a)), some (kI (i)), some (kI (b)), some (kI (v))]) rfl ?_
  refine kw_iload_n dX4_pick_0 rfl ?_
  refine kw_if_lt (tgt := 57) dX4_pick_1 (by decide) (fun h1 => ?_) (fun h1 => ?_)
  · exact kv_rv dX4_pick_57 rfl (by first | rfl | rw [if_pos (by omega)] | rw [if_neg (by omega)] | grind)
  · refine kw_iload_n dX4_pick_4 rfl ?_
    refine kw_iconst dX4_pick_5 ⟨by decide, by decide⟩ ?_
    refine kw_icmp_ge (tgt := 57) dX4_pick_6 (by decide) (fun h2 => ?_) (fun h2 => ?_)
    · exact kv_rv dX4_pick_57 rfl (by first | rfl | rw [if_pos (by omega)] | rw [if_neg (by omega)] | grind)
    · refine kw_iload_n dX4_pick_9 rfl ?_
      refine kw_if_lt (tgt := 57) dX4_pick_10 (by decide) (fun h3 => ?_) (fun h3 => ?_)
      · exact kv_rv dX4_pick_57 rfl (by first | rfl | rw [if_pos (by omega)] | rw [if_neg (by omega)] | grind)
      · refine kw_iload_n dX4_pick_13 rfl ?_
        refine kw_bipush dX4_pick_14 (by decide) (by decide) ?_
        refine kw_icmp_ge (tgt := 57) dX4_pick_16 (by decide) (fun h4 => ?_) (fun h4 => ?_)
        · exact kv_rv dX4_pick_57 rfl (by first | rfl | rw [if_pos (by omega)] | rw [if_neg (by omega)] | grind)
        · refine kw_aload_n dX4_pick_19 rfl ?_
          refine kw_dup dX4_pick_20 trivial ?_
          refine kv_getI (kz := 2) dX4_pick_21 kf_X4_19 (kSA_m ha w) rfl rfl rfl ?_
          refine kw_iconst dX4_pick_24 ⟨by decide, by decide⟩ ?_
          refine kw_iload_n dX4_pick_25 rfl ?_
          refine kv_shl1 dX4_pick_26 (by omega) (by omega) ?_
          refine kv_orb (b := b) dX4_pick_27 (by omega) (by omega) (by omega) (by omega) h0 ?_
          refine kv_putI (kz := 2) dX4_pick_28 kp_X4_19 (kSA_m ha w) rfl (fun h => by cases h) rfl ?_
          refine kw_aload_n dX4_pick_31 rfl ?_
          refine kv_getR dX4_pick_32 kf_X4_11 (kSA_m ha w) rfl rfl (kSA_g ha hg) ?_
          refine kw_bipush dX4_pick_35 (by decide) (by decide) ?_
          refine kw_iload_n dX4_pick_37 rfl ?_
          refine kw_iadd dX4_pick_38 ⟨by omega, by omega⟩ ?_
          refine kw_dup2 dX4_pick_39 trivial trivial ?_
          refine kv_iald dX4_pick_40 (kSA_c ha w) (by omega) (by omega) (k_u_ne (by omega)) ?_
          refine kw_iload_n dX4_pick_41 rfl ?_
          refine kw_iadd dX4_pick_42 ⟨by omega, by omega⟩ ?_
          refine kv_iast dX4_pick_43 (kSA_c ha w) (by omega) (by omega) ?_
          refine kw_aload_n dX4_pick_44 rfl ?_
          refine kv_getR dX4_pick_45 kf_X4_11 (kSA_m ha w) rfl rfl (kSA_g ha hg) ?_
          refine kw_bipush dX4_pick_48 (by decide) (by decide) ?_
          refine kw_iload_n dX4_pick_50 rfl ?_
          refine kw_iadd dX4_pick_51 ⟨by omega, by omega⟩ ?_
          refine kw_dup2 dX4_pick_52 trivial trivial ?_
          refine kv_iald dX4_pick_53 (kSA_c ha w) (by omega) (by omega) ((k_u_ne2 (by omega)).trans (k_u_ne (by omega))) ?_
          refine kw_iload_n dX4_pick_54 rfl ?_
          refine kw_iadd dX4_pick_55 ⟨by omega, by omega⟩ ?_
          refine kv_iast dX4_pick_56 (kSA_c ha w) (by omega) (by omega) ?_
          exact kv_rv dX4_pick_57 rfl (by first | rfl | rw [if_pos (by omega)] | rw [if_neg (by omega)] | grind)
