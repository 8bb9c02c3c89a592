def kGoBy (f : Nat → Int → Int) (a : Nat) (n : Int) : Nat → Int → Int := k_u (k_u (k_u (k_u (k_u f a 1 (f a 1 + n)) (a + 1) 16 0) (a + 1) 17 0) (a + 1) 18 0) (a + 1) 19 0
def kBec (f : Nat → Int → Int) (a b : Nat) : Nat → Int → Int := k_cp (k_u (k_u f a 1 (f b 1)) a 2 (f b 2)) (b + 1) (a + 1) 0 0 20
theorem kSA_lt {a : Nat} (h : kSA a) : 10 ≤ a ∧ a ≤ 37 ∧ a ≠ 11 := by
  rcases h with rfl | rfl | rfl | rfl | rfl | rfl | rfl | rfl | rfl | rfl | rfl | rfl <;> decide
theorem c_deadFrom {E : kEnv} {w : List (Nat × Nat)} {f : Nat → Int → Int} {g : Nat → Int → Option Nat} {a : Nat} {b : Int} (ha : kSA a) (hg : kG g) : kF E 0 M_X4_deadFrom [kA (a), kI (b)] ((kMC ++ w), f, g) (some (kI (if 0 ≤ b ∧ b < 8 then f (a + 1) b else 100))) ((kMC ++ w), f, g) := by
  refine kF_of (by decide) (by simp [k_one]) (Nat.le_of_ble_eq_true rfl) (L := [some (kA (a)), some (kI (b))]) rfl ?_
  refine kw_iload_n dX4_deadFrom_0 rfl ?_
  refine kw_if_lt (tgt := 19) dX4_deadFrom_1 (by decide) (fun h1 => ?_) (fun h1 => ?_)
  · refine kw_bipush dX4_deadFrom_19 (by decide) (by decide) ?_
    exact kv_ri dX4_deadFrom_21 rfl (by first | rfl | omega | (split <;> omega) | ((repeat' split) <;> omega) | grind) (by first | rfl | rw [if_pos (by omega)] | rw [if_neg (by omega)] | grind)
  · refine kw_iload_n dX4_deadFrom_4 rfl ?_
    refine kw_bipush dX4_deadFrom_5 (by decide) (by decide) ?_
    refine kw_icmp_ge (tgt := 19) dX4_deadFrom_7 (by decide) (fun h2 => ?_) (fun h2 => ?_)
    · refine kw_bipush dX4_deadFrom_19 (by decide) (by decide) ?_
      exact kv_ri dX4_deadFrom_21 rfl (by first | rfl | omega | (split <;> omega) | ((repeat' split) <;> omega) | grind) (by first | rfl | rw [if_pos (by omega)] | rw [if_neg (by omega)] | grind)
    · refine kw_aload_n dX4_deadFrom_10 rfl ?_
      refine kv_getR (b := a + 1) dX4_deadFrom_11 kf_X4_11 (kSA_m ha w) rfl rfl (kSA_g ha hg) ?_
      refine kw_iload_n dX4_deadFrom_14 rfl ?_
      refine kv_iald dX4_deadFrom_15 (kSA_c ha w) (by omega) (by omega) rfl ?_
      refine kw_goto (tgt := 21) dX4_deadFrom_16 (by decide) ?_
      exact kv_ri dX4_deadFrom_21 rfl (by first | rfl | omega | (split <;> omega) | ((repeat' split) <;> omega) | grind) (by first | rfl | rw [if_pos (by omega)] | rw [if_neg (by omega)] | grind)
theorem c_setDeadFrom {E : kEnv} {w : List (Nat × Nat)} {f : Nat → Int → Int} {g : Nat → Int → Option Nat} {a : Nat} {b d : Int} (ha : kSA a) (hg : kG g) : kF E 0 M_X4_setDeadFrom [kA (a), kI (b), kI (d)] ((kMC ++ w), f, g) (none) ((kMC ++ w), (if 0 ≤ b ∧ b < 8 then k_u f (a + 1) b d else f), g) := by
  refine kF_of (by decide) (by simp [k_one]) (Nat.le_of_ble_eq_true rfl) (L := [some (kA (a)), some (kI (b)), some (kI (d))]) rfl ?_
  refine kw_iload_n dX4_setDeadFrom_0 rfl ?_
  refine kw_if_lt (tgt := 17) dX4_setDeadFrom_1 (by decide) (fun h1 => ?_) (fun h1 => ?_)
  · exact kv_rv dX4_setDeadFrom_17 rfl (by first | rfl | rw [if_pos (by omega)] | rw [if_neg (by omega)] | grind)
  · refine kw_iload_n dX4_setDeadFrom_4 rfl ?_
    refine kw_bipush dX4_setDeadFrom_5 (by decide) (by decide) ?_
    refine kw_icmp_ge (tgt := 17) dX4_setDeadFrom_7 (by decide) (fun h2 => ?_) (fun h2 => ?_)
    · exact kv_rv dX4_setDeadFrom_17 rfl (by first | rfl | rw [if_pos (by omega)] | rw [if_neg (by omega)] | grind)
    · refine kw_aload_n dX4_setDeadFrom_10 rfl ?_
      refine kv_getR (b := a + 1) dX4_setDeadFrom_11 kf_X4_11 (kSA_m ha w) rfl rfl (kSA_g ha hg) ?_
      refine kw_iload_n dX4_setDeadFrom_14 rfl ?_
      refine kw_iload_n dX4_setDeadFrom_15 rfl ?_
      refine kv_iast dX4_setDeadFrom_16 (kSA_c ha w) (by omega) (by omega) ?_
      exact kv_rv dX4_setDeadFrom_17 rfl (by first | rfl | rw [if_pos (by omega)] | rw [if_neg (by omega)] | grind)
theorem c_stack {E : kEnv} {w : List (Nat × Nat)} {f : Nat → Int → Int} {g : Nat → Int → Option Nat} {a : Nat} {i : Int} (ha : kSA a) (hg : kG g) : kF E 0 M_X4_stack [kA (a), kI (i)] ((kMC ++ w), f, g) (some (kI (if 0 ≤ i ∧ i < 4 then f (a + 1) (8 + i) else 0))) ((kMC ++ w), f, g) := by
  refine kF_of (by decide) (by simp [k_one]) (Nat.le_of_ble_eq_true rfl) (L := [some (kA (a)), some (kI (i))]) rfl ?_
  refine kw_iload_n dX4_stack_0 rfl ?_
  refine kw_if_lt (tgt := 21) dX4_stack_1 (by decide) (fun h1 => ?_) (fun h1 => ?_)
  · refine kw_iconst dX4_stack_21 ⟨by decide, by decide⟩ ?_
    exact kv_ri dX4_stack_22 rfl (by first | rfl | omega | (split <;> omega) | ((repeat' split) <;> omega) | grind) (by first | rfl | rw [if_pos (by omega)] | rw [if_neg (by omega)] | grind)
  · refine kw_iload_n dX4_stack_4 rfl ?_
    refine kw_iconst dX4_stack_5 ⟨by decide, by decide⟩ ?_
    refine kw_icmp_ge (tgt := 21) dX4_stack_6 (by decide) (fun h2 => ?_) (fun h2 => ?_)
    · refine kw_iconst dX4_stack_21 ⟨by decide, by decide⟩ ?_
      exact kv_ri dX4_stack_22 rfl (by first | rfl | omega | (split <;> omega) | ((repeat' split) <;> omega) | grind) (by first | rfl | rw [if_pos (by omega)] | rw [if_neg (by omega)] | grind)
    · refine kw_aload_n dX4_stack_9 rfl ?_
      refine kv_getR (b := a + 1) dX4_stack_10 kf_X4_11 (kSA_m ha w) rfl rfl (kSA_g ha hg) ?_
      refine kw_bipush dX4_stack_13 (by decide) (by decide) ?_
      refine kw_iload_n dX4_stack_15 rfl ?_
      refine kw_iadd dX4_stack_16 ⟨by omega, by omega⟩ ?_
      refine kv_iald dX4_stack_17 (kSA_c ha w) (by omega) (by omega) rfl ?_
      refine kw_goto (tgt := 22) dX4_stack_18 (by decide) ?_
      exact kv_ri dX4_stack_22 rfl (by first | rfl | omega | (split <;> omega) | ((repeat' split) <;> omega) | grind) (by first | rfl | rw [if_pos (by omega)] | rw [if_neg (by omega)] | grind)
theorem c_reach {E : kEnv} {w : List (Nat × Nat)} {f : Nat → Int → Int} {g : Nat → Int → Option Nat} {a : Nat} {i : Int} (ha : kSA a) (hg : kG g) : kF E 0 M_X4_reach [kA (a), kI (i)] ((kMC ++ w), f, g) (some (kI (if 0 ≤ i ∧ i < 4 then f (a + 1) (12 + i) else 0))) ((kMC ++ w), f, g) := by
  refine kF_of (by decide) (by simp [k_one]) (Nat.le_of_ble_eq_true rfl) (L := [some (kA (a)), some (kI (i))]) rfl ?_
  refine kw_iload_n dX4_reach_0 rfl ?_
  refine kw_if_lt (tgt := 21) dX4_reach_1 (by decide) (fun h1 => ?_) (fun h1 => ?_)
  · refine kw_iconst dX4_reach_21 ⟨by decide, by decide⟩ ?_
    exact kv_ri dX4_reach_22 rfl (by first | rfl | omega | (split <;> omega) | ((repeat' split) <;> omega) | grind) (by first | rfl | rw [if_pos (by omega)] | rw [if_neg (by omega)] | grind)
  · refine kw_iload_n dX4_reach_4 rfl ?_
    refine kw_iconst dX4_reach_5 ⟨by decide, by decide⟩ ?_
    refine kw_icmp_ge (tgt := 21) dX4_reach_6 (by decide) (fun h2 => ?_) (fun h2 => ?_)
    · refine kw_iconst dX4_reach_21 ⟨by decide, by decide⟩ ?_
      exact kv_ri dX4_reach_22 rfl (by first | rfl | omega | (split <;> omega) | ((repeat' split) <;> omega) | grind) (by first | rfl | rw [if_pos (by omega)] | rw [if_neg (by omega)] | grind)
    · refine kw_aload_n dX4_reach_9 rfl ?_
      refine kv_getR (b := a + 1) dX4_reach_10 kf_X4_11 (kSA_m ha w) rfl rfl (kSA_g ha hg) ?_
      refine kw_bipush dX4_reach_13 (by decide) (by decide) ?_
      refine kw_iload_n dX4_reach_15 rfl ?_
      refine kw_iadd dX4_reach_16 ⟨by omega, by omega⟩ ?_
      refine kv_iald dX4_reach_17 (kSA_c ha w) (by omega) (by omega) rfl ?_
      refine kw_goto (tgt := 22) dX4_reach_18 (by decide) ?_
      exact kv_ri dX4_reach_22 rfl (by first | rfl | omega | (split <;> omega) | ((repeat' split) <;> omega) | grind) (by first | rfl | rw [if_pos (by omega)] | rw [if_neg (by omega)] | grind)
theorem c_carried {E : kEnv} {w : List (Nat × Nat)} {f : Nat → Int → Int} {g : Nat → Int → Option Nat} {a : Nat} {i : Int} (ha : kSA a) (hg : kG g) : kF E 0 M_X4_carried [kA (a), kI (i)] ((kMC ++ w), f, g) (some (kI (if 0 ≤ i ∧ i < 4 then f (a + 1) (16 + i) else 0))) ((kMC ++ w), f, g) := by
  refine kF_of (by decide) (by simp [k_one]) (Nat.le_of_ble_eq_true rfl) (L := [some (kA (a)), some (kI (i))]) rfl ?_
  refine kw_iload_n dX4_carried_0 rfl ?_
  refine kw_if_lt (tgt := 21) dX4_carried_1 (by decide) (fun h1 => ?_) (fun h1 => ?_)
  · refine kw_iconst dX4_carried_21 ⟨by decide, by decide⟩ ?_
    exact kv_ri dX4_carried_22 rfl (by first | rfl | omega | (split <;> omega) | ((repeat' split) <;> omega) | grind) (by first | rfl | rw [if_pos (by omega)] | rw [if_neg (by omega)] | grind)
  · refine kw_iload_n dX4_carried_4 rfl ?_
    refine kw_iconst dX4_carried_5 ⟨by decide, by decide⟩ ?_
    refine kw_icmp_ge (tgt := 21) dX4_carried_6 (by decide) (fun h2 => ?_) (fun h2 => ?_)
    · refine kw_iconst dX4_carried_21 ⟨by decide, by decide⟩ ?_
      exact kv_ri dX4_carried_22 rfl (by first | rfl | omega | (split <;> omega) | ((repeat' split) <;> omega) | grind) (by first | rfl | rw [if_pos (by omega)] | rw [if_neg (by omega)] | grind)
    · refine kw_aload_n dX4_carried_9 rfl ?_
      refine kv_getR (b := a + 1) dX4_carried_10 kf_X4_11 (kSA_m ha w) rfl rfl (kSA_g ha hg) ?_
      refine kw_bipush dX4_carried_13 (by decide) (by decide) ?_
      refine kw_iload_n dX4_carried_15 rfl ?_
      refine kw_iadd dX4_carried_16 ⟨by omega, by omega⟩ ?_
      refine kv_iald dX4_carried_17 (kSA_c ha w) (by omega) (by omega) rfl ?_
      refine kw_goto (tgt := 22) dX4_carried_18 (by decide) ?_
      exact kv_ri dX4_carried_22 rfl (by first | rfl | omega | (split <;> omega) | ((repeat' split) <;> omega) | grind) (by first | rfl | rw [if_pos (by omega)] | rw [if_neg (by omega)] | grind)
theorem c_setReach {E : kEnv} {w : List (Nat × Nat)} {f : Nat → Int → Int} {g : Nat → Int → Option Nat} {a : Nat} {i r : Int} (ha : kSA a) (hg : kG g) : kF E 0 M_X4_setReach [kA (a), kI (i), kI (r)] ((kMC ++ w), f, g) (none) ((kMC ++ w), (if 0 ≤ i ∧ i < 4 then k_u f (a + 1) (12 + i) r else f), g) := by
  refine kF_of (by decide) (by simp [k_one]) (Nat.le_of_ble_eq_true rfl) (L := [some (kA (a)), some (kI (i)), some (kI (r))]) rfl ?_
  refine kw_iload_n dX4_setReach_0 rfl ?_
  refine kw_if_lt (tgt := 19) dX4_setReach_1 (by decide) (fun h1 => ?_) (fun h1 => ?_)
  · exact kv_rv dX4_setReach_19 rfl (by first | rfl | rw [if_pos (by omega)] | rw [if_neg (by omega)] | grind)
  · refine kw_iload_n dX4_setReach_4 rfl ?_
    refine kw_iconst dX4_setReach_5 ⟨by decide, by decide⟩ ?_
    refine kw_icmp_ge (tgt := 19) dX4_setReach_6 (by decide) (fun h2 => ?_) (fun h2 => ?_)
    · exact kv_rv dX4_setReach_19 rfl (by first | rfl | rw [if_pos (by omega)] | rw [if_neg (by omega)] | grind)
    · refine kw_aload_n dX4_setReach_9 rfl ?_
      refine kv_getR (b := a + 1) dX4_setReach_10 kf_X4_11 (kSA_m ha w) rfl rfl (kSA_g ha hg) ?_
      refine kw_bipush dX4_setReach_13 (by decide) (by decide) ?_
      refine kw_iload_n dX4_setReach_15 rfl ?_
      refine kw_iadd dX4_setReach_16 ⟨by omega, by omega⟩ ?_
      refine kw_iload_n dX4_setReach_17 rfl ?_
      refine kv_iast dX4_setReach_18 (kSA_c ha w) (by omega) (by omega) ?_
      exact kv_rv dX4_setReach_19 rfl (by first | rfl | rw [if_pos (by omega)] | rw [if_neg (by omega)] | grind)
theorem c_loseStack {E : kEnv} {w : List (Nat × Nat)} {f : Nat → Int → Int} {g : Nat → Int → Option Nat} {a : Nat} {i : Int} (ha : kSA a) (hg : kG g) : kF E 0 M_X4_loseStack [kA (a), kI (i)] ((kMC ++ w), f, g) (none) ((kMC ++ w), (if 0 ≤ i ∧ i < 4 then k_u f (a + 1) (8 + i) 0 else f), g) := by
  refine kF_of (by decide) (by simp [k_one]) (Nat.le_of_ble_eq_true rfl) (L := [some (kA (a)), some (kI (i))]) rfl ?_
  refine kw_iload_n dX4_loseStack_0 rfl ?_
  refine kw_if_lt (tgt := 19) dX4_loseStack_1 (by decide) (fun h1 => ?_) (fun h1 => ?_)
  · exact kv_rv dX4_loseStack_19 rfl (by first | rfl | rw [if_pos (by omega)] | rw [if_neg (by omega)] | grind)
  · refine kw_iload_n dX4_loseStack_4 rfl ?_
    refine kw_iconst dX4_loseStack_5 ⟨by decide, by decide⟩ ?_
    refine kw_icmp_ge (tgt := 19) dX4_loseStack_6 (by decide) (fun h2 => ?_) (fun h2 => ?_)
    · exact kv_rv dX4_loseStack_19 rfl (by first | rfl | rw [if_pos (by omega)] | rw [if_neg (by omega)] | grind)
    · refine kw_aload_n dX4_loseStack_9 rfl ?_
      refine kv_getR (b := a + 1) dX4_loseStack_10 kf_X4_11 (kSA_m ha w) rfl rfl (kSA_g ha hg) ?_
      refine kw_bipush dX4_loseStack_13 (by decide) (by decide) ?_
      refine kw_iload_n dX4_loseStack_15 rfl ?_
      refine kw_iadd dX4_loseStack_16 ⟨by omega, by omega⟩ ?_
      refine kw_iconst dX4_loseStack_17 ⟨by decide, by decide⟩ ?_
      refine kv_iast dX4_loseStack_18 (kSA_c ha w) (by omega) (by omega) ?_
      exact kv_rv dX4_loseStack_19 rfl (by first | rfl | rw [if_pos (by omega)] | rw [if_neg (by omega)] | grind)
theorem c_isGone {E : kEnv} {w : List (Nat × Nat)} {f : Nat → Int → Int} {g : Nat → Int → Option Nat} {a : Nat} {b : Int} (ha : kSA a) (hg : kG g) (hr : 0 ≤ f a 2 ∧ f a 2 < 256) (hb : 0 ≤ b ∧ b < 8) : kF E 0 M_X4_isGone [kA (a), kI (b)] ((kMC ++ w), f, g) (some (kI (if kbit (f a 2) b = 1 then 1 else 0))) ((kMC ++ w), f, g) := by
  refine kF_of (by decide) (by simp [k_one]) (Nat.le_of_ble_eq_true rfl) (L := [some (kA (a)), some (kI (b))]) rfl ?_
  have z := k_divb (b := b) hr.1 hr.2
  have z2 := z.2
  refine kw_iload_n dX4_isGone_0 rfl ?_
  refine kw_if_lt (tgt := 26) dX4_isGone_1 (by decide) (fun h1 => ?_) (fun h1 => ?_)
  · refine kw_iconst dX4_isGone_26 ⟨by decide, by decide⟩ ?_
    exact kv_rb dX4_isGone_27 rfl (by first | rfl | omega | (split <;> omega) | ((repeat' split) <;> omega) | grind) (by first | rfl | rw [if_pos (by omega)] | rw [if_neg (by omega)] | grind)
  · refine kw_iload_n dX4_isGone_4 rfl ?_
    refine kw_bipush dX4_isGone_5 (by decide) (by decide) ?_
    refine kw_icmp_ge (tgt := 26) dX4_isGone_7 (by decide) (fun h2 => ?_) (fun h2 => ?_)
    · refine kw_iconst dX4_isGone_26 ⟨by decide, by decide⟩ ?_
      exact kv_rb dX4_isGone_27 rfl (by first | rfl | omega | (split <;> omega) | ((repeat' split) <;> omega) | grind) (by first | rfl | rw [if_pos (by omega)] | rw [if_neg (by omega)] | grind)
    · refine kw_aload_n dX4_isGone_10 rfl ?_
      refine kv_getI (kz := 2) dX4_isGone_11 kf_X4_19 (kSA_m ha w) rfl rfl rfl ?_
      refine kw_iload_n dX4_isGone_14 rfl ?_
      refine kv_shr dX4_isGone_15 (by omega) (by omega) (by omega) (by omega) ?_
      refine kw_iconst dX4_isGone_16 ⟨by decide, by decide⟩ ?_
      refine kv_and1 dX4_isGone_17 (by omega) (by omega) ?_
      refine kw_iconst dX4_isGone_18 ⟨by decide, by decide⟩ ?_
      refine kw_icmp_ne (tgt := 26) dX4_isGone_19 (by decide) (fun h3 => ?_) (fun h3 => ?_)
      · refine kw_iconst dX4_isGone_26 ⟨by decide, by decide⟩ ?_
        exact kv_rb dX4_isGone_27 rfl (by first | rfl | omega | (split <;> omega) | ((repeat' split) <;> omega) | grind) (by first | rfl | rw [if_pos (by omega)] | rw [if_neg (by omega)] | grind)
      · refine kw_iconst dX4_isGone_22 ⟨by decide, by decide⟩ ?_
        refine kw_goto (tgt := 27) dX4_isGone_23 (by decide) ?_
        exact kv_rb dX4_isGone_27 rfl (by first | rfl | omega | (split <;> omega) | ((repeat' split) <;> omega) | grind) (by first | rfl | rw [if_pos (by omega)] | rw [if_neg (by omega)] | grind)
theorem c_pick {E : kEnv} {w : List (Nat × Nat)} {f : Nat → Int → Int} {g : Nat → Int → Option Nat} {a : Nat} {i b v : Int} (ha : kSA a) (hg : kG g) (hr : 0 ≤ f a 2 ∧ f a 2 < 256) (hb : 0 ≤ b ∧ b < 8) (hi : 0 ≤ i ∧ i < 4) (h0 : kbit (f a 2) b = 0) (hv : 0 ≤ v ∧ v ≤ 100) (h1 : -1000 ≤ f (a + 1) (8 + i) ∧ f (a + 1) (8 + i) ≤ 1000) (h2 : -1000 ≤ f (a + 1) (16 + i) ∧ f (a + 1) (16 + i) ≤ 1000) : kF E 0 M_X4_pick [kA (a), kI (i), kI (b), kI (v)] ((kMC ++ w), f, g) (none) ((kMC ++ w), k_u (k_u (k_u f a 2 (f a 2 + 2 ^ b.toNat)) (a + 1) (8 + i) (f (a + 1) (8 + i) + v)) (a + 1) (16 + i) (f (a + 1) (16 + i) + v), g) := by
  refine kF_of (by decide) (by simp [k_one]) (Nat.le_of_ble_eq_true rfl) (L := [some (kA (a)), some (kI (i)), some (kI (b)), some (kI (v))]) rfl ?_
  refine kw_iload_n dX4_pick_0 rfl ?_
  refine kw_if_lt (tgt := 57) dX4_pick_1 (by decide) (fun h1 => ?_) (fun h1 => ?_)
  · exact kv_rv dX4_pick_57 rfl (by first | rfl | rw [if_pos (by omega)] | rw [if_neg (by omega)] | grind)
  · refine kw_iload_n dX4_pick_4 rfl ?_
    refine kw_iconst dX4_pick_5 ⟨by decide, by decide⟩ ?_
    refine kw_icmp_ge (tgt := 57) dX4_pick_6 (by decide) (fun h2 => ?_) (fun h2 => ?_)
    · exact kv_rv dX4_pick_57 rfl (by first | rfl | rw [if_pos (by omega)] | rw [if_neg (by omega)] | grind)
    · refine kw_iload_n dX4_pick_9 rfl ?_
      refine kw_if_lt (tgt := 57) dX4_pick_10 (by decide) (fun h3 => ?_) (fun h3 => ?_)
      · exact kv_rv dX4_pick_57 rfl (by first | rfl | rw [if_pos (by omega)] | rw [if_neg (by omega)] | grind)
      · refine kw_iload_n dX4_pick_13 rfl ?_
        refine kw_bipush dX4_pick_14 (by decide) (by decide) ?_
        refine kw_icmp_ge (tgt := 57) dX4_pick_16 (by decide) (fun h4 => ?_) (fun h4 => ?_)
        · exact kv_rv dX4_pick_57 rfl (by first | rfl | rw [if_pos (by omega)] | rw [if_neg (by omega)] | grind)
        · refine kw_aload_n dX4_pick_19 rfl ?_
          refine kw_dup dX4_pick_20 trivial ?_
          refine kv_getI (kz := 2) dX4_pick_21 kf_X4_19 (kSA_m ha w) rfl rfl rfl ?_
          refine kw_iconst dX4_pick_24 ⟨by decide, by decide⟩ ?_
          refine kw_iload_n dX4_pick_25 rfl ?_
          refine kv_shl1 dX4_pick_26 (by omega) (by omega) ?_
          refine kv_orb (b := b) dX4_pick_27 (by omega) (by omega) (by omega) (by omega) h0 ?_
          refine kv_putI (kz := 2) dX4_pick_28 kp_X4_19 (kSA_m ha w) rfl (fun h => by cases h) rfl ?_
          refine kw_aload_n dX4_pick_31 rfl ?_
          refine kv_getR (b := a + 1) dX4_pick_32 kf_X4_11 (kSA_m ha w) rfl rfl (kSA_g ha hg) ?_
          refine kw_bipush dX4_pick_35 (by decide) (by decide) ?_
          refine kw_iload_n dX4_pick_37 rfl ?_
          refine kw_iadd dX4_pick_38 ⟨by omega, by omega⟩ ?_
          refine kw_dup2 dX4_pick_39 trivial trivial ?_
          refine kv_iald dX4_pick_40 (kSA_c ha w) (by omega) (by omega) (k_u_ne (by omega)) ?_
          refine kw_iload_n dX4_pick_41 rfl ?_
          refine kw_iadd dX4_pick_42 ⟨by omega, by omega⟩ ?_
          refine kv_iast dX4_pick_43 (kSA_c ha w) (by omega) (by omega) ?_
          refine kw_aload_n dX4_pick_44 rfl ?_
          refine kv_getR (b := a + 1) dX4_pick_45 kf_X4_11 (kSA_m ha w) rfl rfl (kSA_g ha hg) ?_
          refine kw_bipush dX4_pick_48 (by decide) (by decide) ?_
          refine kw_iload_n dX4_pick_50 rfl ?_
          refine kw_iadd dX4_pick_51 ⟨by omega, by omega⟩ ?_
          refine kw_dup2 dX4_pick_52 trivial trivial ?_
          refine kv_iald dX4_pick_53 (kSA_c ha w) (by omega) (by omega) ((k_u_ne2 (by omega)).trans (k_u_ne (by omega))) ?_
          refine kw_iload_n dX4_pick_54 rfl ?_
          refine kw_iadd dX4_pick_55 ⟨by omega, by omega⟩ ?_
          refine kv_iast dX4_pick_56 (kSA_c ha w) (by omega) (by omega) ?_
          exact kv_rv dX4_pick_57 rfl (by first | rfl | rw [if_pos (by omega)] | rw [if_neg (by omega)] | grind)
theorem c_goBy {E : kEnv} {w : List (Nat × Nat)} {f : Nat → Int → Int} {g : Nat → Int → Option Nat} {a : Nat} {n : Int} (ha : kSA a) (hg : kG g) (x1 : 0 ≤ n ∧ n ≤ 1000) (x2 : -1000 ≤ f a 1 ∧ f a 1 ≤ 1000) : kF E 0 M_X4_goBy [kA (a), kI (n)] ((kMC ++ w), f, g) (none) ((kMC ++ w), kGoBy f a n, g) := by
  refine kF_of (by decide) (by simp [k_one]) (Nat.le_of_ble_eq_true rfl) (L := [some (kA (a)), some (kI (n)), none]) rfl ?_
  refine kw_aload_n dX4_goBy_0 rfl ?_
  refine kw_dup dX4_goBy_1 trivial ?_
  refine kv_getI (kz := 1) dX4_goBy_2 kf_X4_15 (kSA_m ha w) rfl rfl rfl ?_
  refine kw_iload_n dX4_goBy_5 rfl ?_
  refine kw_iadd dX4_goBy_6 ⟨by omega, by omega⟩ ?_
  refine kv_putI (kz := 1) dX4_goBy_7 kp_X4_15 (kSA_m ha w) rfl (fun h => by cases h) rfl ?_
  refine kw_iconst dX4_goBy_10 ⟨by decide, by decide⟩ ?_
  refine kw_istore_n dX4_goBy_11 (by decide) trivial (L2 := [some (kA (a)), some (kI (n)), some (kI (0))]) rfl ?_
  refine kw_iload_n dX4_goBy_12 rfl ?_
  refine kw_iconst dX4_goBy_13 ⟨by decide, by decide⟩ ?_
  refine kw_icmp_ge (tgt := 33) dX4_goBy_14 (by decide) (kt := fun h => absurd h (by decide)) (kf := fun _ => ?_)
  refine kw_aload_n dX4_goBy_17 rfl ?_
  refine kv_getR (b := a + 1) dX4_goBy_18 kf_X4_11 (kSA_m ha w) rfl rfl (kSA_g ha hg) ?_
  refine kw_bipush dX4_goBy_21 (by decide) (by decide) ?_
  refine kw_iload_n dX4_goBy_23 rfl ?_
  refine kw_iadd dX4_goBy_24 ⟨by omega, by omega⟩ ?_
  refine kw_iconst dX4_goBy_25 ⟨by decide, by decide⟩ ?_
  refine kv_iast dX4_goBy_26 (kSA_c ha w) (by omega) (by omega) ?_
  refine kw_iinc dX4_goBy_27 (by decide) rfl ⟨by omega, by omega⟩ trivial (L2 := [some (kA (a)), some (kI (n)), some (kI (1))]) rfl ?_
  refine kw_goto (tgt := 12) dX4_goBy_30 (by decide) ?_
  refine kw_iload_n dX4_goBy_12 rfl ?_
  refine kw_iconst dX4_goBy_13 ⟨by decide, by decide⟩ ?_
  refine kw_icmp_ge (tgt := 33) dX4_goBy_14 (by decide) (kt := fun h => absurd h (by decide)) (kf := fun _ => ?_)
  refine kw_aload_n dX4_goBy_17 rfl ?_
  refine kv_getR (b := a + 1) dX4_goBy_18 kf_X4_11 (kSA_m ha w) rfl rfl (kSA_g ha hg) ?_
  refine kw_bipush dX4_goBy_21 (by decide) (by decide) ?_
  refine kw_iload_n dX4_goBy_23 rfl ?_
  refine kw_iadd dX4_goBy_24 ⟨by omega, by omega⟩ ?_
  refine kw_iconst dX4_goBy_25 ⟨by decide, by decide⟩ ?_
  refine kv_iast dX4_goBy_26 (kSA_c ha w) (by omega) (by omega) ?_
  refine kw_iinc dX4_goBy_27 (by decide) rfl ⟨by omega, by omega⟩ trivial (L2 := [some (kA (a)), some (kI (n)), some (kI (2))]) rfl ?_
  refine kw_goto (tgt := 12) dX4_goBy_30 (by decide) ?_
  refine kw_iload_n dX4_goBy_12 rfl ?_
  refine kw_iconst dX4_goBy_13 ⟨by decide, by decide⟩ ?_
  refine kw_icmp_ge (tgt := 33) dX4_goBy_14 (by decide) (kt := fun h => absurd h (by decide)) (kf := fun _ => ?_)
  refine kw_aload_n dX4_goBy_17 rfl ?_
  refine kv_getR (b := a + 1) dX4_goBy_18 kf_X4_11 (kSA_m ha w) rfl rfl (kSA_g ha hg) ?_
  refine kw_bipush dX4_goBy_21 (by decide) (by decide) ?_
  refine kw_iload_n dX4_goBy_23 rfl ?_
  refine kw_iadd dX4_goBy_24 ⟨by omega, by omega⟩ ?_
  refine kw_iconst dX4_goBy_25 ⟨by decide, by decide⟩ ?_
  refine kv_iast dX4_goBy_26 (kSA_c ha w) (by omega) (by omega) ?_
  refine kw_iinc dX4_goBy_27 (by decide) rfl ⟨by omega, by omega⟩ trivial (L2 := [some (kA (a)), some (kI (n)), some (kI (3))]) rfl ?_
  refine kw_goto (tgt := 12) dX4_goBy_30 (by decide) ?_
  refine kw_iload_n dX4_goBy_12 rfl ?_
  refine kw_iconst dX4_goBy_13 ⟨by decide, by decide⟩ ?_
  refine kw_icmp_ge (tgt := 33) dX4_goBy_14 (by decide) (kt := fun h => absurd h (by decide)) (kf := fun _ => ?_)
  refine kw_aload_n dX4_goBy_17 rfl ?_
  refine kv_getR (b := a + 1) dX4_goBy_18 kf_X4_11 (kSA_m ha w) rfl rfl (kSA_g ha hg) ?_
  refine kw_bipush dX4_goBy_21 (by decide) (by decide) ?_
  refine kw_iload_n dX4_goBy_23 rfl ?_
  refine kw_iadd dX4_goBy_24 ⟨by omega, by omega⟩ ?_
  refine kw_iconst dX4_goBy_25 ⟨by decide, by decide⟩ ?_
  refine kv_iast dX4_goBy_26 (kSA_c ha w) (by omega) (by omega) ?_
  refine kw_iinc dX4_goBy_27 (by decide) rfl ⟨by omega, by omega⟩ trivial (L2 := [some (kA (a)), some (kI (n)), some (kI (4))]) rfl ?_
  refine kw_goto (tgt := 12) dX4_goBy_30 (by decide) ?_
  refine kw_iload_n dX4_goBy_12 rfl ?_
  refine kw_iconst dX4_goBy_13 ⟨by decide, by decide⟩ ?_
  refine kw_icmp_ge (tgt := 33) dX4_goBy_14 (by decide) (kf := fun h => absurd (by decide) h) (kt := fun _ => ?_)
  exact kv_rv dX4_goBy_33 rfl (by first | rfl | rw [if_pos (by omega)] | rw [if_neg (by omega)] | grind)
theorem c_become {E : kEnv} {w : List (Nat × Nat)} {f : Nat → Int → Int} {g : Nat → Int → Option Nat} {a b : Nat} (ha : kSA a) (hg : kG g) (hb : kSA b) : kF E 1 M_X4_become [kA (a), kA (b)] ((kMC ++ w), f, g) (none) ((kMC ++ w), kBec f a b, g) := by
  refine kF_of (by decide) (by simp [k_one]) (Nat.le_of_ble_eq_true rfl) (L := [some (kA (a)), some (kA (b))]) rfl ?_
  have za := kSA_lt ha
  have zb := kSA_lt hb
  refine kw_aload_n dX4_become_0 rfl ?_
  refine kw_ifnullA (by omega) dX4_become_1 ?_
  refine kw_aload_n dX4_become_4 rfl ?_
  refine kw_aload_n dX4_become_5 rfl ?_
  refine kv_getI (kz := 1) dX4_become_6 kf_X4_15 (kSA_m hb w) rfl rfl rfl ?_
  refine kv_putI (kz := 1) dX4_become_9 kp_X4_15 (kSA_m ha w) rfl (fun h => by cases h) rfl ?_
  refine kw_aload_n dX4_become_12 rfl ?_
  refine kw_aload_n dX4_become_13 rfl ?_
  refine kv_getI (kz := 2) dX4_become_14 kf_X4_19 (kSA_m hb w) rfl rfl (k_u_ne2 (by decide)) ?_
  refine kv_putI (kz := 2) dX4_become_17 kp_X4_19 (kSA_m ha w) rfl (fun h => by cases h) rfl ?_
  refine kw_aload_n dX4_become_20 rfl ?_
  refine kv_getR (b := b + 1) dX4_become_21 kf_X4_11 (kSA_m hb w) rfl rfl (kSA_g hb hg) ?_
  refine kw_iconst dX4_become_24 ⟨by decide, by decide⟩ ?_
  refine kw_aload_n dX4_become_25 rfl ?_
  refine kv_getR (b := a + 1) dX4_become_26 kf_X4_11 (kSA_m ha w) rfl rfl (kSA_g ha hg) ?_
  refine kw_iconst dX4_become_29 ⟨by decide, by decide⟩ ?_
  refine kw_bipush dX4_become_30 (by decide) (by decide) ?_
  refine kv_copy dX4_become_32 ml_X4_22 (kSA_c hb w) (kSA_c ha w) (by omega) (by omega) (by omega) (by omega) (by omega) (Nat.le_of_ble_eq_true rfl) (by omega) ?_
  exact kv_rv dX4_become_35 rfl (by unfold kBec; rfl)
def kClr (f : Nat → Int → Int) (a : Nat) (k : Int) : Nat → Int → Int := fun b j => if b = a ∧ (j = 1 ∨ j = 2) then 0 else if b = a + 1 ∧ 0 ≤ j ∧ j < k then 0 else f b j
theorem kClr_s {f : Nat → Int → Int} {a : Nat} {k : Int} (h : 0 ≤ k) : k_u (kClr f a k) (a + 1) k 0 = kClr f a (k + 1) := by
  funext b j
  unfold k_u kClr
  grind
theorem kClr_0 {f : Nat → Int → Int} {a : Nat} : k_u (k_u f a 1 0) a 2 0 = kClr f a 0 := by
  funext b j
  unfold k_u kClr
  grind
theorem l_clear {E : kEnv} {w : List (Nat × Nat)} {f : Nat → Int → Int} {g : Nat → Int → Option Nat} {a : Nat} (ha : kSA a) (hg : kG g) {d : Nat} : ∀ (n : Nat) (k : Int), 0 ≤ k → k ≤ 20 → (20 - k).toNat < n → kW E d 0 0 M_X4_clear 12 [some (kA a), some (kI k)] [] (kMC ++ w, kClr f a k, g) (fun r h' => r = none ∧ h' = (kMC ++ w, kClr f a 20, g)) := by
  intro n
  induction n with
  | zero => intro k _ _ y; omega
  | succ n ih =>
    intro k y0 y1 y2
    refine kw_iload_n dX4_clear_12 rfl ?_
    refine kw_aload_n dX4_clear_13 rfl ?_
    refine kv_getR (b := a + 1) dX4_clear_14 kf_X4_11 (kSA_m ha w) rfl rfl (kSA_g ha hg) ?_
    refine kv_alen dX4_clear_17 (kSA_c ha w) (by decide) ?_
    refine kw_icmp_ge (tgt := 34) dX4_clear_18 (by decide) (fun h1 => ?_) (fun h1 => ?_)
    · exact kv_rv dX4_clear_34 rfl (by rw [show k = 20 by omega])
    · refine kw_aload_n dX4_clear_21 rfl ?_
      refine kv_getR (b := a + 1) dX4_clear_22 kf_X4_11 (kSA_m ha w) rfl rfl (kSA_g ha hg) ?_
      refine kw_iload_n dX4_clear_25 rfl ?_
      refine kw_iconst dX4_clear_26 ⟨by decide, by decide⟩ ?_
      refine kv_iast dX4_clear_27 (kSA_c ha w) (by omega) (by omega) ?_
      refine kw_iinc dX4_clear_28 (by decide) rfl ⟨by omega, by omega⟩ trivial (L2 := [some (kA (a)), some (kI (k + 1))]) rfl ?_
      refine kw_goto (tgt := 12) dX4_clear_31 (by decide) ?_
      rw [kClr_s y0]
      exact ih (k + 1) (by omega) (by omega) (by omega)
theorem c_clear {E : kEnv} {w : List (Nat × Nat)} {f : Nat → Int → Int} {g : Nat → Int → Option Nat} {a : Nat} (ha : kSA a) (hg : kG g) : kF E 0 M_X4_clear [kA (a)] ((kMC ++ w), f, g) (none) ((kMC ++ w), kClr f a 20, g) := by
  refine kF_of (by decide) (by simp [k_one]) (Nat.le_of_ble_eq_true rfl) (L := [some (kA (a)), none]) rfl ?_
  refine kw_aload_n dX4_clear_0 rfl ?_
  refine kw_iconst dX4_clear_1 ⟨by decide, by decide⟩ ?_
  refine kv_putI (kz := 1) dX4_clear_2 kp_X4_15 (kSA_m ha w) rfl (fun h => by cases h) rfl ?_
  refine kw_aload_n dX4_clear_5 rfl ?_
  refine kw_iconst dX4_clear_6 ⟨by decide, by decide⟩ ?_
  refine kv_putI (kz := 2) dX4_clear_7 kp_X4_19 (kSA_m ha w) rfl (fun h => by cases h) rfl ?_
  refine kw_iconst dX4_clear_10 ⟨by decide, by decide⟩ ?_
  refine kw_istore_n dX4_clear_11 (by decide) trivial (L2 := [some (kA (a)), some (kI (0))]) rfl ?_
  rw [kClr_0]
  exact l_clear ha hg 21 0 (by omega) (by omega) (by decide)
theorem c_kind {E : kEnv} {w : List (Nat × Nat)} {f : Nat → Int → Int} {g : Nat → Int → Option Nat} {b : Int} (hg : kG g) (hb : 0 ≤ b ∧ b < 8) : kF E 0 M_X2_kind [kA (4), kI (b)] ((kMC ++ w), f, g) (some (kI (f 5 b))) ((kMC ++ w), f, g) := by
  refine kF_of (by decide) (by simp [k_one]) (Nat.le_of_ble_eq_true rfl) (L := [some (kA (4)), some (kI (b))]) rfl ?_
  refine kw_iload_n dX2_kind_0 rfl ?_
  refine kw_if_lt (tgt := 22) dX2_kind_1 (by decide) (fun h1 => ?_) (fun h1 => ?_)
  · refine kw_iconst dX2_kind_22 ⟨by decide, by decide⟩ ?_
    exact kv_ri dX2_kind_23 rfl (by first | rfl | omega | (split <;> omega) | ((repeat' split) <;> omega) | grind) (by first | rfl | rw [if_pos (by omega)] | rw [if_neg (by omega)] | grind)
  · refine kw_iload_n dX2_kind_4 rfl ?_
    refine kw_aload_n dX2_kind_5 rfl ?_
    refine kv_getR (b := 5) dX2_kind_6 kf_X2_9 rfl rfl rfl (hg (4, 0, 5) (by decide)) ?_
    refine kv_alen dX2_kind_9 rfl (by decide) ?_
    refine kw_icmp_ge (tgt := 22) dX2_kind_10 (by decide) (fun h2 => ?_) (fun h2 => ?_)
    · refine kw_iconst dX2_kind_22 ⟨by decide, by decide⟩ ?_
      exact kv_ri dX2_kind_23 rfl (by first | rfl | omega | (split <;> omega) | ((repeat' split) <;> omega) | grind) (by first | rfl | rw [if_pos (by omega)] | rw [if_neg (by omega)] | grind)
    · refine kw_aload_n dX2_kind_13 rfl ?_
      refine kv_getR (b := 5) dX2_kind_14 kf_X2_9 rfl rfl rfl (hg (4, 0, 5) (by decide)) ?_
      refine kw_iload_n dX2_kind_17 rfl ?_
      refine kv_iald dX2_kind_18 rfl (by omega) (by omega) rfl ?_
      refine kw_goto (tgt := 23) dX2_kind_19 (by decide) ?_
      exact kv_ri dX2_kind_23 rfl (by first | rfl | omega | (split <;> omega) | ((repeat' split) <;> omega) | grind) (by first | rfl | rw [if_pos (by omega)] | rw [if_neg (by omega)] | grind)
theorem c_height {E : kEnv} {w : List (Nat × Nat)} {f : Nat → Int → Int} {g : Nat → Int → Option Nat} {b : Int} (hg : kG g) (hb : 0 ≤ b ∧ b < 8) : kF E 0 M_X2_height [kA (4), kI (b)] ((kMC ++ w), f, g) (some (kI (f 6 b))) ((kMC ++ w), f, g) := by
  refine kF_of (by decide) (by simp [k_one]) (Nat.le_of_ble_eq_true rfl) (L := [some (kA (4)), some (kI (b))]) rfl ?_
  refine kw_iload_n dX2_height_0 rfl ?_
  refine kw_if_lt (tgt := 22) dX2_height_1 (by decide) (fun h1 => ?_) (fun h1 => ?_)
  · refine kw_iconst dX2_height_22 ⟨by decide, by decide⟩ ?_
    exact kv_ri dX2_height_23 rfl (by first | rfl | omega | (split <;> omega) | ((repeat' split) <;> omega) | grind) (by first | rfl | rw [if_pos (by omega)] | rw [if_neg (by omega)] | grind)
  · refine kw_iload_n dX2_height_4 rfl ?_
    refine kw_aload_n dX2_height_5 rfl ?_
    refine kv_getR (b := 6) dX2_height_6 kf_X2_15 rfl rfl rfl (hg (4, 1, 6) (by decide)) ?_
    refine kv_alen dX2_height_9 rfl (by decide) ?_
    refine kw_icmp_ge (tgt := 22) dX2_height_10 (by decide) (fun h2 => ?_) (fun h2 => ?_)
    · refine kw_iconst dX2_height_22 ⟨by decide, by decide⟩ ?_
      exact kv_ri dX2_height_23 rfl (by first | rfl | omega | (split <;> omega) | ((repeat' split) <;> omega) | grind) (by first | rfl | rw [if_pos (by omega)] | rw [if_neg (by omega)] | grind)
    · refine kw_aload_n dX2_height_13 rfl ?_
      refine kv_getR (b := 6) dX2_height_14 kf_X2_15 rfl rfl rfl (hg (4, 1, 6) (by decide)) ?_
      refine kw_iload_n dX2_height_17 rfl ?_
      refine kv_iald dX2_height_18 rfl (by omega) (by omega) rfl ?_
      refine kw_goto (tgt := 23) dX2_height_19 (by decide) ?_
      exact kv_ri dX2_height_23 rfl (by first | rfl | omega | (split <;> omega) | ((repeat' split) <;> omega) | grind) (by first | rfl | rw [if_pos (by omega)] | rw [if_neg (by omega)] | grind)
theorem c_weight {E : kEnv} {w : List (Nat × Nat)} {f : Nat → Int → Int} {g : Nat → Int → Option Nat} {b : Int} (hg : kG g) (hb : 0 ≤ b ∧ b < 8) : kF E 0 M_X2_weight [kA (4), kI (b)] ((kMC ++ w), f, g) (some (kI (f 7 b))) ((kMC ++ w), f, g) := by
  refine kF_of (by decide) (by simp [k_one]) (Nat.le_of_ble_eq_true rfl) (L := [some (kA (4)), some (kI (b))]) rfl ?_
  refine kw_iload_n dX2_weight_0 rfl ?_
  refine kw_if_lt (tgt := 22) dX2_weight_1 (by decide) (fun h1 => ?_) (fun h1 => ?_)
  · refine kw_iconst dX2_weight_22 ⟨by decide, by decide⟩ ?_
    exact kv_ri dX2_weight_23 rfl (by first | rfl | omega | (split <;> omega) | ((repeat' split) <;> omega) | grind) (by first | rfl | rw [if_pos (by omega)] | rw [if_neg (by omega)] | grind)
  · refine kw_iload_n dX2_weight_4 rfl ?_
    refine kw_aload_n dX2_weight_5 rfl ?_
    refine kv_getR (b := 7) dX2_weight_6 kf_X2_18 rfl rfl rfl (hg (4, 2, 7) (by decide)) ?_
    refine kv_alen dX2_weight_9 rfl (by decide) ?_
    refine kw_icmp_ge (tgt := 22) dX2_weight_10 (by decide) (fun h2 => ?_) (fun h2 => ?_)
    · refine kw_iconst dX2_weight_22 ⟨by decide, by decide⟩ ?_
      exact kv_ri dX2_weight_23 rfl (by first | rfl | omega | (split <;> omega) | ((repeat' split) <;> omega) | grind) (by first | rfl | rw [if_pos (by omega)] | rw [if_neg (by omega)] | grind)
    · refine kw_aload_n dX2_weight_13 rfl ?_
      refine kv_getR (b := 7) dX2_weight_14 kf_X2_18 rfl rfl rfl (hg (4, 2, 7) (by decide)) ?_
      refine kw_iload_n dX2_weight_17 rfl ?_
      refine kv_iald dX2_weight_18 rfl (by omega) (by omega) rfl ?_
      refine kw_goto (tgt := 23) dX2_weight_19 (by decide) ?_
      exact kv_ri dX2_weight_23 rfl (by first | rfl | omega | (split <;> omega) | ((repeat' split) <;> omega) | grind) (by first | rfl | rw [if_pos (by omega)] | rw [if_neg (by omega)] | grind)
theorem c_strength {E : kEnv} {w : List (Nat × Nat)} {f : Nat → Int → Int} {g : Nat → Int → Option Nat} {b : Int} (hg : kG g) (hb : 0 ≤ b ∧ b < 4) : kF E 0 M_X2_strength [kA (4), kI (b)] ((kMC ++ w), f, g) (some (kI (f 8 b))) ((kMC ++ w), f, g) := by
  refine kF_of (by decide) (by simp [k_one]) (Nat.le_of_ble_eq_true rfl) (L := [some (kA (4)), some (kI (b))]) rfl ?_
  refine kw_iload_n dX2_strength_0 rfl ?_
  refine kw_if_lt (tgt := 22) dX2_strength_1 (by decide) (fun h1 => ?_) (fun h1 => ?_)
  · refine kw_iconst dX2_strength_22 ⟨by decide, by decide⟩ ?_
    exact kv_ri dX2_strength_23 rfl (by first | rfl | omega | (split <;> omega) | ((repeat' split) <;> omega) | grind) (by first | rfl | rw [if_pos (by omega)] | rw [if_neg (by omega)] | grind)
  · refine kw_iload_n dX2_strength_4 rfl ?_
    refine kw_aload_n dX2_strength_5 rfl ?_
    refine kv_getR (b := 8) dX2_strength_6 kf_X2_21 rfl rfl rfl (hg (4, 3, 8) (by decide)) ?_
    refine kv_alen dX2_strength_9 rfl (by decide) ?_
    refine kw_icmp_ge (tgt := 22) dX2_strength_10 (by decide) (fun h2 => ?_) (fun h2 => ?_)
    · refine kw_iconst dX2_strength_22 ⟨by decide, by decide⟩ ?_
      exact kv_ri dX2_strength_23 rfl (by first | rfl | omega | (split <;> omega) | ((repeat' split) <;> omega) | grind) (by first | rfl | rw [if_pos (by omega)] | rw [if_neg (by omega)] | grind)
    · refine kw_aload_n dX2_strength_13 rfl ?_
      refine kv_getR (b := 8) dX2_strength_14 kf_X2_21 rfl rfl rfl (hg (4, 3, 8) (by decide)) ?_
      refine kw_iload_n dX2_strength_17 rfl ?_
      refine kv_iald dX2_strength_18 rfl (by omega) (by omega) rfl ?_
      refine kw_goto (tgt := 23) dX2_strength_19 (by decide) ?_
      exact kv_ri dX2_strength_23 rfl (by first | rfl | omega | (split <;> omega) | ((repeat' split) <;> omega) | grind) (by first | rfl | rw [if_pos (by omega)] | rw [if_neg (by omega)] | grind)
theorem c_hearth {E : kEnv} {w : List (Nat × Nat)} {f : Nat → Int → Int} {g : Nat → Int → Option Nat} {b : Int} (hg : kG g) (hb : 0 ≤ b ∧ b < 4) : kF E 0 M_X2_hearth [kA (4), kI (b)] ((kMC ++ w), f, g) (some (kI (f 9 b))) ((kMC ++ w), f, g) := by
  refine kF_of (by decide) (by simp [k_one]) (Nat.le_of_ble_eq_true rfl) (L := [some (kA (4)), some (kI (b))]) rfl ?_
  refine kw_iload_n dX2_hearth_0 rfl ?_
  refine kw_if_lt (tgt := 22) dX2_hearth_1 (by decide) (fun h1 => ?_) (fun h1 => ?_)
  · refine kw_iconst dX2_hearth_22 ⟨by decide, by decide⟩ ?_
    exact kv_ri dX2_hearth_23 rfl (by first | rfl | omega | (split <;> omega) | ((repeat' split) <;> omega) | grind) (by first | rfl | rw [if_pos (by omega)] | rw [if_neg (by omega)] | grind)
  · refine kw_iload_n dX2_hearth_4 rfl ?_
    refine kw_aload_n dX2_hearth_5 rfl ?_
    refine kv_getR (b := 9) dX2_hearth_6 kf_X2_24 rfl rfl rfl (hg (4, 4, 9) (by decide)) ?_
    refine kv_alen dX2_hearth_9 rfl (by decide) ?_
    refine kw_icmp_ge (tgt := 22) dX2_hearth_10 (by decide) (fun h2 => ?_) (fun h2 => ?_)
    · refine kw_iconst dX2_hearth_22 ⟨by decide, by decide⟩ ?_
      exact kv_ri dX2_hearth_23 rfl (by first | rfl | omega | (split <;> omega) | ((repeat' split) <;> omega) | grind) (by first | rfl | rw [if_pos (by omega)] | rw [if_neg (by omega)] | grind)
    · refine kw_aload_n dX2_hearth_13 rfl ?_
      refine kv_getR (b := 9) dX2_hearth_14 kf_X2_24 rfl rfl rfl (hg (4, 4, 9) (by decide)) ?_
      refine kw_iload_n dX2_hearth_17 rfl ?_
      refine kv_iald dX2_hearth_18 rfl (by omega) (by omega) rfl ?_
      refine kw_goto (tgt := 23) dX2_hearth_19 (by decide) ?_
      exact kv_ri dX2_hearth_23 rfl (by first | rfl | omega | (split <;> omega) | ((repeat' split) <;> omega) | grind) (by first | rfl | rw [if_pos (by omega)] | rw [if_neg (by omega)] | grind)
theorem c_hasBough {E : kEnv} {w : List (Nat × Nat)} {f : Nat → Int → Int} {g : Nat → Int → Option Nat} {b : Int} (hg : kG g) : kF E 0 M_X2_hasBough [kA (4), kI (b)] ((kMC ++ w), f, g) (some (kI (if 0 ≤ b ∧ b < f 4 5 ∧ b < 8 then 1 else 0))) ((kMC ++ w), f, g) := by
  refine kF_of (by decide) (by simp [k_one]) (Nat.le_of_ble_eq_true rfl) (L := [some (kA (4)), some (kI (b))]) rfl ?_
  refine kw_iload_n dX2_hasBough_0 rfl ?_
  refine kw_if_lt (tgt := 22) dX2_hasBough_1 (by decide) (fun h1 => ?_) (fun h1 => ?_)
  · refine kw_iconst dX2_hasBough_22 ⟨by decide, by decide⟩ ?_
    exact kv_rb dX2_hasBough_23 rfl (by first | rfl | omega | (split <;> omega) | ((repeat' split) <;> omega) | grind) (by first | rfl | rw [if_pos (by omega)] | rw [if_neg (by omega)] | grind)
  · refine kw_iload_n dX2_hasBough_4 rfl ?_
    refine kw_aload_n dX2_hasBough_5 rfl ?_
    refine kv_getI (kz := 5) dX2_hasBough_6 kf_X2_27 rfl rfl rfl rfl ?_
    refine kw_icmp_ge (tgt := 22) dX2_hasBough_9 (by decide) (fun h2 => ?_) (fun h2 => ?_)
    · refine kw_iconst dX2_hasBough_22 ⟨by decide, by decide⟩ ?_
      exact kv_rb dX2_hasBough_23 rfl (by first | rfl | omega | (split <;> omega) | ((repeat' split) <;> omega) | grind) (by first | rfl | rw [if_pos (by omega)] | rw [if_neg (by omega)] | grind)
    · refine kw_iload_n dX2_hasBough_12 rfl ?_
      refine kw_bipush dX2_hasBough_13 (by decide) (by decide) ?_
      refine kw_icmp_ge (tgt := 22) dX2_hasBough_15 (by decide) (fun h3 => ?_) (fun h3 => ?_)
      · refine kw_iconst dX2_hasBough_22 ⟨by decide, by decide⟩ ?_
        exact kv_rb dX2_hasBough_23 rfl (by first | rfl | omega | (split <;> omega) | ((repeat' split) <;> omega) | grind) (by first | rfl | rw [if_pos (by omega)] | rw [if_neg (by omega)] | grind)
      · refine kw_iconst dX2_hasBough_18 ⟨by decide, by decide⟩ ?_
        refine kw_goto (tgt := 23) dX2_hasBough_19 (by decide) ?_
        exact kv_rb dX2_hasBough_23 rfl (by first | rfl | omega | (split <;> omega) | ((repeat' split) <;> omega) | grind) (by first | rfl | rw [if_pos (by omega)] | rw [if_neg (by omega)] | grind)
theorem c_hasTenant {E : kEnv} {w : List (Nat × Nat)} {f : Nat → Int → Int} {g : Nat → Int → Option Nat} {i : Int} (hg : kG g) : kF E 0 M_X2_hasTenant [kA (4), kI (i)] ((kMC ++ w), f, g) (some (kI (if 0 ≤ i ∧ i < f 4 6 ∧ i < 4 then 1 else 0))) ((kMC ++ w), f, g) := by
  refine kF_of (by decide) (by simp [k_one]) (Nat.le_of_ble_eq_true rfl) (L := [some (kA (4)), some (kI (i))]) rfl ?_
  refine kw_iload_n dX2_hasTenant_0 rfl ?_
  refine kw_if_lt (tgt := 21) dX2_hasTenant_1 (by decide) (fun h1 => ?_) (fun h1 => ?_)
  · refine kw_iconst dX2_hasTenant_21 ⟨by decide, by decide⟩ ?_
    exact kv_rb dX2_hasTenant_22 rfl (by first | rfl | omega | (split <;> omega) | ((repeat' split) <;> omega) | grind) (by first | rfl | rw [if_pos (by omega)] | rw [if_neg (by omega)] | grind)
  · refine kw_iload_n dX2_hasTenant_4 rfl ?_
    refine kw_aload_n dX2_hasTenant_5 rfl ?_
    refine kv_getI (kz := 6) dX2_hasTenant_6 kf_X2_31 rfl rfl rfl rfl ?_
    refine kw_icmp_ge (tgt := 21) dX2_hasTenant_9 (by decide) (fun h2 => ?_) (fun h2 => ?_)
    · refine kw_iconst dX2_hasTenant_21 ⟨by decide, by decide⟩ ?_
      exact kv_rb dX2_hasTenant_22 rfl (by first | rfl | omega | (split <;> omega) | ((repeat' split) <;> omega) | grind) (by first | rfl | rw [if_pos (by omega)] | rw [if_neg (by omega)] | grind)
    · refine kw_iload_n dX2_hasTenant_12 rfl ?_
      refine kw_iconst dX2_hasTenant_13 ⟨by decide, by decide⟩ ?_
      refine kw_icmp_ge (tgt := 21) dX2_hasTenant_14 (by decide) (fun h3 => ?_) (fun h3 => ?_)
      · refine kw_iconst dX2_hasTenant_21 ⟨by decide, by decide⟩ ?_
        exact kv_rb dX2_hasTenant_22 rfl (by first | rfl | omega | (split <;> omega) | ((repeat' split) <;> omega) | grind) (by first | rfl | rw [if_pos (by omega)] | rw [if_neg (by omega)] | grind)
      · refine kw_iconst dX2_hasTenant_17 ⟨by decide, by decide⟩ ?_
        refine kw_goto (tgt := 22) dX2_hasTenant_18 (by decide) ?_
        exact kv_rb dX2_hasTenant_22 rfl (by first | rfl | omega | (split <;> omega) | ((repeat' split) <;> omega) | grind) (by first | rfl | rw [if_pos (by omega)] | rw [if_neg (by omega)] | grind)
theorem c_deadFromR {E : kEnv} {w : List (Nat × Nat)} {f : Nat → Int → Int} {g : Nat → Int → Option Nat} {a : Nat} {b : Int} (ha : kSA a) (hg : kG g) (hb : 0 ≤ b ∧ b < 8) : kF E 0 M_X4_deadFrom [kA (a), kI (b)] ((kMC ++ w), f, g) (some (kI (f (a + 1) b))) ((kMC ++ w), f, g) := by
  refine kF_of (by decide) (by simp [k_one]) (Nat.le_of_ble_eq_true rfl) (L := [some (kA (a)), some (kI (b))]) rfl ?_
  refine kw_iload_n dX4_deadFrom_0 rfl ?_
  refine kw_if_lt (tgt := 19) dX4_deadFrom_1 (by decide) (fun h1 => ?_) (fun h1 => ?_)
  · refine kw_bipush dX4_deadFrom_19 (by decide) (by decide) ?_
    exact kv_ri dX4_deadFrom_21 rfl (by first | rfl | omega | (split <;> omega) | ((repeat' split) <;> omega) | grind) (by first | rfl | rw [if_pos (by omega)] | rw [if_neg (by omega)] | grind)
  · refine kw_iload_n dX4_deadFrom_4 rfl ?_
    refine kw_bipush dX4_deadFrom_5 (by decide) (by decide) ?_
    refine kw_icmp_ge (tgt := 19) dX4_deadFrom_7 (by decide) (fun h2 => ?_) (fun h2 => ?_)
    · refine kw_bipush dX4_deadFrom_19 (by decide) (by decide) ?_
      exact kv_ri dX4_deadFrom_21 rfl (by first | rfl | omega | (split <;> omega) | ((repeat' split) <;> omega) | grind) (by first | rfl | rw [if_pos (by omega)] | rw [if_neg (by omega)] | grind)
    · refine kw_aload_n dX4_deadFrom_10 rfl ?_
      refine kv_getR (b := a + 1) dX4_deadFrom_11 kf_X4_11 (kSA_m ha w) rfl rfl (kSA_g ha hg) ?_
      refine kw_iload_n dX4_deadFrom_14 rfl ?_
      refine kv_iald dX4_deadFrom_15 (kSA_c ha w) (by omega) (by omega) rfl ?_
      refine kw_goto (tgt := 21) dX4_deadFrom_16 (by decide) ?_
      exact kv_ri dX4_deadFrom_21 rfl (by first | rfl | omega | (split <;> omega) | ((repeat' split) <;> omega) | grind) (by first | rfl | rw [if_pos (by omega)] | rw [if_neg (by omega)] | grind)
theorem c_stackR {E : kEnv} {w : List (Nat × Nat)} {f : Nat → Int → Int} {g : Nat → Int → Option Nat} {a : Nat} {i : Int} (ha : kSA a) (hg : kG g) (hi : 0 ≤ i ∧ i < 4) : kF E 0 M_X4_stack [kA (a), kI (i)] ((kMC ++ w), f, g) (some (kI (f (a + 1) (8 + i)))) ((kMC ++ w), f, g) := by
  refine kF_of (by decide) (by simp [k_one]) (Nat.le_of_ble_eq_true rfl) (L := [some (kA (a)), some (kI (i))]) rfl ?_
  refine kw_iload_n dX4_stack_0 rfl ?_
  refine kw_if_lt (tgt := 21) dX4_stack_1 (by decide) (fun h1 => ?_) (fun h1 => ?_)
  · refine kw_iconst dX4_stack_21 ⟨by decide, by decide⟩ ?_
    exact kv_ri dX4_stack_22 rfl (by first | rfl | omega | (split <;> omega) | ((repeat' split) <;> omega) | grind) (by first | rfl | rw [if_pos (by omega)] | rw [if_neg (by omega)] | grind)
  · refine kw_iload_n dX4_stack_4 rfl ?_
    refine kw_iconst dX4_stack_5 ⟨by decide, by decide⟩ ?_
    refine kw_icmp_ge (tgt := 21) dX4_stack_6 (by decide) (fun h2 => ?_) (fun h2 => ?_)
    · refine kw_iconst dX4_stack_21 ⟨by decide, by decide⟩ ?_
      exact kv_ri dX4_stack_22 rfl (by first | rfl | omega | (split <;> omega) | ((repeat' split) <;> omega) | grind) (by first | rfl | rw [if_pos (by omega)] | rw [if_neg (by omega)] | grind)
    · refine kw_aload_n dX4_stack_9 rfl ?_
      refine kv_getR (b := a + 1) dX4_stack_10 kf_X4_11 (kSA_m ha w) rfl rfl (kSA_g ha hg) ?_
      refine kw_bipush dX4_stack_13 (by decide) (by decide) ?_
      refine kw_iload_n dX4_stack_15 rfl ?_
      refine kw_iadd dX4_stack_16 ⟨by omega, by omega⟩ ?_
      refine kv_iald dX4_stack_17 (kSA_c ha w) (by omega) (by omega) rfl ?_
      refine kw_goto (tgt := 22) dX4_stack_18 (by decide) ?_
      exact kv_ri dX4_stack_22 rfl (by first | rfl | omega | (split <;> omega) | ((repeat' split) <;> omega) | grind) (by first | rfl | rw [if_pos (by omega)] | rw [if_neg (by omega)] | grind)
theorem c_reachR {E : kEnv} {w : List (Nat × Nat)} {f : Nat → Int → Int} {g : Nat → Int → Option Nat} {a : Nat} {i : Int} (ha : kSA a) (hg : kG g) (hi : 0 ≤ i ∧ i < 4) : kF E 0 M_X4_reach [kA (a), kI (i)] ((kMC ++ w), f, g) (some (kI (f (a + 1) (12 + i)))) ((kMC ++ w), f, g) := by
  refine kF_of (by decide) (by simp [k_one]) (Nat.le_of_ble_eq_true rfl) (L := [some (kA (a)), some (kI (i))]) rfl ?_
  refine kw_iload_n dX4_reach_0 rfl ?_
  refine kw_if_lt (tgt := 21) dX4_reach_1 (by decide) (fun h1 => ?_) (fun h1 => ?_)
  · refine kw_iconst dX4_reach_21 ⟨by decide, by decide⟩ ?_
    exact kv_ri dX4_reach_22 rfl (by first | rfl | omega | (split <;> omega) | ((repeat' split) <;> omega) | grind) (by first | rfl | rw [if_pos (by omega)] | rw [if_neg (by omega)] | grind)
  · refine kw_iload_n dX4_reach_4 rfl ?_
    refine kw_iconst dX4_reach_5 ⟨by decide, by decide⟩ ?_
    refine kw_icmp_ge (tgt := 21) dX4_reach_6 (by decide) (fun h2 => ?_) (fun h2 => ?_)
    · refine kw_iconst dX4_reach_21 ⟨by decide, by decide⟩ ?_
      exact kv_ri dX4_reach_22 rfl (by first | rfl | omega | (split <;> omega) | ((repeat' split) <;> omega) | grind) (by first | rfl | rw [if_pos (by omega)] | rw [if_neg (by omega)] | grind)
    · refine kw_aload_n dX4_reach_9 rfl ?_
      refine kv_getR (b := a + 1) dX4_reach_10 kf_X4_11 (kSA_m ha w) rfl rfl (kSA_g ha hg) ?_
      refine kw_bipush dX4_reach_13 (by decide) (by decide) ?_
      refine kw_iload_n dX4_reach_15 rfl ?_
      refine kw_iadd dX4_reach_16 ⟨by omega, by omega⟩ ?_
      refine kv_iald dX4_reach_17 (kSA_c ha w) (by omega) (by omega) rfl ?_
      refine kw_goto (tgt := 22) dX4_reach_18 (by decide) ?_
      exact kv_ri dX4_reach_22 rfl (by first | rfl | omega | (split <;> omega) | ((repeat' split) <;> omega) | grind) (by first | rfl | rw [if_pos (by omega)] | rw [if_neg (by omega)] | grind)
theorem c_carriedR {E : kEnv} {w : List (Nat × Nat)} {f : Nat → Int → Int} {g : Nat → Int → Option Nat} {a : Nat} {i : Int} (ha : kSA a) (hg : kG g) (hi : 0 ≤ i ∧ i < 4) : kF E 0 M_X4_carried [kA (a), kI (i)] ((kMC ++ w), f, g) (some (kI (f (a + 1) (16 + i)))) ((kMC ++ w), f, g) := by
  refine kF_of (by decide) (by simp [k_one]) (Nat.le_of_ble_eq_true rfl) (L := [some (kA (a)), some (kI (i))]) rfl ?_
  refine kw_iload_n dX4_carried_0 rfl ?_
  refine kw_if_lt (tgt := 21) dX4_carried_1 (by decide) (fun h1 => ?_) (fun h1 => ?_)
  · refine kw_iconst dX4_carried_21 ⟨by decide, by decide⟩ ?_
    exact kv_ri dX4_carried_22 rfl (by first | rfl | omega | (split <;> omega) | ((repeat' split) <;> omega) | grind) (by first | rfl | rw [if_pos (by omega)] | rw [if_neg (by omega)] | grind)
  · refine kw_iload_n dX4_carried_4 rfl ?_
    refine kw_iconst dX4_carried_5 ⟨by decide, by decide⟩ ?_
    refine kw_icmp_ge (tgt := 21) dX4_carried_6 (by decide) (fun h2 => ?_) (fun h2 => ?_)
    · refine kw_iconst dX4_carried_21 ⟨by decide, by decide⟩ ?_
      exact kv_ri dX4_carried_22 rfl (by first | rfl | omega | (split <;> omega) | ((repeat' split) <;> omega) | grind) (by first | rfl | rw [if_pos (by omega)] | rw [if_neg (by omega)] | grind)
    · refine kw_aload_n dX4_carried_9 rfl ?_
      refine kv_getR (b := a + 1) dX4_carried_10 kf_X4_11 (kSA_m ha w) rfl rfl (kSA_g ha hg) ?_
      refine kw_bipush dX4_carried_13 (by decide) (by decide) ?_
      refine kw_iload_n dX4_carried_15 rfl ?_
      refine kw_iadd dX4_carried_16 ⟨by omega, by omega⟩ ?_
      refine kv_iald dX4_carried_17 (kSA_c ha w) (by omega) (by omega) rfl ?_
      refine kw_goto (tgt := 22) dX4_carried_18 (by decide) ?_
      exact kv_ri dX4_carried_22 rfl (by first | rfl | omega | (split <;> omega) | ((repeat' split) <;> omega) | grind) (by first | rfl | rw [if_pos (by omega)] | rw [if_neg (by omega)] | grind)
