def kFO (f : Nat → Int → Int) : Prop := (1 ≤ f 4 5 ∧ f 4 5 ≤ 8) ∧ (1 ≤ f 4 6 ∧ f 4 6 ≤ 4) ∧ (1 ≤ f 4 7 ∧ f 4 7 ≤ 20) ∧ (1 ≤ f 4 8 ∧ f 4 8 ≤ 9) ∧ (1 ≤ f 4 9 ∧ f 4 9 ≤ 30) ∧ (∀ b, 0 ≤ b → b < f 4 5 → (0 ≤ f 5 b ∧ f 5 b ≤ 3) ∧ (1 ≤ f 6 b ∧ f 6 b ≤ 20) ∧ (1 ≤ f 7 b ∧ f 7 b ≤ 20)) ∧ (∀ i, 0 ≤ i → i < f 4 6 → (1 ≤ f 8 i ∧ f 8 i ≤ 40) ∧ (1 ≤ f 9 i ∧ f 9 i ≤ 60))
def kSO (f : Nat → Int → Int) (a : Nat) : Prop := (0 ≤ f a 1 ∧ f a 1 ≤ 300) ∧ (0 ≤ f a 2 ∧ f a 2 < 256) ∧ (∀ b, 0 ≤ b → b < f 4 5 → -100 ≤ f (a + 1) b ∧ f (a + 1) b ≤ 300) ∧ (∀ i, 0 ≤ i → i < f 4 6 → (0 ≤ f (a + 1) (8 + i) ∧ f (a + 1) (8 + i) ≤ 400) ∧ (0 ≤ f (a + 1) (12 + i) ∧ f (a + 1) (12 + i) ≤ 20) ∧ (0 ≤ f (a + 1) (16 + i) ∧ f (a + 1) (16 + i) ≤ 400))
abbrev rReach (f : Nat → Int → Int) (a : Nat) (i b : Int) : Prop := (f 5 b = 0 ∧ f 6 b ≤ f (a + 1) (12 + i)) ∨ (f 5 b = 2 ∧ f 6 b + 3 ≤ f (a + 1) (12 + i)) ∨ f 5 b = 3
abbrev rFall (f : Nat → Int → Int) (a : Nat) (b d : Int) : Prop := f (a + 1) b + f 4 9 ≤ d
abbrev rCould (f : Nat → Int → Int) (a : Nat) (i b d c : Int) : Prop := f (a + 1) b ≤ d ∧ c + f 7 b ≤ f 8 i ∧ (rFall f a b d ∨ rReach f a i b)
abbrev rCan (f : Nat → Int → Int) (a : Nat) (i b : Int) : Prop := ¬ kbit (f a 2) b = 1 ∧ rCould f a i b (f a 1) (f (a + 1) (16 + i))
abbrev rWarm (f : Nat → Int → Int) (a : Nat) (i : Int) : Prop := f 9 i ≤ f (a + 1) (8 + i)
abbrev rCaught (f : Nat → Int → Int) (a : Nat) (i b : Int) : Prop := f a 1 % f 4 8 = 0 ∧ f 4 7 < f (a + 1) (12 + i) ∧ f 5 b ≠ 3 ∧ ¬ rFall f a b (f a 1)
theorem c_isDead {E : kEnv} {w : List (Nat × Nat)} {f : Nat → Int → Int} {g : Nat → Int → Option Nat} {a : Nat} {b d : Int} (ha : kSA a) (hg : kG g) (hb : 0 ≤ b ∧ b < 8) : kF E 1 M_X2_isDead [kA (4), kA (a), kI (b), kI (d)] ((kMC ++ w), f, g) (some (kI (if f (a + 1) b ≤ d then 1 else 0))) ((kMC ++ w), f, g) := by
  refine kF_of (by decide) (by simp [k_one]) (Nat.le_of_ble_eq_true rfl) (L := [some (kA (4)), some (kA (a)), some (kI (b)), some (kI (d))]) rfl ?_
  refine kw_iload_n dX2_isDead_0 rfl ?_
  refine kw_aload_n dX2_isDead_1 rfl ?_
  refine kw_iload_n dX2_isDead_2 rfl ?_
  refine kv_callV1 (M2 := M_X4_deadFrom) (As := [kI (b)]) dX2_isDead_3 ml_X2_85 q_X4_deadFrom rfl (kSA_m ha w) rfl (Nat.le_of_ble_eq_true rfl) (c_deadFromR ha hg (by omega)) (by omega) ?_
  refine kw_icmp_lt (tgt := 13) dX2_isDead_6 (by decide) (fun h1 => ?_) (fun h1 => ?_)
  · refine kw_iconst dX2_isDead_13 ⟨by decide, by decide⟩ ?_
    exact kv_rb dX2_isDead_14 rfl (by first | rfl | omega | (split <;> omega) | ((repeat' split) <;> omega) | grind) (by first | rfl | rw [if_pos (by omega)] | rw [if_neg (by omega)] | grind)
  · refine kw_iconst dX2_isDead_9 ⟨by decide, by decide⟩ ?_
    refine kw_goto (tgt := 14) dX2_isDead_10 (by decide) ?_
    exact kv_rb dX2_isDead_14 rfl (by first | rfl | omega | (split <;> omega) | ((repeat' split) <;> omega) | grind) (by first | rfl | rw [if_pos (by omega)] | rw [if_neg (by omega)] | grind)
theorem c_hasFallen {E : kEnv} {w : List (Nat × Nat)} {f : Nat → Int → Int} {g : Nat → Int → Option Nat} {a : Nat} {b d : Int} (ha : kSA a) (hg : kG g) (hb : 0 ≤ b ∧ b < 8) (hx : -1000 ≤ f (a + 1) b ∧ f (a + 1) b ≤ 1000 ∧ -1000 ≤ f 4 9 ∧ f 4 9 ≤ 1000) : kF E 1 M_X2_hasFallen [kA (4), kA (a), kI (b), kI (d)] ((kMC ++ w), f, g) (some (kI (if rFall f a b d then 1 else 0))) ((kMC ++ w), f, g) := by
  refine kF_of (by decide) (by simp [k_one]) (Nat.le_of_ble_eq_true rfl) (L := [some (kA (4)), some (kA (a)), some (kI (b)), some (kI (d))]) rfl ?_
  refine kw_iload_n dX2_hasFallen_0 rfl ?_
  refine kw_aload_n dX2_hasFallen_1 rfl ?_
  refine kw_iload_n dX2_hasFallen_2 rfl ?_
  refine kv_callV1 (M2 := M_X4_deadFrom) (As := [kI (b)]) dX2_hasFallen_3 ml_X2_85 q_X4_deadFrom rfl (kSA_m ha w) rfl (Nat.le_of_ble_eq_true rfl) (c_deadFromR ha hg (by omega)) (by omega) ?_
  refine kw_aload_n dX2_hasFallen_6 rfl ?_
  refine kv_getI (kz := 9) dX2_hasFallen_7 kf_X2_40 rfl rfl rfl rfl ?_
  refine kw_iadd dX2_hasFallen_10 ⟨by omega, by omega⟩ ?_
  refine kw_icmp_lt (tgt := 18) dX2_hasFallen_11 (by decide) (fun h1 => ?_) (fun h1 => ?_)
  · refine kw_iconst dX2_hasFallen_18 ⟨by decide, by decide⟩ ?_
    exact kv_rb dX2_hasFallen_19 rfl (by first | rfl | omega | (split <;> omega) | ((repeat' split) <;> omega) | grind) (by first | rfl | rw [if_pos (by omega)] | rw [if_neg (by omega)] | grind)
  · refine kw_iconst dX2_hasFallen_14 ⟨by decide, by decide⟩ ?_
    refine kw_goto (tgt := 19) dX2_hasFallen_15 (by decide) ?_
    exact kv_rb dX2_hasFallen_19 rfl (by first | rfl | omega | (split <;> omega) | ((repeat' split) <;> omega) | grind) (by first | rfl | rw [if_pos (by omega)] | rw [if_neg (by omega)] | grind)
theorem c_isInReach {E : kEnv} {w : List (Nat × Nat)} {f : Nat → Int → Int} {g : Nat → Int → Option Nat} {a : Nat} {i b : Int} (ha : kSA a) (hg : kG g) (hF : kFO f) (hb : 0 ≤ b ∧ b < f 4 5) (hi : 0 ≤ i ∧ i < f 4 6) : kF E 1 M_X2_isInReach [kA (4), kA (a), kI (i), kI (b)] ((kMC ++ w), f, g) (some (kI (if rReach f a i b then 1 else 0))) ((kMC ++ w), f, g) := by
  refine kF_of (by decide) (by simp [k_one]) (Nat.le_of_ble_eq_true rfl) (L := [some (kA (4)), some (kA (a)), some (kI (i)), some (kI (b))]) rfl ?_
  have nb := hF.1
  have nt := hF.2.1
  have fb := hF.2.2.2.2.2.1 b hb.1 hb.2
  have fi := hF.2.2.2.2.2.2 i hi.1 hi.2
  refine kw_aload_n dX2_isInReach_0 rfl ?_
  refine kw_iload_n dX2_isInReach_1 rfl ?_
  refine kv_callV1 (M2 := M_X2_kind) (As := [kI (b)]) dX2_isInReach_2 ml_X2_88 q_X2_kind rfl rfl rfl (Nat.le_of_ble_eq_true rfl) (c_kind hg (by omega)) (by omega) ?_
  rcases (show f 5 b = 0 ∨ f 5 b = 1 ∨ f 5 b = 2 ∨ f 5 b = 3 ∨ (f 5 b < 0 ∨ 3 < f 5 b) by omega) with h1 | h1 | h1 | h1 | h1
  · refine kw_tblIn (off := 31) (tgt := 36) dX2_isInReach_5 (by omega) (by omega) (by rw [h1]; rfl) (by decide) ?_
    refine kw_aload_n dX2_isInReach_36 rfl ?_
    refine kw_iload_n dX2_isInReach_37 rfl ?_
    refine kv_callV1 (M2 := M_X2_height) (As := [kI (b)]) dX2_isInReach_38 ml_X2_91 q_X2_height rfl rfl rfl (Nat.le_of_ble_eq_true rfl) (c_height hg (by omega)) (by omega) ?_
    refine kw_aload_n dX2_isInReach_41 rfl ?_
    refine kw_iload_n dX2_isInReach_42 rfl ?_
    refine kv_callV1 (M2 := M_X4_reach) (As := [kI (i)]) dX2_isInReach_43 ml_X2_94 q_X4_reach rfl (kSA_m ha w) rfl (Nat.le_of_ble_eq_true rfl) (c_reachR ha hg (by omega)) (by omega) ?_
    refine kw_icmp_gt (tgt := 53) dX2_isInReach_46 (by decide) (fun h2 => ?_) (fun h2 => ?_)
    · refine kw_iconst dX2_isInReach_53 ⟨by decide, by decide⟩ ?_
      exact kv_rb dX2_isInReach_54 rfl (by first | rfl | omega | (split <;> omega) | ((repeat' split) <;> omega) | grind) (by first | rfl | rw [if_pos (by omega)] | rw [if_neg (by omega)] | grind)
    · refine kw_iconst dX2_isInReach_49 ⟨by decide, by decide⟩ ?_
      refine kw_goto (tgt := 54) dX2_isInReach_50 (by decide) ?_
      exact kv_rb dX2_isInReach_54 rfl (by first | rfl | omega | (split <;> omega) | ((repeat' split) <;> omega) | grind) (by first | rfl | rw [if_pos (by omega)] | rw [if_neg (by omega)] | grind)
  · refine kw_tblIn (off := 73) (tgt := 78) dX2_isInReach_5 (by omega) (by omega) (by rw [h1]; rfl) (by decide) ?_
    refine kw_iconst dX2_isInReach_78 ⟨by decide, by decide⟩ ?_
    exact kv_rb dX2_isInReach_79 rfl (by first | rfl | omega | (split <;> omega) | ((repeat' split) <;> omega) | grind) (by first | rfl | rw [if_pos (by omega)] | rw [if_neg (by omega)] | grind)
  · refine kw_tblIn (off := 50) (tgt := 55) dX2_isInReach_5 (by omega) (by omega) (by rw [h1]; rfl) (by decide) ?_
    refine kw_aload_n dX2_isInReach_55 rfl ?_
    refine kw_iload_n dX2_isInReach_56 rfl ?_
    refine kv_callV1 (M2 := M_X2_height) (As := [kI (b)]) dX2_isInReach_57 ml_X2_91 q_X2_height rfl rfl rfl (Nat.le_of_ble_eq_true rfl) (c_height hg (by omega)) (by omega) ?_
    refine kw_iconst dX2_isInReach_60 ⟨by decide, by decide⟩ ?_
    refine kw_iadd dX2_isInReach_61 ⟨by omega, by omega⟩ ?_
    refine kw_aload_n dX2_isInReach_62 rfl ?_
    refine kw_iload_n dX2_isInReach_63 rfl ?_
    refine kv_callV1 (M2 := M_X4_reach) (As := [kI (i)]) dX2_isInReach_64 ml_X2_94 q_X4_reach rfl (kSA_m ha w) rfl (Nat.le_of_ble_eq_true rfl) (c_reachR ha hg (by omega)) (by omega) ?_
    refine kw_icmp_gt (tgt := 74) dX2_isInReach_67 (by decide) (fun h3 => ?_) (fun h3 => ?_)
    · refine kw_iconst dX2_isInReach_74 ⟨by decide, by decide⟩ ?_
      exact kv_rb dX2_isInReach_75 rfl (by first | rfl | omega | (split <;> omega) | ((repeat' split) <;> omega) | grind) (by first | rfl | rw [if_pos (by omega)] | rw [if_neg (by omega)] | grind)
    · refine kw_iconst dX2_isInReach_70 ⟨by decide, by decide⟩ ?_
      refine kw_goto (tgt := 75) dX2_isInReach_71 (by decide) ?_
      exact kv_rb dX2_isInReach_75 rfl (by first | rfl | omega | (split <;> omega) | ((repeat' split) <;> omega) | grind) (by first | rfl | rw [if_pos (by omega)] | rw [if_neg (by omega)] | grind)
  · refine kw_tblIn (off := 71) (tgt := 76) dX2_isInReach_5 (by omega) (by omega) (by rw [h1]; rfl) (by decide) ?_
    refine kw_iconst dX2_isInReach_76 ⟨by decide, by decide⟩ ?_
    exact kv_rb dX2_isInReach_77 rfl (by first | rfl | omega | (split <;> omega) | ((repeat' split) <;> omega) | grind) (by first | rfl | rw [if_pos (by omega)] | rw [if_neg (by omega)] | grind)
  · refine kw_tblOut (tgt := 78) dX2_isInReach_5 (by omega) (by decide) ?_
    refine kw_iconst dX2_isInReach_78 ⟨by decide, by decide⟩ ?_
    exact kv_rb dX2_isInReach_79 rfl (by first | rfl | omega | (split <;> omega) | ((repeat' split) <;> omega) | grind) (by first | rfl | rw [if_pos (by omega)] | rw [if_neg (by omega)] | grind)
theorem c_couldTake {E : kEnv} {w : List (Nat × Nat)} {f : Nat → Int → Int} {g : Nat → Int → Option Nat} {a : Nat} {i b d c : Int} (ha : kSA a) (hg : kG g) (hF : kFO f) (hb : 0 ≤ b ∧ b < f 4 5) (hi : 0 ≤ i ∧ i < f 4 6) (hx : -1000 ≤ f (a + 1) b ∧ f (a + 1) b ≤ 1000) (hc : -1000 ≤ c ∧ c ≤ 1000) : kF E 2 M_X2_couldTake [kA (4), kA (a), kI (i), kI (b), kI (d), kI (c)] ((kMC ++ w), f, g) (some (kI (if rCould f a i b d c then 1 else 0))) ((kMC ++ w), f, g) := by
  refine kF_of (by decide) (by simp [k_one]) (Nat.le_of_ble_eq_true rfl) (L := [some (kA (4)), some (kA (a)), some (kI (i)), some (kI (b)), some (kI (d)), some (kI (c))]) rfl ?_
  have nb := hF.1
  have nt := hF.2.1
  have fb := hF.2.2.2.2.2.1 b hb.1 hb.2
  have fi := hF.2.2.2.2.2.2 i hi.1 hi.2
  have ff := hF.2.2.2.2.1
  refine kw_aload_n dX2_couldTake_0 rfl ?_
  refine kw_aload_n dX2_couldTake_1 rfl ?_
  refine kw_iload_n dX2_couldTake_2 rfl ?_
  refine kw_iload dX2_couldTake_3 rfl ?_
  refine kv_callV1 (M2 := M_X2_isDead) (As := [kA (a), kI (b), kI (d)]) dX2_couldTake_5 ml_X2_97 q_X2_isDead rfl rfl rfl (Nat.le_of_ble_eq_true rfl) (c_isDead ha hg (by omega)) (by omega) ?_
  refine kv_ifeqB (tgt := 52) dX2_couldTake_8 (by decide) (fun h1 => ?_) (fun h1 => ?_)
  · refine kw_iconst dX2_couldTake_52 ⟨by decide, by decide⟩ ?_
    exact kv_rb dX2_couldTake_53 rfl (by first | rfl | omega | (split <;> omega) | ((repeat' split) <;> omega) | grind) (by first | rfl | rw [if_pos (by omega)] | rw [if_neg (by omega)] | grind)
  · refine kw_iload dX2_couldTake_11 rfl ?_
    refine kw_aload_n dX2_couldTake_13 rfl ?_
    refine kw_iload_n dX2_couldTake_14 rfl ?_
    refine kv_callV1 (M2 := M_X2_weight) (As := [kI (b)]) dX2_couldTake_15 ml_X2_82 q_X2_weight rfl rfl rfl (Nat.le_of_ble_eq_true rfl) (c_weight hg (by omega)) (by omega) ?_
    refine kw_iadd dX2_couldTake_18 ⟨by omega, by omega⟩ ?_
    refine kw_aload_n dX2_couldTake_19 rfl ?_
    refine kw_iload_n dX2_couldTake_20 rfl ?_
    refine kv_callV1 (M2 := M_X2_strength) (As := [kI (i)]) dX2_couldTake_21 ml_X2_101 q_X2_strength rfl rfl rfl (Nat.le_of_ble_eq_true rfl) (c_strength hg (by omega)) (by omega) ?_
    refine kw_icmp_gt (tgt := 52) dX2_couldTake_24 (by decide) (fun h2 => ?_) (fun h2 => ?_)
    · refine kw_iconst dX2_couldTake_52 ⟨by decide, by decide⟩ ?_
      exact kv_rb dX2_couldTake_53 rfl (by first | rfl | omega | (split <;> omega) | ((repeat' split) <;> omega) | grind) (by first | rfl | rw [if_pos (by omega)] | rw [if_neg (by omega)] | grind)
    · refine kw_aload_n dX2_couldTake_27 rfl ?_
      refine kw_aload_n dX2_couldTake_28 rfl ?_
      refine kw_iload_n dX2_couldTake_29 rfl ?_
      refine kw_iload dX2_couldTake_30 rfl ?_
      refine kv_callV1 (M2 := M_X2_hasFallen) (As := [kA (a), kI (b), kI (d)]) dX2_couldTake_32 ml_X2_104 q_X2_hasFallen rfl rfl rfl (Nat.le_of_ble_eq_true rfl) (c_hasFallen ha hg (by omega) (by omega)) (by omega) ?_
      refine kv_ifneB (tgt := 48) dX2_couldTake_35 (by decide) (fun h3 => ?_) (fun h3 => ?_)
      · refine kw_iconst dX2_couldTake_48 ⟨by decide, by decide⟩ ?_
        refine kw_goto (tgt := 53) dX2_couldTake_49 (by decide) ?_
        exact kv_rb dX2_couldTake_53 rfl (by first | rfl | omega | (split <;> omega) | ((repeat' split) <;> omega) | grind) (by first | rfl | rw [if_pos (by omega)] | rw [if_neg (by omega)] | grind)
      · refine kw_aload_n dX2_couldTake_38 rfl ?_
        refine kw_aload_n dX2_couldTake_39 rfl ?_
        refine kw_iload_n dX2_couldTake_40 rfl ?_
        refine kw_iload_n dX2_couldTake_41 rfl ?_
        refine kv_callV1 (M2 := M_X2_isInReach) (As := [kA (a), kI (i), kI (b)]) dX2_couldTake_42 ml_X2_107 q_X2_isInReach rfl rfl rfl (Nat.le_of_ble_eq_true rfl) (c_isInReach ha hg hF hb hi) (by omega) ?_
        refine kv_ifeqB (tgt := 52) dX2_couldTake_45 (by decide) (fun h4 => ?_) (fun h4 => ?_)
        · refine kw_iconst dX2_couldTake_52 ⟨by decide, by decide⟩ ?_
          exact kv_rb dX2_couldTake_53 rfl (by first | rfl | omega | (split <;> omega) | ((repeat' split) <;> omega) | grind) (by first | rfl | rw [if_pos (by omega)] | rw [if_neg (by omega)] | grind)
        · refine kw_iconst dX2_couldTake_48 ⟨by decide, by decide⟩ ?_
          refine kw_goto (tgt := 53) dX2_couldTake_49 (by decide) ?_
          exact kv_rb dX2_couldTake_53 rfl (by first | rfl | omega | (split <;> omega) | ((repeat' split) <;> omega) | grind) (by first | rfl | rw [if_pos (by omega)] | rw [if_neg (by omega)] | grind)
theorem c_canTake {E : kEnv} {w : List (Nat × Nat)} {f : Nat → Int → Int} {g : Nat → Int → Option Nat} {a : Nat} {i b : Int} (ha : kSA a) (hg : kG g) (hF : kFO f) (hb : 0 ≤ b ∧ b < f 4 5) (hi : 0 ≤ i ∧ i < f 4 6) (hS : kSO f a) : kF E 3 M_X2_canTake [kA (4), kA (a), kI (i), kI (b)] ((kMC ++ w), f, g) (some (kI (if rCan f a i b then 1 else 0))) ((kMC ++ w), f, g) := by
  refine kF_of (by decide) (by simp [k_one]) (Nat.le_of_ble_eq_true rfl) (L := [some (kA (4)), some (kA (a)), some (kI (i)), some (kI (b))]) rfl ?_
  have nb := hF.1
  have nt := hF.2.1
  have fb := hF.2.2.2.2.2.1 b hb.1 hb.2
  have fi := hF.2.2.2.2.2.2 i hi.1 hi.2
  have sd := hS.1
  have sg := hS.2.1
  have sb := hS.2.2.1 b hb.1 hb.2
  have si := hS.2.2.2 i hi.1 hi.2
  refine kw_aload_n dX2_canTake_0 rfl ?_
  refine kw_iload_n dX2_canTake_1 rfl ?_
  refine kv_callV1 (M2 := M_X4_isGone) (As := [kI (b)]) dX2_canTake_2 ml_X2_110 q_X4_isGone rfl (kSA_m ha w) rfl (Nat.le_of_ble_eq_true rfl) (c_isGone ha hg (by omega) (by omega)) (by omega) ?_
  refine kv_ifneB (tgt := 31) dX2_canTake_5 (by decide) (fun h1 => ?_) (fun h1 => ?_)
  · refine kw_iconst dX2_canTake_31 ⟨by decide, by decide⟩ ?_
    exact kv_rb dX2_canTake_32 rfl (by first | rfl | omega | (split <;> omega) | ((repeat' split) <;> omega) | grind) (by first | rfl | rw [if_pos (by omega)] | rw [if_neg (by omega)] | grind)
  · refine kw_aload_n dX2_canTake_8 rfl ?_
    refine kw_aload_n dX2_canTake_9 rfl ?_
    refine kw_iload_n dX2_canTake_10 rfl ?_
    refine kw_iload_n dX2_canTake_11 rfl ?_
    refine kw_aload_n dX2_canTake_12 rfl ?_
    refine kv_getI (kz := 1) dX2_canTake_13 kf_X2_114 (kSA_m ha w) rfl rfl rfl ?_
    refine kw_aload_n dX2_canTake_16 rfl ?_
    refine kw_iload_n dX2_canTake_17 rfl ?_
    refine kv_callV1 (M2 := M_X4_carried) (As := [kI (i)]) dX2_canTake_18 ml_X2_117 q_X4_carried rfl (kSA_m ha w) rfl (Nat.le_of_ble_eq_true rfl) (c_carriedR ha hg (by omega)) (by omega) ?_
    refine kv_callV1 (M2 := M_X2_couldTake) (As := [kA (a), kI (i), kI (b), kI (f a 1), kI (f (a + 1) (16 + i))]) dX2_canTake_21 ml_X2_120 q_X2_couldTake rfl rfl rfl (Nat.le_of_ble_eq_true rfl) (c_couldTake ha hg hF hb hi (by omega) (by omega)) (by omega) ?_
    refine kv_ifeqB (tgt := 31) dX2_canTake_24 (by decide) (fun h2 => ?_) (fun h2 => ?_)
    · refine kw_iconst dX2_canTake_31 ⟨by decide, by decide⟩ ?_
      exact kv_rb dX2_canTake_32 rfl (by first | rfl | omega | (split <;> omega) | ((repeat' split) <;> omega) | grind) (by first | rfl | rw [if_pos (by omega)] | rw [if_neg (by omega)] | grind)
    · refine kw_iconst dX2_canTake_27 ⟨by decide, by decide⟩ ?_
      refine kw_goto (tgt := 32) dX2_canTake_28 (by decide) ?_
      exact kv_rb dX2_canTake_32 rfl (by first | rfl | omega | (split <;> omega) | ((repeat' split) <;> omega) | grind) (by first | rfl | rw [if_pos (by omega)] | rw [if_neg (by omega)] | grind)
theorem c_isCaught {E : kEnv} {w : List (Nat × Nat)} {f : Nat → Int → Int} {g : Nat → Int → Option Nat} {a : Nat} {i b : Int} (ha : kSA a) (hg : kG g) (hF : kFO f) (hb : 0 ≤ b ∧ b < f 4 5) (hi : 0 ≤ i ∧ i < f 4 6) (hS : kSO f a) : kF E 2 M_X2_isCaught [kA (4), kA (a), kI (i), kI (b)] ((kMC ++ w), f, g) (some (kI (if rCaught f a i b then 1 else 0))) ((kMC ++ w), f, g) := by
  refine kF_of (by decide) (by simp [k_one]) (Nat.le_of_ble_eq_true rfl) (L := [some (kA (4)), some (kA (a)), some (kI (i)), some (kI (b))]) rfl ?_
  have nb := hF.1
  have nt := hF.2.1
  have fb := hF.2.2.2.2.2.1 b hb.1 hb.2
  have fi := hF.2.2.2.2.2.2 i hi.1 hi.2
  have sd := hS.1
  have sg := hS.2.1
  have sb := hS.2.2.1 b hb.1 hb.2
  have si := hS.2.2.2 i hi.1 hi.2
  have ff := hF.2.2.2.2.1
  have fk := hF.2.2.2.1
  refine kw_aload_n dX2_isCaught_0 rfl ?_
  refine kv_getI (kz := 8) dX2_isCaught_1 kf_X2_37 rfl rfl rfl rfl ?_
  refine kw_if_le (tgt := 57) dX2_isCaught_4 (by decide) (fun h1 => ?_) (fun h1 => ?_)
  · refine kw_iconst dX2_isCaught_57 ⟨by decide, by decide⟩ ?_
    exact kv_rb dX2_isCaught_58 rfl (by first | rfl | omega | (split <;> omega) | ((repeat' split) <;> omega) | grind) (by first | rfl | rw [if_pos (by omega)] | rw [if_neg (by omega)] | grind)
  · refine kw_aload_n dX2_isCaught_7 rfl ?_
    refine kv_getI (kz := 1) dX2_isCaught_8 kf_X2_114 (kSA_m ha w) rfl rfl rfl ?_
    refine kw_aload_n dX2_isCaught_11 rfl ?_
    refine kv_getI (kz := 8) dX2_isCaught_12 kf_X2_37 rfl rfl rfl rfl ?_
    refine kw_irem dX2_isCaught_15 (by omega) (by omega) ?_
    refine kw_if_ne (tgt := 57) dX2_isCaught_16 (by decide) (fun h2 => ?_) (fun h2 => ?_)
    · refine kw_iconst dX2_isCaught_57 ⟨by decide, by decide⟩ ?_
      exact kv_rb dX2_isCaught_58 rfl (by first | rfl | omega | (split <;> omega) | ((repeat' split) <;> omega) | grind) (by first | rfl | rw [if_pos (by omega)] | rw [if_neg (by omega)] | grind)
    · refine kw_aload_n dX2_isCaught_19 rfl ?_
      refine kw_iload_n dX2_isCaught_20 rfl ?_
      refine kv_callV1 (M2 := M_X4_reach) (As := [kI (i)]) dX2_isCaught_21 ml_X2_94 q_X4_reach rfl (kSA_m ha w) rfl (Nat.le_of_ble_eq_true rfl) (c_reachR ha hg (by omega)) (by omega) ?_
      refine kw_aload_n dX2_isCaught_24 rfl ?_
      refine kv_getI (kz := 7) dX2_isCaught_25 kf_X2_34 rfl rfl rfl rfl ?_
      refine kw_icmp_le (tgt := 57) dX2_isCaught_28 (by decide) (fun h3 => ?_) (fun h3 => ?_)
      · refine kw_iconst dX2_isCaught_57 ⟨by decide, by decide⟩ ?_
        exact kv_rb dX2_isCaught_58 rfl (by first | rfl | omega | (split <;> omega) | ((repeat' split) <;> omega) | grind) (by first | rfl | rw [if_pos (by omega)] | rw [if_neg (by omega)] | grind)
      · refine kw_aload_n dX2_isCaught_31 rfl ?_
        refine kw_iload_n dX2_isCaught_32 rfl ?_
        refine kv_callV1 (M2 := M_X2_kind) (As := [kI (b)]) dX2_isCaught_33 ml_X2_88 q_X2_kind rfl rfl rfl (Nat.le_of_ble_eq_true rfl) (c_kind hg (by omega)) (by omega) ?_
        refine kw_iconst dX2_isCaught_36 ⟨by decide, by decide⟩ ?_
        refine kw_icmp_eq (tgt := 57) dX2_isCaught_37 (by decide) (fun h4 => ?_) (fun h4 => ?_)
        · refine kw_iconst dX2_isCaught_57 ⟨by decide, by decide⟩ ?_
          exact kv_rb dX2_isCaught_58 rfl (by first | rfl | omega | (split <;> omega) | ((repeat' split) <;> omega) | grind) (by first | rfl | rw [if_pos (by omega)] | rw [if_neg (by omega)] | grind)
        · refine kw_aload_n dX2_isCaught_40 rfl ?_
          refine kw_aload_n dX2_isCaught_41 rfl ?_
          refine kw_iload_n dX2_isCaught_42 rfl ?_
          refine kw_aload_n dX2_isCaught_43 rfl ?_
          refine kv_getI (kz := 1) dX2_isCaught_44 kf_X2_114 (kSA_m ha w) rfl rfl rfl ?_
          refine kv_callV1 (M2 := M_X2_hasFallen) (As := [kA (a), kI (b), kI (f a 1)]) dX2_isCaught_47 ml_X2_104 q_X2_hasFallen rfl rfl rfl (Nat.le_of_ble_eq_true rfl) (c_hasFallen ha hg (by omega) (by omega)) (by omega) ?_
          refine kv_ifneB (tgt := 57) dX2_isCaught_50 (by decide) (fun h5 => ?_) (fun h5 => ?_)
          · refine kw_iconst dX2_isCaught_57 ⟨by decide, by decide⟩ ?_
            exact kv_rb dX2_isCaught_58 rfl (by first | rfl | omega | (split <;> omega) | ((repeat' split) <;> omega) | grind) (by first | rfl | rw [if_pos (by omega)] | rw [if_neg (by omega)] | grind)
          · refine kw_iconst dX2_isCaught_53 ⟨by decide, by decide⟩ ?_
            refine kw_goto (tgt := 58) dX2_isCaught_54 (by decide) ?_
            exact kv_rb dX2_isCaught_58 rfl (by first | rfl | omega | (split <;> omega) | ((repeat' split) <;> omega) | grind) (by first | rfl | rw [if_pos (by omega)] | rw [if_neg (by omega)] | grind)
theorem c_isWarm {E : kEnv} {w : List (Nat × Nat)} {f : Nat → Int → Int} {g : Nat → Int → Option Nat} {a : Nat} {i : Int} (ha : kSA a) (hg : kG g) (hi : 0 ≤ i ∧ i < 4) : kF E 1 M_X2_isWarm [kA (4), kA (a), kI (i)] ((kMC ++ w), f, g) (some (kI (if rWarm f a i then 1 else 0))) ((kMC ++ w), f, g) := by
  refine kF_of (by decide) (by simp [k_one]) (Nat.le_of_ble_eq_true rfl) (L := [some (kA (4)), some (kA (a)), some (kI (i))]) rfl ?_
  refine kw_aload_n dX2_isWarm_0 rfl ?_
  refine kw_iload_n dX2_isWarm_1 rfl ?_
  refine kv_callV1 (M2 := M_X4_stack) (As := [kI (i)]) dX2_isWarm_2 ml_X2_124 q_X4_stack rfl (kSA_m ha w) rfl (Nat.le_of_ble_eq_true rfl) (c_stackR ha hg (by omega)) (by omega) ?_
  refine kw_aload_n dX2_isWarm_5 rfl ?_
  refine kw_iload_n dX2_isWarm_6 rfl ?_
  refine kv_callV1 (M2 := M_X2_hearth) (As := [kI (i)]) dX2_isWarm_7 ml_X2_127 q_X2_hearth rfl rfl rfl (Nat.le_of_ble_eq_true rfl) (c_hearth hg (by omega)) (by omega) ?_
  refine kw_icmp_lt (tgt := 17) dX2_isWarm_10 (by decide) (fun h1 => ?_) (fun h1 => ?_)
  · refine kw_iconst dX2_isWarm_17 ⟨by decide, by decide⟩ ?_
    exact kv_rb dX2_isWarm_18 rfl (by first | rfl | omega | (split <;> omega) | ((repeat' split) <;> omega) | grind) (by first | rfl | rw [if_pos (by omega)] | rw [if_neg (by omega)] | grind)
  · refine kw_iconst dX2_isWarm_13 ⟨by decide, by decide⟩ ?_
    refine kw_goto (tgt := 18) dX2_isWarm_14 (by decide) ?_
    exact kv_rb dX2_isWarm_18 rfl (by first | rfl | omega | (split <;> omega) | ((repeat' split) <;> omega) | grind) (by first | rfl | rw [if_pos (by omega)] | rw [if_neg (by omega)] | grind)
