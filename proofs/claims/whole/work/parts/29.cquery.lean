/-! the class's calls that change nothing -/
theorem k_ite {P P2 : Prop} [Decidable P] [Decidable P2] (h : P ↔ P2) : (if P then (1 : Int) else 0) = if P2 then 1 else 0 := by
  by_cases q : P
  · rw [if_pos q, if_pos (h.mp q)]
  · rw [if_neg q, if_neg (fun z => q (h.mpr z))]
theorem c_bit {E : kEnv} {h : kH} {P : Prop} [Decidable P] : kF E 0 M_X6_bit [kI (if P then 1 else 0)] h (some (kI (if P then 1 else 0))) h := by
  refine kF_of (by decide) (by simp [k_one]) (Nat.le_of_ble_eq_true rfl) (L := [some (kI (if P then 1 else 0))]) rfl ?_
  refine kw_iload_n dX6_bit_0 rfl ?_
  refine kv_ifeqB (tgt := 8) dX6_bit_1 (by decide) (fun h1 => ?_) (fun h1 => ?_)
  · refine kw_iconst dX6_bit_8 ⟨by decide, by decide⟩ ?_
    exact kv_ri dX6_bit_9 rfl (by simp [h1]) rfl
  · refine kw_iconst dX6_bit_4 ⟨by decide, by decide⟩ ?_
    refine kw_goto (tgt := 9) dX6_bit_5 (by decide) ?_
    exact kv_ri dX6_bit_9 rfl (by simp [h1]) rfl
theorem c_isWithin {E : kEnv} {h : kH} {v lo hi : Int} : kF E 0 M_X6_isWithin [kI v, kI lo, kI hi] h (some (kI (if lo ≤ v ∧ v ≤ hi then 1 else 0))) h := by
  refine kF_of (by decide) (by simp [k_one]) (Nat.le_of_ble_eq_true rfl) (L := [some (kI v), some (kI lo), some (kI hi)]) rfl ?_
  refine kw_iload_n dX6_isWithin_0 rfl ?_
  refine kw_iload_n dX6_isWithin_1 rfl ?_
  refine kw_icmp_lt (tgt := 14) dX6_isWithin_2 (by decide) (fun h1 => ?_) (fun h1 => ?_)
  · refine kw_iconst dX6_isWithin_14 ⟨by decide, by decide⟩ ?_
    exact kv_rb dX6_isWithin_15 rfl (by first | rfl | omega | (split <;> omega) | ((repeat' split) <;> omega) | grind) (by first | rfl | rw [if_pos (by omega)] | rw [if_neg (by omega)] | grind)
  · refine kw_iload_n dX6_isWithin_5 rfl ?_
    refine kw_iload_n dX6_isWithin_6 rfl ?_
    refine kw_icmp_gt (tgt := 14) dX6_isWithin_7 (by decide) (fun h2 => ?_) (fun h2 => ?_)
    · refine kw_iconst dX6_isWithin_14 ⟨by decide, by decide⟩ ?_
      exact kv_rb dX6_isWithin_15 rfl (by first | rfl | omega | (split <;> omega) | ((repeat' split) <;> omega) | grind) (by first | rfl | rw [if_pos (by omega)] | rw [if_neg (by omega)] | grind)
    · refine kw_iconst dX6_isWithin_10 ⟨by decide, by decide⟩ ?_
      refine kw_goto (tgt := 15) dX6_isWithin_11 (by decide) ?_
      exact kv_rb dX6_isWithin_15 rfl (by first | rfl | omega | (split <;> omega) | ((repeat' split) <;> omega) | grind) (by first | rfl | rw [if_pos (by omega)] | rw [if_neg (by omega)] | grind)
theorem c_bough {E : kEnv} {w : List (Nat × Nat)} {f : Nat → Int → Int} {g : Nat → Int → Option Nat} {T s : Int → Int} {b v : Int} (hg : kG g) (hT : mTO T) (hS : mSO T s) (hR : RF T f) (hI : Sim T f 10 s) (hD : ∀ b, 0 ≤ b → b < T 0 → f 11 b = s b) (h28 : 0 ≤ s 28 ∧ s 28 ≤ 99) : kF E 3 M_X6_bough [kA (0), kI (b), kI (v)] ((kMC ++ w), f, g) (some (kI (sBough T s b v))) ((kMC ++ w), f, g) := by
  refine kF_of (by decide) (by simp [k_one]) (Nat.le_of_ble_eq_true rfl) (L := [some (kA (0)), some (kI (b)), some (kI (v))]) rfl ?_
  have hF := RF_FO hT hR
  have n0 := hT.1
  have n1 := hT.2.1
  have r0 := hR.1
  have r1 := hR.2.1
  have hSO := Sim_SO hT hS hR hI (by omega)
  have e28 := hI.1
  have e2 := hI.2.1
  have sg := hSO.2.1
  have k49 := hF.2.2.2.2.1
  have kb1 : ∀ _ : Unit, 0 ≤ b → b < T 0 → f 5 b = T (5 + b) ∧ f 6 b = T (13 + b) ∧ f 7 b = T (21 + b) := fun _ x y => hR.2.2.2.2.2.1 b x y
  have kb2 : ∀ _ : Unit, 0 ≤ b → b < T 0 → f 11 b = s b := fun _ x y => hD b x y
  have kb3 : ∀ _ : Unit, 0 ≤ b → b < T 0 → kbit (f 10 2) b = s (8 + b) := fun _ x y => by rw [e2]; exact gsum_bit hS ⟨x, by omega⟩
  have kb4 : ∀ _ : Unit, 0 ≤ b → b < T 0 → s (8 + b) = 0 ∨ s (8 + b) = 1 := fun _ x y => (hS.1 b x (by omega)).1
  have kb5 : ∀ _ : Unit, 0 ≤ b → b < T 0 → -100 ≤ f 11 b ∧ f 11 b ≤ 300 := fun _ x y => hI.2.2.2.2 b x y
  have kbc : ∀ _ : Unit, 0 ≤ b → b < T 0 → -1000 ≤ f 11 b ∧ f 11 b ≤ 1000 := fun u x y => by have z := kb5 u x y; omega
  have kbf : ∀ _ : Unit, 0 ≤ b → b < T 0 → -1000 ≤ f 11 b ∧ f 11 b ≤ 1000 ∧ -1000 ≤ f 4 9 ∧ f 4 9 ≤ 1000 := fun u x y => by have z := kb5 u x y; omega
  have r4 := hR.2.2.2.2.1
  have n4 := hT.2.2.2.2.1
  refine kw_aload_n dX6_bough_0 rfl ?_
  refine kv_getR (b := 4) dX6_bough_1 kf_X6_19 rfl rfl rfl (hg (0, 1, 4) (by decide)) ?_
  refine kw_iload_n dX6_bough_4 rfl ?_
  refine kv_callV1 (M2 := M_X2_hasBough) (As := [kI (b)]) dX6_bough_5 ml_X6_97 q_X2_hasBough rfl rfl rfl (Nat.le_of_ble_eq_true rfl) (c_hasBough hg) (by omega) ?_
  refine kv_ifneB (tgt := 13) dX6_bough_8 (by decide) (fun h1 => ?_) (fun h1 => ?_)
  · refine kw_iload_n dX6_bough_13 rfl ?_
    rcases (show v = 0 ∨ v = 1 ∨ v = 2 ∨ v = 3 ∨ v = 4 ∨ v = 5 ∨ v = 6 ∨ (v < 0 ∨ 6 < v) by omega) with h2 | h2 | h2 | h2 | h2 | h2 | h2 | h2
    · refine kw_tblIn (off := 42) (tgt := 56) dX6_bough_14 (by omega) (by omega) (by rw [h2]; rfl) (by decide) ?_
      refine kw_aload_n dX6_bough_56 rfl ?_
      refine kv_getR (b := 4) dX6_bough_57 kf_X6_19 rfl rfl rfl (hg (0, 1, 4) (by decide)) ?_
      refine kw_iload_n dX6_bough_60 rfl ?_
      refine kv_callV1 (M2 := M_X2_kind) (As := [kI (b)]) dX6_bough_61 ml_X6_101 q_X2_kind rfl rfl rfl (Nat.le_of_ble_eq_true rfl) (c_kind hg (by omega)) (by omega) ?_
      refine kv_ri dX6_bough_64 rfl (Eq.symm ?_) rfl
      unfold sBough
      rw [if_pos (by omega)]
      have zz0 := kb1 () (by omega) (by omega)
      have zz1 := kb2 () (by omega) (by omega)
      have zz2 := kb3 () (by omega) (by omega)
      have zz3 := kb4 () (by omega) (by omega)
      have zz4 := kb5 () (by omega) (by omega)
      repeat rw [if_neg (by omega)]
      try rw [if_pos (by omega)]
      first
        | omega
        | (simp only [Nat.reduceAdd]; omega)
        | (refine k_ite ?_; omega)
        | (refine k_ite ?_; first | exact hw () (by omega) (by omega) | exact (hw () (by omega) (by omega)).symm | exact (hc () (by omega) (by omega) (by omega) (by omega)).symm)
        | (split <;> omega)
    · refine kw_tblIn (off := 51) (tgt := 65) dX6_bough_14 (by omega) (by omega) (by rw [h2]; rfl) (by decide) ?_
      refine kw_aload_n dX6_bough_65 rfl ?_
      refine kv_getR (b := 4) dX6_bough_66 kf_X6_19 rfl rfl rfl (hg (0, 1, 4) (by decide)) ?_
      refine kw_iload_n dX6_bough_69 rfl ?_
      refine kv_callV1 (M2 := M_X2_height) (As := [kI (b)]) dX6_bough_70 ml_X6_105 q_X2_height rfl rfl rfl (Nat.le_of_ble_eq_true rfl) (c_height hg (by omega)) (by omega) ?_
      refine kv_ri dX6_bough_73 rfl (Eq.symm ?_) rfl
      unfold sBough
      rw [if_pos (by omega)]
      have zz0 := kb1 () (by omega) (by omega)
      have zz1 := kb2 () (by omega) (by omega)
      have zz2 := kb3 () (by omega) (by omega)
      have zz3 := kb4 () (by omega) (by omega)
      have zz4 := kb5 () (by omega) (by omega)
      repeat rw [if_neg (by omega)]
      try rw [if_pos (by omega)]
      first
        | omega
        | (simp only [Nat.reduceAdd]; omega)
        | (refine k_ite ?_; omega)
        | (refine k_ite ?_; first | exact hw () (by omega) (by omega) | exact (hw () (by omega) (by omega)).symm | exact (hc () (by omega) (by omega) (by omega) (by omega)).symm)
        | (split <;> omega)
    · refine kw_tblIn (off := 60) (tgt := 74) dX6_bough_14 (by omega) (by omega) (by rw [h2]; rfl) (by decide) ?_
      refine kw_aload_n dX6_bough_74 rfl ?_
      refine kv_getR (b := 4) dX6_bough_75 kf_X6_19 rfl rfl rfl (hg (0, 1, 4) (by decide)) ?_
      refine kw_iload_n dX6_bough_78 rfl ?_
      refine kv_callV1 (M2 := M_X2_weight) (As := [kI (b)]) dX6_bough_79 ml_X6_108 q_X2_weight rfl rfl rfl (Nat.le_of_ble_eq_true rfl) (c_weight hg (by omega)) (by omega) ?_
      refine kv_ri dX6_bough_82 rfl (Eq.symm ?_) rfl
      unfold sBough
      rw [if_pos (by omega)]
      have zz0 := kb1 () (by omega) (by omega)
      have zz1 := kb2 () (by omega) (by omega)
      have zz2 := kb3 () (by omega) (by omega)
      have zz3 := kb4 () (by omega) (by omega)
      have zz4 := kb5 () (by omega) (by omega)
      repeat rw [if_neg (by omega)]
      try rw [if_pos (by omega)]
      first
        | omega
        | (simp only [Nat.reduceAdd]; omega)
        | (refine k_ite ?_; omega)
        | (refine k_ite ?_; first | exact hw () (by omega) (by omega) | exact (hw () (by omega) (by omega)).symm | exact (hc () (by omega) (by omega) (by omega) (by omega)).symm)
        | (split <;> omega)
    · refine kw_tblIn (off := 69) (tgt := 83) dX6_bough_14 (by omega) (by omega) (by rw [h2]; rfl) (by decide) ?_
      refine kw_aload_n dX6_bough_83 rfl ?_
      refine kv_getR (b := 10) dX6_bough_84 kf_X6_26 rfl rfl rfl (hg (0, 2, 10) (by decide)) ?_
      refine kw_iload_n dX6_bough_87 rfl ?_
      refine kv_callV1 (M2 := M_X4_deadFrom) (As := [kI (b)]) dX6_bough_88 ml_X6_111 q_X4_deadFrom rfl rfl rfl (Nat.le_of_ble_eq_true rfl) (c_deadFromR (by unfold kSA; omega) hg (by omega)) (by omega) ?_
      refine kv_ri dX6_bough_91 rfl (Eq.symm ?_) rfl
      unfold sBough
      rw [if_pos (by omega)]
      have zz0 := kb1 () (by omega) (by omega)
      have zz1 := kb2 () (by omega) (by omega)
      have zz2 := kb3 () (by omega) (by omega)
      have zz3 := kb4 () (by omega) (by omega)
      have zz4 := kb5 () (by omega) (by omega)
      repeat rw [if_neg (by omega)]
      try rw [if_pos (by omega)]
      first
        | omega
        | (simp only [Nat.reduceAdd]; omega)
        | (refine k_ite ?_; omega)
        | (refine k_ite ?_; first | exact hw () (by omega) (by omega) | exact (hw () (by omega) (by omega)).symm | exact (hc () (by omega) (by omega) (by omega) (by omega)).symm)
        | (split <;> omega)
    · refine kw_tblIn (off := 78) (tgt := 92) dX6_bough_14 (by omega) (by omega) (by rw [h2]; rfl) (by decide) ?_
      refine kw_aload_n dX6_bough_92 rfl ?_
      refine kv_getR (b := 4) dX6_bough_93 kf_X6_19 rfl rfl rfl (hg (0, 1, 4) (by decide)) ?_
      refine kw_aload_n dX6_bough_96 rfl ?_
      refine kv_getR (b := 10) dX6_bough_97 kf_X6_26 rfl rfl rfl (hg (0, 2, 10) (by decide)) ?_
      refine kw_iload_n dX6_bough_100 rfl ?_
      refine kw_aload_n dX6_bough_101 rfl ?_
      refine kv_getR (b := 10) dX6_bough_102 kf_X6_26 rfl rfl rfl (hg (0, 2, 10) (by decide)) ?_
      refine kv_getI (kz := 1) dX6_bough_105 kf_X6_114 rfl rfl rfl rfl ?_
      refine kv_callV1 (M2 := M_X2_isDead) (As := [kA (10), kI (b), kI (f 10 1)]) dX6_bough_108 ml_X6_117 q_X2_isDead rfl rfl rfl (Nat.le_of_ble_eq_true rfl) (c_isDead (by unfold kSA; omega) hg (by omega)) (by omega) ?_
      refine kv_callS1 (M2 := M_X6_bit) (As := [kI (if f 11 b ≤ f 10 1 then 1 else 0)]) dX6_bough_111 ml_X6_121 q_X6_bit rfl (Nat.le_of_ble_eq_true rfl) (c_bit) (by omega) ?_
      refine kv_ri dX6_bough_114 rfl (Eq.symm ?_) rfl
      unfold sBough
      rw [if_pos (by omega)]
      have zz0 := kb1 () (by omega) (by omega)
      have zz1 := kb2 () (by omega) (by omega)
      have zz2 := kb3 () (by omega) (by omega)
      have zz3 := kb4 () (by omega) (by omega)
      have zz4 := kb5 () (by omega) (by omega)
      repeat rw [if_neg (by omega)]
      try rw [if_pos (by omega)]
      first
        | omega
        | (simp only [Nat.reduceAdd]; omega)
        | (refine k_ite ?_; omega)
        | (refine k_ite ?_; first | exact hw () (by omega) (by omega) | exact (hw () (by omega) (by omega)).symm | exact (hc () (by omega) (by omega) (by omega) (by omega)).symm)
        | (split <;> omega)
    · refine kw_tblIn (off := 101) (tgt := 115) dX6_bough_14 (by omega) (by omega) (by rw [h2]; rfl) (by decide) ?_
      refine kw_aload_n dX6_bough_115 rfl ?_
      refine kv_getR (b := 4) dX6_bough_116 kf_X6_19 rfl rfl rfl (hg (0, 1, 4) (by decide)) ?_
      refine kw_aload_n dX6_bough_119 rfl ?_
      refine kv_getR (b := 10) dX6_bough_120 kf_X6_26 rfl rfl rfl (hg (0, 2, 10) (by decide)) ?_
      refine kw_iload_n dX6_bough_123 rfl ?_
      refine kw_aload_n dX6_bough_124 rfl ?_
      refine kv_getR (b := 10) dX6_bough_125 kf_X6_26 rfl rfl rfl (hg (0, 2, 10) (by decide)) ?_
      refine kv_getI (kz := 1) dX6_bough_128 kf_X6_114 rfl rfl rfl rfl ?_
      refine kv_callV1 (M2 := M_X2_hasFallen) (As := [kA (10), kI (b), kI (f 10 1)]) dX6_bough_131 ml_X6_125 q_X2_hasFallen rfl rfl rfl (Nat.le_of_ble_eq_true rfl) (c_hasFallen (by unfold kSA; omega) hg (by omega) (kbf () (by omega) (by omega))) (by omega) ?_
      refine kv_callS1 (M2 := M_X6_bit) (As := [kI (if f 11 b + f 4 9 ≤ f 10 1 then 1 else 0)]) dX6_bough_134 ml_X6_121 q_X6_bit rfl (Nat.le_of_ble_eq_true rfl) (c_bit) (by omega) ?_
      refine kv_ri dX6_bough_137 rfl (Eq.symm ?_) rfl
      unfold sBough
      rw [if_pos (by omega)]
      have zz0 := kb1 () (by omega) (by omega)
      have zz1 := kb2 () (by omega) (by omega)
      have zz2 := kb3 () (by omega) (by omega)
      have zz3 := kb4 () (by omega) (by omega)
      have zz4 := kb5 () (by omega) (by omega)
      repeat rw [if_neg (by omega)]
      try rw [if_pos (by omega)]
      first
        | omega
        | (simp only [Nat.reduceAdd]; omega)
        | (refine k_ite ?_; omega)
        | (refine k_ite ?_; first | exact hw () (by omega) (by omega) | exact (hw () (by omega) (by omega)).symm | exact (hc () (by omega) (by omega) (by omega) (by omega)).symm)
        | (split <;> omega)
    · refine kw_tblIn (off := 124) (tgt := 138) dX6_bough_14 (by omega) (by omega) (by rw [h2]; rfl) (by decide) ?_
      refine kw_aload_n dX6_bough_138 rfl ?_
      refine kv_getR (b := 10) dX6_bough_139 kf_X6_26 rfl rfl rfl (hg (0, 2, 10) (by decide)) ?_
      refine kw_iload_n dX6_bough_142 rfl ?_
      refine kv_callV1 (M2 := M_X4_isGone) (As := [kI (b)]) dX6_bough_143 ml_X6_128 q_X4_isGone rfl rfl rfl (Nat.le_of_ble_eq_true rfl) (c_isGone (by unfold kSA; omega) hg (by omega) (by omega)) (by omega) ?_
      refine kv_callS1 (M2 := M_X6_bit) (As := [kI (if kbit (f 10 2) b = 1 then 1 else 0)]) dX6_bough_146 ml_X6_121 q_X6_bit rfl (Nat.le_of_ble_eq_true rfl) (c_bit) (by omega) ?_
      refine kv_ri dX6_bough_149 rfl (Eq.symm ?_) rfl
      unfold sBough
      rw [if_pos (by omega)]
      have zz0 := kb1 () (by omega) (by omega)
      have zz1 := kb2 () (by omega) (by omega)
      have zz2 := kb3 () (by omega) (by omega)
      have zz3 := kb4 () (by omega) (by omega)
      have zz4 := kb5 () (by omega) (by omega)
      repeat rw [if_neg (by omega)]
      try rw [if_pos (by omega)]
      first
        | omega
        | (simp only [Nat.reduceAdd]; omega)
        | (refine k_ite ?_; omega)
        | (refine k_ite ?_; first | exact hw () (by omega) (by omega) | exact (hw () (by omega) (by omega)).symm | exact (hc () (by omega) (by omega) (by omega) (by omega)).symm)
        | (split <;> omega)
    · refine kw_tblOut (tgt := 150) dX6_bough_14 (by omega) (by decide) ?_
      refine kw_iconst dX6_bough_150 ⟨by decide, by decide⟩ ?_
      exact kv_ri dX6_bough_151 rfl (Eq.symm (by unfold sBough; first | (rw [if_neg (by omega)]; done) | (rw [if_pos (by omega)]; repeat rw [if_neg (by omega)]))) rfl
  · refine kw_iconst dX6_bough_11 ⟨by decide, by decide⟩ ?_
    exact kv_ri dX6_bough_12 rfl (Eq.symm (by unfold sBough; first | (rw [if_neg (by omega)]; done) | (rw [if_pos (by omega)]; repeat rw [if_neg (by omega)]))) rfl
theorem c_tenant {E : kEnv} {w : List (Nat × Nat)} {f : Nat → Int → Int} {g : Nat → Int → Option Nat} {T s : Int → Int} {i v : Int} (hg : kG g) (hT : mTO T) (hS : mSO T s) (hR : RF T f) (hI : Sim T f 10 s) (hD : ∀ b, 0 ≤ b → b < T 0 → f 11 b = s b) (h28 : 0 ≤ s 28 ∧ s 28 ≤ 99) : kF E 3 M_X6_tenant [kA (0), kI (i), kI (v)] ((kMC ++ w), f, g) (some (kI (sTenant T s i v))) ((kMC ++ w), f, g) := by
  refine kF_of (by decide) (by simp [k_one]) (Nat.le_of_ble_eq_true rfl) (L := [some (kA (0)), some (kI (i)), some (kI (v))]) rfl ?_
  have hF := RF_FO hT hR
  have n0 := hT.1
  have n1 := hT.2.1
  have r0 := hR.1
  have r1 := hR.2.1
  have hSO := Sim_SO hT hS hR hI (by omega)
  have e28 := hI.1
  have e2 := hI.2.1
  have sg := hSO.2.1
  have ki1 : ∀ _ : Unit, 0 ≤ i → i < T 1 → f 8 i = T (29 + i) ∧ f 9 i = T (33 + i) := fun _ x y => hR.2.2.2.2.2.2 i x y
  have ki2 : ∀ _ : Unit, 0 ≤ i → i < T 1 → f 11 (8 + i) = s (20 + i) ∧ f 11 (12 + i) = s (16 + i) ∧ f 11 (16 + i) = s (24 + i) := fun _ x y => hI.2.2.2.1 i x y
  have hw : ∀ _ : Unit, 0 ≤ i → i < T 1 → (rWarm f 10 i ↔ mWarm T s i) := fun _ x y => Sim_warm hR hI ⟨x, y⟩
  refine kw_aload_n dX6_tenant_0 rfl ?_
  refine kv_getR (b := 4) dX6_tenant_1 kf_X6_19 rfl rfl rfl (hg (0, 1, 4) (by decide)) ?_
  refine kw_iload_n dX6_tenant_4 rfl ?_
  refine kv_callV1 (M2 := M_X2_hasTenant) (As := [kI (i)]) dX6_tenant_5 ml_X6_131 q_X2_hasTenant rfl rfl rfl (Nat.le_of_ble_eq_true rfl) (c_hasTenant hg) (by omega) ?_
  refine kv_ifneB (tgt := 13) dX6_tenant_8 (by decide) (fun h1 => ?_) (fun h1 => ?_)
  · refine kw_iload_n dX6_tenant_13 rfl ?_
    rcases (show v = 0 ∨ v = 1 ∨ v = 2 ∨ v = 3 ∨ v = 4 ∨ v = 5 ∨ (v < 0 ∨ 5 < v) by omega) with h2 | h2 | h2 | h2 | h2 | h2 | h2
    · refine kw_tblIn (off := 38) (tgt := 52) dX6_tenant_14 (by omega) (by omega) (by rw [h2]; rfl) (by decide) ?_
      refine kw_aload_n dX6_tenant_52 rfl ?_
      refine kv_getR (b := 10) dX6_tenant_53 kf_X6_26 rfl rfl rfl (hg (0, 2, 10) (by decide)) ?_
      refine kw_iload_n dX6_tenant_56 rfl ?_
      refine kv_callV1 (M2 := M_X4_reach) (As := [kI (i)]) dX6_tenant_57 ml_X6_134 q_X4_reach rfl rfl rfl (Nat.le_of_ble_eq_true rfl) (c_reachR (by unfold kSA; omega) hg (by omega)) (by omega) ?_
      refine kv_ri dX6_tenant_60 rfl (Eq.symm ?_) rfl
      unfold sTenant
      rw [if_pos (by omega)]
      have zz0 := ki1 () (by omega) (by omega)
      have zz1 := ki2 () (by omega) (by omega)
      repeat rw [if_neg (by omega)]
      try rw [if_pos (by omega)]
      first
        | omega
        | (simp only [Nat.reduceAdd]; omega)
        | (refine k_ite ?_; omega)
        | (refine k_ite ?_; first | exact hw () (by omega) (by omega) | exact (hw () (by omega) (by omega)).symm | exact (hc () (by omega) (by omega) (by omega) (by omega)).symm)
        | (split <;> omega)
    · refine kw_tblIn (off := 47) (tgt := 61) dX6_tenant_14 (by omega) (by omega) (by rw [h2]; rfl) (by decide) ?_
      refine kw_aload_n dX6_tenant_61 rfl ?_
      refine kv_getR (b := 4) dX6_tenant_62 kf_X6_19 rfl rfl rfl (hg (0, 1, 4) (by decide)) ?_
      refine kw_iload_n dX6_tenant_65 rfl ?_
      refine kv_callV1 (M2 := M_X2_strength) (As := [kI (i)]) dX6_tenant_66 ml_X6_137 q_X2_strength rfl rfl rfl (Nat.le_of_ble_eq_true rfl) (c_strength hg (by omega)) (by omega) ?_
      refine kv_ri dX6_tenant_69 rfl (Eq.symm ?_) rfl
      unfold sTenant
      rw [if_pos (by omega)]
      have zz0 := ki1 () (by omega) (by omega)
      have zz1 := ki2 () (by omega) (by omega)
      repeat rw [if_neg (by omega)]
      try rw [if_pos (by omega)]
      first
        | omega
        | (simp only [Nat.reduceAdd]; omega)
        | (refine k_ite ?_; omega)
        | (refine k_ite ?_; first | exact hw () (by omega) (by omega) | exact (hw () (by omega) (by omega)).symm | exact (hc () (by omega) (by omega) (by omega) (by omega)).symm)
        | (split <;> omega)
    · refine kw_tblIn (off := 56) (tgt := 70) dX6_tenant_14 (by omega) (by omega) (by rw [h2]; rfl) (by decide) ?_
      refine kw_aload_n dX6_tenant_70 rfl ?_
      refine kv_getR (b := 4) dX6_tenant_71 kf_X6_19 rfl rfl rfl (hg (0, 1, 4) (by decide)) ?_
      refine kw_iload_n dX6_tenant_74 rfl ?_
      refine kv_callV1 (M2 := M_X2_hearth) (As := [kI (i)]) dX6_tenant_75 ml_X6_140 q_X2_hearth rfl rfl rfl (Nat.le_of_ble_eq_true rfl) (c_hearth hg (by omega)) (by omega) ?_
      refine kv_ri dX6_tenant_78 rfl (Eq.symm ?_) rfl
      unfold sTenant
      rw [if_pos (by omega)]
      have zz0 := ki1 () (by omega) (by omega)
      have zz1 := ki2 () (by omega) (by omega)
      repeat rw [if_neg (by omega)]
      try rw [if_pos (by omega)]
      first
        | omega
        | (simp only [Nat.reduceAdd]; omega)
        | (refine k_ite ?_; omega)
        | (refine k_ite ?_; first | exact hw () (by omega) (by omega) | exact (hw () (by omega) (by omega)).symm | exact (hc () (by omega) (by omega) (by omega) (by omega)).symm)
        | (split <;> omega)
    · refine kw_tblIn (off := 65) (tgt := 79) dX6_tenant_14 (by omega) (by omega) (by rw [h2]; rfl) (by decide) ?_
      refine kw_aload_n dX6_tenant_79 rfl ?_
      refine kv_getR (b := 10) dX6_tenant_80 kf_X6_26 rfl rfl rfl (hg (0, 2, 10) (by decide)) ?_
      refine kw_iload_n dX6_tenant_83 rfl ?_
      refine kv_callV1 (M2 := M_X4_stack) (As := [kI (i)]) dX6_tenant_84 ml_X6_143 q_X4_stack rfl rfl rfl (Nat.le_of_ble_eq_true rfl) (c_stackR (by unfold kSA; omega) hg (by omega)) (by omega) ?_
      refine kv_ri dX6_tenant_87 rfl (Eq.symm ?_) rfl
      unfold sTenant
      rw [if_pos (by omega)]
      have zz0 := ki1 () (by omega) (by omega)
      have zz1 := ki2 () (by omega) (by omega)
      repeat rw [if_neg (by omega)]
      try rw [if_pos (by omega)]
      first
        | omega
        | (simp only [Nat.reduceAdd]; omega)
        | (refine k_ite ?_; omega)
        | (refine k_ite ?_; first | exact hw () (by omega) (by omega) | exact (hw () (by omega) (by omega)).symm | exact (hc () (by omega) (by omega) (by omega) (by omega)).symm)
        | (split <;> omega)
    · refine kw_tblIn (off := 74) (tgt := 88) dX6_tenant_14 (by omega) (by omega) (by rw [h2]; rfl) (by decide) ?_
      refine kw_aload_n dX6_tenant_88 rfl ?_
      refine kv_getR (b := 10) dX6_tenant_89 kf_X6_26 rfl rfl rfl (hg (0, 2, 10) (by decide)) ?_
      refine kw_iload_n dX6_tenant_92 rfl ?_
      refine kv_callV1 (M2 := M_X4_carried) (As := [kI (i)]) dX6_tenant_93 ml_X6_146 q_X4_carried rfl rfl rfl (Nat.le_of_ble_eq_true rfl) (c_carriedR (by unfold kSA; omega) hg (by omega)) (by omega) ?_
      refine kv_ri dX6_tenant_96 rfl (Eq.symm ?_) rfl
      unfold sTenant
      rw [if_pos (by omega)]
      have zz0 := ki1 () (by omega) (by omega)
      have zz1 := ki2 () (by omega) (by omega)
      repeat rw [if_neg (by omega)]
      try rw [if_pos (by omega)]
      first
        | omega
        | (simp only [Nat.reduceAdd]; omega)
        | (refine k_ite ?_; omega)
        | (refine k_ite ?_; first | exact hw () (by omega) (by omega) | exact (hw () (by omega) (by omega)).symm | exact (hc () (by omega) (by omega) (by omega) (by omega)).symm)
        | (split <;> omega)
    · refine kw_tblIn (off := 83) (tgt := 97) dX6_tenant_14 (by omega) (by omega) (by rw [h2]; rfl) (by decide) ?_
      refine kw_aload_n dX6_tenant_97 rfl ?_
      refine kv_getR (b := 4) dX6_tenant_98 kf_X6_19 rfl rfl rfl (hg (0, 1, 4) (by decide)) ?_
      refine kw_aload_n dX6_tenant_101 rfl ?_
      refine kv_getR (b := 10) dX6_tenant_102 kf_X6_26 rfl rfl rfl (hg (0, 2, 10) (by decide)) ?_
      refine kw_iload_n dX6_tenant_105 rfl ?_
      refine kv_callV1 (M2 := M_X2_isWarm) (As := [kA (10), kI (i)]) dX6_tenant_106 ml_X6_149 q_X2_isWarm rfl rfl rfl (Nat.le_of_ble_eq_true rfl) (c_isWarm (by unfold kSA; omega) hg ⟨by omega, by omega⟩) (by omega) ?_
      refine kv_callS1 (M2 := M_X6_bit) (As := [kI (if rWarm f 10 i then 1 else 0)]) dX6_tenant_109 ml_X6_121 q_X6_bit rfl (Nat.le_of_ble_eq_true rfl) (c_bit) (by omega) ?_
      refine kv_ri dX6_tenant_112 rfl (Eq.symm ?_) rfl
      unfold sTenant
      rw [if_pos (by omega)]
      have zz0 := ki1 () (by omega) (by omega)
      have zz1 := ki2 () (by omega) (by omega)
      repeat rw [if_neg (by omega)]
      try rw [if_pos (by omega)]
      first
        | omega
        | (simp only [Nat.reduceAdd]; omega)
        | (refine k_ite ?_; omega)
        | (refine k_ite ?_; first | exact hw () (by omega) (by omega) | exact (hw () (by omega) (by omega)).symm | exact (hc () (by omega) (by omega) (by omega) (by omega)).symm)
        | (split <;> omega)
    · refine kw_tblOut (tgt := 113) dX6_tenant_14 (by omega) (by decide) ?_
      refine kw_iconst dX6_tenant_113 ⟨by decide, by decide⟩ ?_
      exact kv_ri dX6_tenant_114 rfl (Eq.symm (by unfold sTenant; first | (rw [if_neg (by omega)]; done) | (rw [if_pos (by omega)]; repeat rw [if_neg (by omega)]))) rfl
  · refine kw_iconst dX6_tenant_11 ⟨by decide, by decide⟩ ?_
    exact kv_ri dX6_tenant_12 rfl (Eq.symm (by unfold sTenant; first | (rw [if_neg (by omega)]; done) | (rw [if_pos (by omega)]; repeat rw [if_neg (by omega)]))) rfl
theorem c_can {E : kEnv} {w : List (Nat × Nat)} {f : Nat → Int → Int} {g : Nat → Int → Option Nat} {T s : Int → Int} {i b : Int} (hg : kG g) (hT : mTO T) (hS : mSO T s) (hR : RF T f) (hI : Sim T f 10 s) (hD : ∀ b, 0 ≤ b → b < T 0 → f 11 b = s b) (h28 : 0 ≤ s 28 ∧ s 28 ≤ 99) : kF E 5 M_X6_can [kA (0), kI (i), kI (b)] ((kMC ++ w), f, g) (some (kI (sCan T s i b))) ((kMC ++ w), f, g) := by
  refine kF_of (by decide) (by simp [k_one]) (Nat.le_of_ble_eq_true rfl) (L := [some (kA (0)), some (kI (i)), some (kI (b))]) rfl ?_
  have hF := RF_FO hT hR
  have n0 := hT.1
  have n1 := hT.2.1
  have r0 := hR.1
  have r1 := hR.2.1
  have hSO := Sim_SO hT hS hR hI (by omega)
  have e28 := hI.1
  have e2 := hI.2.1
  have sg := hSO.2.1
  have hc : ∀ _ : Unit, 0 ≤ i → i < T 1 → 0 ≤ b → b < T 0 → (rCan f 10 i b ↔ mCan T s i b) := fun _ x1 x2 x3 x4 => Sim_can hT hS hR hI ⟨x1, x2⟩ ⟨x3, x4⟩
  refine kw_aload_n dX6_can_0 rfl ?_
  refine kv_getR (b := 4) dX6_can_1 kf_X6_19 rfl rfl rfl (hg (0, 1, 4) (by decide)) ?_
  refine kw_iload_n dX6_can_4 rfl ?_
  refine kv_callV1 (M2 := M_X2_hasTenant) (As := [kI (i)]) dX6_can_5 ml_X6_131 q_X2_hasTenant rfl rfl rfl (Nat.le_of_ble_eq_true rfl) (c_hasTenant hg) (by omega) ?_
  refine kv_ifeqB (tgt := 22) dX6_can_8 (by decide) (fun h1 => ?_) (fun h1 => ?_)
  · refine kw_iconst dX6_can_22 ⟨by decide, by decide⟩ ?_
    exact kv_ri dX6_can_23 rfl (Eq.symm (by unfold sCan; first | (rw [if_neg (by omega)]; done) | (rw [if_pos (by omega)]; repeat rw [if_neg (by omega)]))) rfl
  · refine kw_aload_n dX6_can_11 rfl ?_
    refine kv_getR (b := 4) dX6_can_12 kf_X6_19 rfl rfl rfl (hg (0, 1, 4) (by decide)) ?_
    refine kw_iload_n dX6_can_15 rfl ?_
    refine kv_callV1 (M2 := M_X2_hasBough) (As := [kI (b)]) dX6_can_16 ml_X6_97 q_X2_hasBough rfl rfl rfl (Nat.le_of_ble_eq_true rfl) (c_hasBough hg) (by omega) ?_
    refine kv_ifneB (tgt := 24) dX6_can_19 (by decide) (fun h2 => ?_) (fun h2 => ?_)
    · refine kw_aload_n dX6_can_24 rfl ?_
      refine kv_getR (b := 4) dX6_can_25 kf_X6_19 rfl rfl rfl (hg (0, 1, 4) (by decide)) ?_
      refine kw_aload_n dX6_can_28 rfl ?_
      refine kv_getR (b := 10) dX6_can_29 kf_X6_26 rfl rfl rfl (hg (0, 2, 10) (by decide)) ?_
      refine kw_iload_n dX6_can_32 rfl ?_
      refine kw_iload_n dX6_can_33 rfl ?_
      refine kv_callV1 (M2 := M_X2_canTake) (As := [kA (10), kI (i), kI (b)]) dX6_can_34 ml_X6_153 q_X2_canTake rfl rfl rfl (Nat.le_of_ble_eq_true rfl) (c_canTake (by unfold kSA; omega) hg hF ⟨by omega, by omega⟩ ⟨by omega, by omega⟩ hSO) (by omega) ?_
      refine kv_callS1 (M2 := M_X6_bit) (As := [kI (if rCan f 10 i b then 1 else 0)]) dX6_can_37 ml_X6_121 q_X6_bit rfl (Nat.le_of_ble_eq_true rfl) (c_bit) (by omega) ?_
      refine kv_ri dX6_can_40 rfl (Eq.symm ?_) rfl
      unfold sCan
      rw [if_pos (by omega)]
      
      repeat rw [if_neg (by omega)]
      try rw [if_pos (by omega)]
      first
        | omega
        | (simp only [Nat.reduceAdd]; omega)
        | (refine k_ite ?_; omega)
        | (refine k_ite ?_; first | exact hw () (by omega) (by omega) | exact (hw () (by omega) (by omega)).symm | exact (hc () (by omega) (by omega) (by omega) (by omega)).symm)
        | (split <;> omega)
    · refine kw_iconst dX6_can_22 ⟨by decide, by decide⟩ ?_
      exact kv_ri dX6_can_23 rfl (Eq.symm (by unfold sCan; first | (rw [if_neg (by omega)]; done) | (rw [if_pos (by omega)]; repeat rw [if_neg (by omega)]))) rfl
/-- `mCould`, shut -/
def oCould (T s : Int → Int) (i b d c : Int) : Bool := decide (mCould T s i b d c)
theorem oCould_i {T s : Int → Int} {i b d c : Int} : oCould T s i b d c = true ↔ mCould T s i b d c := by simp [oCould]
theorem c_couldO {E : kEnv} {w : List (Nat × Nat)} {f : Nat → Int → Int} {g : Nat → Int → Option Nat} {T s : Int → Int} {i b d c : Int} (hg : kG g) (hT : mTO T) (hR : RF T f) (hi : 0 ≤ i ∧ i < T 1) (hb : 0 ≤ b ∧ b < T 0) (hx : -1000 ≤ f 11 b ∧ f 11 b ≤ 1000) (e : f 11 b = s b) (e2 : f 11 (12 + i) = s (16 + i)) (hc : -1000 ≤ c ∧ c ≤ 1000) : kF E 2 M_X2_couldTake [kA (4), kA (10), kI (i), kI (b), kI (d), kI (c)] ((kMC ++ w), f, g) (some (kI (if oCould T s i b d c = true then 1 else 0))) ((kMC ++ w), f, g) := by
  have n0 := hT.1
  have n1 := hT.2.1
  have r0 := hR.1
  have r1 := hR.2.1
  rw [show (if oCould T s i b d c = true then (1 : Int) else 0) = if rCould f 10 i b d c then 1 else 0 from (k_ite ((Sim_could (a := 10) hR hi hb e e2).trans oCould_i.symm)).symm]
  exact c_couldTake (by unfold kSA; omega) hg (RF_FO hT hR) (by omega) (by omega) hx hc
theorem l_firstDayFor {E : kEnv} {w : List (Nat × Nat)} {f : Nat → Int → Int} {g : Nat → Int → Option Nat} {T s : Int → Int} {i b x : Int} (hg : kG g) (hT : mTO T) (hS : mSO T s) (hR : RF T f) (hI : Sim T f 10 s) (hD : ∀ b, 0 ≤ b → b < T 0 → f 11 b = s b) (h28 : 0 ≤ s 28 ∧ s 28 ≤ 99) (hi : 0 ≤ i ∧ i < T 1) (hb : 0 ≤ b ∧ b < T 0) : ∀ (n : Nat) (d : Int), (0 ≤ d ∧ d ≤ 100) → (100 - d).toNat < n → x = kFirst (fun d => mCould T s i b d 0) (100 - d).toNat d → kW E 3 0 0 M_X2_firstDayFor 17 [some (kA 4), some (kA 10), some (kI i), some (kI b), some (kI d)] [] ((kMC ++ w), f, g) (fun r h' => r = some (kI x) ∧ h' = ((kMC ++ w), f, g)) := by
  intro n
  induction n with
  | zero => intro d _ y; omega
  | succ n ih =>
    intro d y0 y1 e1
    have hF := RF_FO hT hR
    have n0 := hT.1
    have n1 := hT.2.1
    have r0 := hR.1
    have r1 := hR.2.1
    have hSO := Sim_SO hT hS hR hI (by omega)
    have e28 := hI.1
    have e2 := hI.2.1
    have sg := hSO.2.1
    have k49 := hF.2.2.2.2.1
    have kb1 := hR.2.2.2.2.2.1 b hb.1 hb.2
    have kb2 := hD b hb.1 hb.2
    have kb3 : kbit (f 10 2) b = s (8 + b) := by rw [e2]; exact gsum_bit hS ⟨hb.1, by omega⟩
    have kb4 := (hS.1 b hb.1 (by omega)).1
    have kb5 := hI.2.2.2.2 b hb.1 hb.2
    have kbc : -1000 ≤ f 11 b ∧ f 11 b ≤ 1000 := by have z : -100 ≤ f 11 b ∧ f 11 b ≤ 300 := kb5; omega
    have kbf : -1000 ≤ f 11 b ∧ f 11 b ≤ 1000 ∧ -1000 ≤ f 4 9 ∧ f 4 9 ≤ 1000 := by omega
    have ki1 := hR.2.2.2.2.2.2 i hi.1 hi.2
    have ki2 : f 11 (8 + i) = s (20 + i) ∧ f 11 (12 + i) = s (16 + i) ∧ f 11 (16 + i) = s (24 + i) := hI.2.2.2.1 i hi.1 hi.2
    refine kw_iload dX2_firstDayFor_17 rfl ?_
    refine kw_bipush dX2_firstDayFor_19 (by decide) (by decide) ?_
    refine kw_icmp_gt (tgt := 46) dX2_firstDayFor_21 (by decide) (fun h1 => ?_) (fun h1 => ?_)
    · refine kw_bipush dX2_firstDayFor_46 (by decide) (by decide) ?_
      first
        | (rw [show (100 - d).toNat = (100 - (d + 1)).toNat + 1 by omega, kFirst, if_pos (oCould_i.mp h2)] at e1; exact kv_ri dX2_firstDayFor_48 rfl e1.symm rfl)
        | (rw [show (100 - d).toNat = 0 by omega, kFirst] at e1; exact kv_ri dX2_firstDayFor_48 rfl e1.symm rfl)
    · refine kw_aload_n dX2_firstDayFor_24 rfl ?_
      refine kw_aload_n dX2_firstDayFor_25 rfl ?_
      refine kw_iload_n dX2_firstDayFor_26 rfl ?_
      refine kw_iload_n dX2_firstDayFor_27 rfl ?_
      refine kw_iload dX2_firstDayFor_28 rfl ?_
      refine kw_iconst dX2_firstDayFor_30 ⟨by decide, by decide⟩ ?_
      refine kv_callV1 (M2 := M_X2_couldTake) (As := [kA (10), kI (i), kI (b), kI (d), kI (0)]) dX2_firstDayFor_31 ml_X2_120 q_X2_couldTake rfl rfl rfl (Nat.le_of_ble_eq_true rfl) (c_couldO hg hT hR ⟨by omega, by omega⟩ ⟨by omega, by omega⟩ kbc kb2 ki2.2.1 ⟨by omega, by omega⟩) (by omega) ?_
      refine kv_ifeqB (tgt := 40) dX2_firstDayFor_34 (by decide) (fun h2 => ?_) (fun h2 => ?_)
      · refine kw_iinc dX2_firstDayFor_40 (by decide) rfl ⟨by omega, by omega⟩ trivial (L2 := [some (kA (4)), some (kA (10)), some (kI (i)), some (kI (b)), some (kI (d + 1))]) rfl ?_
        refine kw_goto (tgt := 17) dX2_firstDayFor_43 (by decide) ?_
        rw [show (100 - d).toNat = (100 - (d + 1)).toNat + 1 by omega, kFirst, if_neg (fun z => h2 (oCould_i.mpr z))] at e1
        exact ih (d + 1) ⟨by omega, by omega⟩ (by omega) e1
      · refine kw_iload dX2_firstDayFor_37 rfl ?_
        first
          | (rw [show (100 - d).toNat = (100 - (d + 1)).toNat + 1 by omega, kFirst, if_pos (oCould_i.mp h2)] at e1; exact kv_ri dX2_firstDayFor_39 rfl e1.symm rfl)
          | (rw [show (100 - d).toNat = 0 by omega, kFirst] at e1; exact kv_ri dX2_firstDayFor_39 rfl e1.symm rfl)
theorem c_firstDayFor {E : kEnv} {w : List (Nat × Nat)} {f : Nat → Int → Int} {g : Nat → Int → Option Nat} {T s : Int → Int} {i b : Int} (hg : kG g) (hT : mTO T) (hS : mSO T s) (hR : RF T f) (hI : Sim T f 10 s) (hD : ∀ b, 0 ≤ b → b < T 0 → f 11 b = s b) (h28 : 0 ≤ s 28 ∧ s 28 ≤ 99) (hi : 0 ≤ i ∧ i < T 1) (hb : 0 ≤ b ∧ b < T 0) : kF E 3 M_X2_firstDayFor [kA (4), kA (10), kI (i), kI (b)] ((kMC ++ w), f, g) (some (kI (sFd T s i b))) ((kMC ++ w), f, g) := by
  refine kF_of (by decide) (by simp [k_one]) (Nat.le_of_ble_eq_true rfl) (L := [some (kA (4)), some (kA (10)), some (kI (i)), some (kI (b)), none]) rfl ?_
  have hF := RF_FO hT hR
  have n0 := hT.1
  have n1 := hT.2.1
  have r0 := hR.1
  have r1 := hR.2.1
  have hSO := Sim_SO hT hS hR hI (by omega)
  have e28 := hI.1
  have e2 := hI.2.1
  have sg := hSO.2.1
  have k49 := hF.2.2.2.2.1
  have kb1 := hR.2.2.2.2.2.1 b hb.1 hb.2
  have kb2 := hD b hb.1 hb.2
  have kb3 : kbit (f 10 2) b = s (8 + b) := by rw [e2]; exact gsum_bit hS ⟨hb.1, by omega⟩
  have kb4 := (hS.1 b hb.1 (by omega)).1
  have kb5 := hI.2.2.2.2 b hb.1 hb.2
  have kbc : -1000 ≤ f 11 b ∧ f 11 b ≤ 1000 := by have z : -100 ≤ f 11 b ∧ f 11 b ≤ 300 := kb5; omega
  have kbf : -1000 ≤ f 11 b ∧ f 11 b ≤ 1000 ∧ -1000 ≤ f 4 9 ∧ f 4 9 ≤ 1000 := by omega
  refine kw_aload_n dX2_firstDayFor_0 rfl ?_
  refine kw_iload_n dX2_firstDayFor_1 rfl ?_
  refine kv_callV1 (M2 := M_X4_isGone) (As := [kI (b)]) dX2_firstDayFor_2 ml_X2_110 q_X4_isGone rfl rfl rfl (Nat.le_of_ble_eq_true rfl) (c_isGone (by unfold kSA; omega) hg (by omega) (by omega)) (by omega) ?_
  refine kv_ifeqB (tgt := 11) dX2_firstDayFor_5 (by decide) (fun h1 => ?_) (fun h1 => ?_)
  · refine kw_aload_n dX2_firstDayFor_11 rfl ?_
    refine kv_getI (kz := 1) dX2_firstDayFor_12 kf_X2_114 rfl rfl rfl rfl ?_
    refine kw_istore dX2_firstDayFor_15 (by decide) trivial (L2 := [some (kA (4)), some (kA (10)), some (kI (i)), some (kI (b)), some (kI (f 10 1))]) rfl ?_
    rw [e28]
    exact l_firstDayFor hg hT hS hR hI hD h28 hi hb _ _ ⟨by omega, by omega⟩ (Nat.lt_succ_self _) (if_pos (by omega))
  · refine kw_bipush dX2_firstDayFor_8 (by decide) (by decide) ?_
    exact kv_ri dX2_firstDayFor_10 rfl (if_neg (by omega)).symm rfl
theorem c_firstDay {E : kEnv} {w : List (Nat × Nat)} {f : Nat → Int → Int} {g : Nat → Int → Option Nat} {T s : Int → Int} {i b : Int} (hg : kG g) (hT : mTO T) (hS : mSO T s) (hR : RF T f) (hI : Sim T f 10 s) (hD : ∀ b, 0 ≤ b → b < T 0 → f 11 b = s b) (h28 : 0 ≤ s 28 ∧ s 28 ≤ 99) : kF E 4 M_X6_firstDay [kA (0), kI (i), kI (b)] ((kMC ++ w), f, g) (some (kI (sFirstDay T s i b))) ((kMC ++ w), f, g) := by
  refine kF_of (by decide) (by simp [k_one]) (Nat.le_of_ble_eq_true rfl) (L := [some (kA (0)), some (kI (i)), some (kI (b))]) rfl ?_
  have hF := RF_FO hT hR
  have n0 := hT.1
  have n1 := hT.2.1
  have r0 := hR.1
  have r1 := hR.2.1
  have hSO := Sim_SO hT hS hR hI (by omega)
  have e28 := hI.1
  have e2 := hI.2.1
  have sg := hSO.2.1
  refine kw_aload_n dX6_firstDay_0 rfl ?_
  refine kv_getR (b := 4) dX6_firstDay_1 kf_X6_19 rfl rfl rfl (hg (0, 1, 4) (by decide)) ?_
  refine kw_iload_n dX6_firstDay_4 rfl ?_
  refine kv_callV1 (M2 := M_X2_hasTenant) (As := [kI (i)]) dX6_firstDay_5 ml_X6_131 q_X2_hasTenant rfl rfl rfl (Nat.le_of_ble_eq_true rfl) (c_hasTenant hg) (by omega) ?_
  refine kv_ifeqB (tgt := 22) dX6_firstDay_8 (by decide) (fun h1 => ?_) (fun h1 => ?_)
  · refine kw_iconst dX6_firstDay_22 ⟨by decide, by decide⟩ ?_
    exact kv_ri dX6_firstDay_23 rfl (by first | (unfold sFirstDay; rw [if_neg (by omega)]) | (unfold sFirstDay; rw [if_pos (by omega)])) rfl
  · refine kw_aload_n dX6_firstDay_11 rfl ?_
    refine kv_getR (b := 4) dX6_firstDay_12 kf_X6_19 rfl rfl rfl (hg (0, 1, 4) (by decide)) ?_
    refine kw_iload_n dX6_firstDay_15 rfl ?_
    refine kv_callV1 (M2 := M_X2_hasBough) (As := [kI (b)]) dX6_firstDay_16 ml_X6_97 q_X2_hasBough rfl rfl rfl (Nat.le_of_ble_eq_true rfl) (c_hasBough hg) (by omega) ?_
    refine kv_ifneB (tgt := 24) dX6_firstDay_19 (by decide) (fun h2 => ?_) (fun h2 => ?_)
    · refine kw_aload_n dX6_firstDay_24 rfl ?_
      refine kv_getR (b := 4) dX6_firstDay_25 kf_X6_19 rfl rfl rfl (hg (0, 1, 4) (by decide)) ?_
      refine kw_aload_n dX6_firstDay_28 rfl ?_
      refine kv_getR (b := 10) dX6_firstDay_29 kf_X6_26 rfl rfl rfl (hg (0, 2, 10) (by decide)) ?_
      refine kw_iload_n dX6_firstDay_32 rfl ?_
      refine kw_iload_n dX6_firstDay_33 rfl ?_
      refine kv_callV1 (M2 := M_X2_firstDayFor) (As := [kA (10), kI (i), kI (b)]) dX6_firstDay_34 ml_X6_217 q_X2_firstDayFor rfl rfl rfl (Nat.le_of_ble_eq_true rfl) (c_firstDayFor hg hT hS hR hI hD h28 ⟨by omega, by omega⟩ ⟨by omega, by omega⟩) (by omega) ?_
      exact kv_ri dX6_firstDay_37 rfl (by first | (unfold sFirstDay; rw [if_neg (by omega)]) | (unfold sFirstDay; rw [if_pos (by omega)])) rfl
    · refine kw_iconst dX6_firstDay_22 ⟨by decide, by decide⟩ ?_
      exact kv_ri dX6_firstDay_23 rfl (by first | (unfold sFirstDay; rw [if_neg (by omega)]) | (unfold sFirstDay; rw [if_pos (by omega)])) rfl
