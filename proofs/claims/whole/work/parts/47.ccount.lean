/-! the class: count -/
def kq1 (n : Nat) : Int := ((n / 2 : Nat) : Int)
def kq2 (n : Nat) : Int := ((n / 2 &&& 85 : Nat) : Int)
def kq3 (n : Nat) : Int := (n : Int) - kq2 n
def kq4 (n : Nat) : Int := (((kq3 n).toNat &&& 51 : Nat) : Int)
def kq5 (n : Nat) : Int := (((kq3 n).toNat / 4 : Nat) : Int)
def kq6 (n : Nat) : Int := (((kq5 n).toNat &&& 51 : Nat) : Int)
def kq7 (n : Nat) : Int := kq4 n + kq6 n
def kq8 (n : Nat) : Int := (((kq7 n).toNat / 16 : Nat) : Int)
def kq9 (n : Nat) : Int := kq7 n + kq8 n
def kq10 (n : Nat) : Int := (((kq9 n).toNat &&& 15 : Nat) : Int)
def kq11 (n : Nat) : Int := (((kq10 n).toNat / 256 : Nat) : Int)
def kq12 (n : Nat) : Int := kq10 n + kq11 n
def kq13 (n : Nat) : Int := (((kq12 n).toNat / 65536 : Nat) : Int)
def kq14 (n : Nat) : Int := kq12 n + kq13 n
def kq15 (n : Nat) : Int := (((kq14 n).toNat &&& 63 : Nat) : Int)
abbrev kBc (x : Int) : Int := kbit x 0 + kbit x 1 + kbit x 2 + kbit x 3 + kbit x 4 + kbit x 5 + kbit x 6 + kbit x 7
theorem kbc_1 : ∀ n, n < 256 → ((((Int32.ofInt (((n : Nat) : Int))).toUInt32 >>> ((Int32.ofInt 1).toUInt32 &&& Int32.toUInt32 31)).toInt32 = Int32.ofInt (kq1 n)) ∧ (-2147483648 ≤ kq1 n ∧ kq1 n ≤ 2147483647)) := by decide +kernel
theorem kbc_2 : ∀ n, n < 256 → ((Int32.ofInt (kq1 n) &&& Int32.ofInt 1431655765 = Int32.ofInt (kq2 n)) ∧ (-2147483648 ≤ kq2 n ∧ kq2 n ≤ 2147483647)) := by decide +kernel
theorem kbc_3 : ∀ n, n < 256 → ((True) ∧ (-2147483648 ≤ kq3 n ∧ kq3 n ≤ 2147483647)) := by decide +kernel
theorem kbc_4 : ∀ n, n < 256 → ((Int32.ofInt (kq3 n) &&& Int32.ofInt 858993459 = Int32.ofInt (kq4 n)) ∧ (-2147483648 ≤ kq4 n ∧ kq4 n ≤ 2147483647)) := by decide +kernel
theorem kbc_5 : ∀ n, n < 256 → ((((Int32.ofInt (kq3 n)).toUInt32 >>> ((Int32.ofInt 2).toUInt32 &&& Int32.toUInt32 31)).toInt32 = Int32.ofInt (kq5 n)) ∧ (-2147483648 ≤ kq5 n ∧ kq5 n ≤ 2147483647)) := by decide +kernel
theorem kbc_6 : ∀ n, n < 256 → ((Int32.ofInt (kq5 n) &&& Int32.ofInt 858993459 = Int32.ofInt (kq6 n)) ∧ (-2147483648 ≤ kq6 n ∧ kq6 n ≤ 2147483647)) := by decide +kernel
theorem kbc_7 : ∀ n, n < 256 → ((True) ∧ (-2147483648 ≤ kq7 n ∧ kq7 n ≤ 2147483647)) := by decide +kernel
theorem kbc_8 : ∀ n, n < 256 → ((((Int32.ofInt (kq7 n)).toUInt32 >>> ((Int32.ofInt 4).toUInt32 &&& Int32.toUInt32 31)).toInt32 = Int32.ofInt (kq8 n)) ∧ (-2147483648 ≤ kq8 n ∧ kq8 n ≤ 2147483647)) := by decide +kernel
theorem kbc_9 : ∀ n, n < 256 → ((True) ∧ (-2147483648 ≤ kq9 n ∧ kq9 n ≤ 2147483647)) := by decide +kernel
theorem kbc_10 : ∀ n, n < 256 → ((Int32.ofInt (kq9 n) &&& Int32.ofInt 252645135 = Int32.ofInt (kq10 n)) ∧ (-2147483648 ≤ kq10 n ∧ kq10 n ≤ 2147483647)) := by decide +kernel
theorem kbc_11 : ∀ n, n < 256 → ((((Int32.ofInt (kq10 n)).toUInt32 >>> ((Int32.ofInt 8).toUInt32 &&& Int32.toUInt32 31)).toInt32 = Int32.ofInt (kq11 n)) ∧ (-2147483648 ≤ kq11 n ∧ kq11 n ≤ 2147483647)) := by decide +kernel
theorem kbc_12 : ∀ n, n < 256 → ((True) ∧ (-2147483648 ≤ kq12 n ∧ kq12 n ≤ 2147483647)) := by decide +kernel
theorem kbc_13 : ∀ n, n < 256 → ((((Int32.ofInt (kq12 n)).toUInt32 >>> ((Int32.ofInt 16).toUInt32 &&& Int32.toUInt32 31)).toInt32 = Int32.ofInt (kq13 n)) ∧ (-2147483648 ≤ kq13 n ∧ kq13 n ≤ 2147483647)) := by decide +kernel
theorem kbc_14 : ∀ n, n < 256 → ((True) ∧ (-2147483648 ≤ kq14 n ∧ kq14 n ≤ 2147483647)) := by decide +kernel
theorem kbc_15 : ∀ n, n < 256 → ((Int32.ofInt (kq14 n) &&& Int32.ofInt 63 = Int32.ofInt (kq15 n)) ∧ (-2147483648 ≤ kq15 n ∧ kq15 n ≤ 2147483647)) := by decide +kernel
theorem kbc_e : ∀ n, n < 256 → kq15 n = kBc (n : Int) := by decide +kernel
theorem c_bitCount {E : kEnv} {h : kH} {x : Int} (hx : 0 ≤ x ∧ x < 256) : kF E 0 M_J6_bitCount_0f7a4 [kI x] h (some (kI (kBc x))) h := by
  obtain ⟨n, rfl⟩ := Int.eq_ofNat_of_zero_le hx.1
  have hn : n < 256 := by omega
  refine kF_of (by decide) (by simp [k_one]) (Nat.le_of_ble_eq_true rfl) (L := [some (kI n)]) rfl ?_
  refine kw_iload_n dJ6_bitCount_0f7a4_0 rfl ?_
  refine kw_iload_n dJ6_bitCount_0f7a4_1 rfl ?_
  refine kw_iconst dJ6_bitCount_0f7a4_2 ⟨by decide, by decide⟩ ?_
  refine kw_iushrG dJ6_bitCount_0f7a4_3 (z := kq1 n) (kbc_1 n hn).2 (kbc_1 n hn).1 ?_
  refine kw_ldcw dJ6_bitCount_0f7a4_4 (z := 1431655765) kc_J6_265 ⟨by decide, by decide⟩ ?_
  refine kw_iandG dJ6_bitCount_0f7a4_7 (z := kq2 n) (kbc_2 n hn).2 (kbc_2 n hn).1 ?_
  refine kw_isub dJ6_bitCount_0f7a4_8 (kbc_3 n hn).2 ?_
  refine (show kW _ _ _ _ _ _ _ (kI (kq3 n) :: _) _ _ from ?_)
  refine kw_istore_n dJ6_bitCount_0f7a4_9 (by decide) trivial (L2 := [some (kI (kq3 n))]) rfl ?_
  refine kw_iload_n dJ6_bitCount_0f7a4_10 rfl ?_
  refine kw_ldcw dJ6_bitCount_0f7a4_11 (z := 858993459) kc_J6_266 ⟨by decide, by decide⟩ ?_
  refine kw_iandG dJ6_bitCount_0f7a4_14 (z := kq4 n) (kbc_4 n hn).2 (kbc_4 n hn).1 ?_
  refine kw_iload_n dJ6_bitCount_0f7a4_15 rfl ?_
  refine kw_iconst dJ6_bitCount_0f7a4_16 ⟨by decide, by decide⟩ ?_
  refine kw_iushrG dJ6_bitCount_0f7a4_17 (z := kq5 n) (kbc_5 n hn).2 (kbc_5 n hn).1 ?_
  refine kw_ldcw dJ6_bitCount_0f7a4_18 (z := 858993459) kc_J6_266 ⟨by decide, by decide⟩ ?_
  refine kw_iandG dJ6_bitCount_0f7a4_21 (z := kq6 n) (kbc_6 n hn).2 (kbc_6 n hn).1 ?_
  refine kw_iadd dJ6_bitCount_0f7a4_22 (kbc_7 n hn).2 ?_
  refine (show kW _ _ _ _ _ _ _ (kI (kq7 n) :: _) _ _ from ?_)
  refine kw_istore_n dJ6_bitCount_0f7a4_23 (by decide) trivial (L2 := [some (kI (kq7 n))]) rfl ?_
  refine kw_iload_n dJ6_bitCount_0f7a4_24 rfl ?_
  refine kw_iload_n dJ6_bitCount_0f7a4_25 rfl ?_
  refine kw_iconst dJ6_bitCount_0f7a4_26 ⟨by decide, by decide⟩ ?_
  refine kw_iushrG dJ6_bitCount_0f7a4_27 (z := kq8 n) (kbc_8 n hn).2 (kbc_8 n hn).1 ?_
  refine kw_iadd dJ6_bitCount_0f7a4_28 (kbc_9 n hn).2 ?_
  refine (show kW _ _ _ _ _ _ _ (kI (kq9 n) :: _) _ _ from ?_)
  refine kw_ldcw dJ6_bitCount_0f7a4_29 (z := 252645135) kc_J6_267 ⟨by decide, by decide⟩ ?_
  refine kw_iandG dJ6_bitCount_0f7a4_32 (z := kq10 n) (kbc_10 n hn).2 (kbc_10 n hn).1 ?_
  refine kw_istore_n dJ6_bitCount_0f7a4_33 (by decide) trivial (L2 := [some (kI (kq10 n))]) rfl ?_
  refine kw_iload_n dJ6_bitCount_0f7a4_34 rfl ?_
  refine kw_iload_n dJ6_bitCount_0f7a4_35 rfl ?_
  refine kw_bipush dJ6_bitCount_0f7a4_36 (by decide) (by decide) ?_
  refine kw_iushrG dJ6_bitCount_0f7a4_38 (z := kq11 n) (kbc_11 n hn).2 (kbc_11 n hn).1 ?_
  refine kw_iadd dJ6_bitCount_0f7a4_39 (kbc_12 n hn).2 ?_
  refine (show kW _ _ _ _ _ _ _ (kI (kq12 n) :: _) _ _ from ?_)
  refine kw_istore_n dJ6_bitCount_0f7a4_40 (by decide) trivial (L2 := [some (kI (kq12 n))]) rfl ?_
  refine kw_iload_n dJ6_bitCount_0f7a4_41 rfl ?_
  refine kw_iload_n dJ6_bitCount_0f7a4_42 rfl ?_
  refine kw_bipush dJ6_bitCount_0f7a4_43 (by decide) (by decide) ?_
  refine kw_iushrG dJ6_bitCount_0f7a4_45 (z := kq13 n) (kbc_13 n hn).2 (kbc_13 n hn).1 ?_
  refine kw_iadd dJ6_bitCount_0f7a4_46 (kbc_14 n hn).2 ?_
  refine (show kW _ _ _ _ _ _ _ (kI (kq14 n) :: _) _ _ from ?_)
  refine kw_istore_n dJ6_bitCount_0f7a4_47 (by decide) trivial (L2 := [some (kI (kq14 n))]) rfl ?_
  refine kw_iload_n dJ6_bitCount_0f7a4_48 rfl ?_
  refine kw_bipush dJ6_bitCount_0f7a4_49 (by decide) (by decide) ?_
  refine kw_iandG dJ6_bitCount_0f7a4_51 (z := kq15 n) (kbc_15 n hn).2 (kbc_15 n hn).1 ?_
  exact kv_ri dJ6_bitCount_0f7a4_52 rfl (kbc_e n hn) rfl
theorem kBc_gsum {T s : Int → Int} (hT : mTO T) (h : mSO T s) : kBc (gsum s) = sGn s (T 0).toNat := by
  have n0 := hT.1
  have q : ∀ k : Nat, (T 0).toNat + k ≤ 8 → sGn s ((T 0).toNat + k) = sGn s (T 0).toNat := by
    intro k
    induction k with
    | zero => intro _; rfl
    | succ k ih =>
      intro hk
      rw [← Nat.add_assoc, sGn, ih (by omega), (h.1 (((T 0).toNat + k : Nat) : Int) (by omega) (by omega)).2 (by omega)]
      omega
  have q8 := q (8 - (T 0).toNat) (by omega)
  rw [show (T 0).toNat + (8 - (T 0).toNat) = 8 by omega] at q8
  rw [← q8]
  unfold kBc
  rw [gsum_bit h (b := 0) (by omega), gsum_bit h (b := 1) (by omega), gsum_bit h (b := 2) (by omega), gsum_bit h (b := 3) (by omega), gsum_bit h (b := 4) (by omega), gsum_bit h (b := 5) (by omega), gsum_bit h (b := 6) (by omega), gsum_bit h (b := 7) (by omega)]
  simp only [sGn]
  simp
theorem c_count {E : kEnv} {w : List (Nat × Nat)} {f : Nat → Int → Int} {g : Nat → Int → Option Nat} {T s : Int → Int} {v : Int} (hg : kG g) (hT : mTO T) (hS : mSO T s) (hR : RF T f) (hI : Sim T f 10 s) (hD : ∀ b, 0 ≤ b → b < T 0 → f 11 b = s b) (h28 : 0 ≤ s 28 ∧ s 28 ≤ 99) : kF E 1 M_X6_count [kA (0), kI (v)] ((kMC ++ w), f, g) (some (kI (sCount T s (f 12 1) (f 30 1) (f 1 2) v))) ((kMC ++ w), f, g) := by
  refine kF_of (by decide) (by simp [k_one]) (Nat.le_of_ble_eq_true rfl) (L := [some (kA (0)), some (kI (v))]) rfl ?_
  have hF := RF_FO hT hR
  have n0 := hT.1
  have n1 := hT.2.1
  have r0 := hR.1
  have r1 := hR.2.1
  have hSO := Sim_SO hT hS hR hI (by omega)
  have e28 := hI.1
  have e2 := hI.2.1
  have sg := hSO.2.1
  have k1 := hR.2.2.1
  have k2 := hR.2.2.2.1
  have k3 := hR.2.2.2.2.1
  refine kw_iload_n dX6_count_0 rfl ?_
  rcases (show v = 0 ∨ v = 1 ∨ v = 2 ∨ v = 3 ∨ v = 4 ∨ v = 5 ∨ v = 6 ∨ v = 7 ∨ v = 8 ∨ v = 9 ∨ (v < 0 ∨ 9 < v) by omega) with h1 | h1 | h1 | h1 | h1 | h1 | h1 | h1 | h1 | h1 | h1
  · refine kw_tblIn (off := 55) (tgt := 56) dX6_count_1 (by omega) (by omega) (by rw [h1]; rfl) (by decide) ?_
    refine kw_aload_n dX6_count_56 rfl ?_
    refine kv_getR (b := 4) dX6_count_57 kf_X6_19 rfl rfl rfl (hg (0, 1, 4) (by decide)) ?_
    refine kv_getI (kz := 5) dX6_count_60 kf_X6_94 rfl rfl rfl rfl ?_
    refine kv_ri dX6_count_63 rfl (Eq.symm ?_) rfl
    unfold sCount
    repeat rw [if_neg (by omega)]
    try rw [if_pos (by omega)]
    all_goals first
      | rfl
      | omega
      | (rw [e2]; exact (kBc_gsum hT hS).symm)
  · refine kw_tblIn (off := 63) (tgt := 64) dX6_count_1 (by omega) (by omega) (by rw [h1]; rfl) (by decide) ?_
    refine kw_aload_n dX6_count_64 rfl ?_
    refine kv_getR (b := 4) dX6_count_65 kf_X6_19 rfl rfl rfl (hg (0, 1, 4) (by decide)) ?_
    refine kv_getI (kz := 6) dX6_count_68 kf_X6_227 rfl rfl rfl rfl ?_
    refine kv_ri dX6_count_71 rfl (Eq.symm ?_) rfl
    unfold sCount
    repeat rw [if_neg (by omega)]
    try rw [if_pos (by omega)]
    all_goals first
      | rfl
      | omega
      | (rw [e2]; exact (kBc_gsum hT hS).symm)
  · refine kw_tblIn (off := 71) (tgt := 72) dX6_count_1 (by omega) (by omega) (by rw [h1]; rfl) (by decide) ?_
    refine kw_aload_n dX6_count_72 rfl ?_
    refine kv_getR (b := 10) dX6_count_73 kf_X6_26 rfl rfl rfl (hg (0, 2, 10) (by decide)) ?_
    refine kv_getI (kz := 1) dX6_count_76 kf_X6_114 rfl rfl rfl rfl ?_
    refine kv_ri dX6_count_79 rfl (Eq.symm ?_) rfl
    unfold sCount
    repeat rw [if_neg (by omega)]
    try rw [if_pos (by omega)]
    all_goals first
      | rfl
      | omega
      | (rw [e2]; exact (kBc_gsum hT hS).symm)
  · refine kw_tblIn (off := 79) (tgt := 80) dX6_count_1 (by omega) (by omega) (by rw [h1]; rfl) (by decide) ?_
    refine kw_aload_n dX6_count_80 rfl ?_
    refine kv_getR (b := 4) dX6_count_81 kf_X6_19 rfl rfl rfl (hg (0, 1, 4) (by decide)) ?_
    refine kv_getI (kz := 7) dX6_count_84 kf_X6_234 rfl rfl rfl rfl ?_
    refine kv_ri dX6_count_87 rfl (Eq.symm ?_) rfl
    unfold sCount
    repeat rw [if_neg (by omega)]
    try rw [if_pos (by omega)]
    all_goals first
      | rfl
      | omega
      | (rw [e2]; exact (kBc_gsum hT hS).symm)
  · refine kw_tblIn (off := 87) (tgt := 88) dX6_count_1 (by omega) (by omega) (by rw [h1]; rfl) (by decide) ?_
    refine kw_aload_n dX6_count_88 rfl ?_
    refine kv_getR (b := 4) dX6_count_89 kf_X6_19 rfl rfl rfl (hg (0, 1, 4) (by decide)) ?_
    refine kv_getI (kz := 8) dX6_count_92 kf_X6_253 rfl rfl rfl rfl ?_
    refine kv_ri dX6_count_95 rfl (Eq.symm ?_) rfl
    unfold sCount
    repeat rw [if_neg (by omega)]
    try rw [if_pos (by omega)]
    all_goals first
      | rfl
      | omega
      | (rw [e2]; exact (kBc_gsum hT hS).symm)
  · refine kw_tblIn (off := 95) (tgt := 96) dX6_count_1 (by omega) (by omega) (by rw [h1]; rfl) (by decide) ?_
    refine kw_aload_n dX6_count_96 rfl ?_
    refine kv_getR (b := 4) dX6_count_97 kf_X6_19 rfl rfl rfl (hg (0, 1, 4) (by decide)) ?_
    refine kv_getI (kz := 9) dX6_count_100 kf_X6_256 rfl rfl rfl rfl ?_
    refine kv_ri dX6_count_103 rfl (Eq.symm ?_) rfl
    unfold sCount
    repeat rw [if_neg (by omega)]
    try rw [if_pos (by omega)]
    all_goals first
      | rfl
      | omega
      | (rw [e2]; exact (kBc_gsum hT hS).symm)
  · refine kw_tblIn (off := 103) (tgt := 104) dX6_count_1 (by omega) (by omega) (by rw [h1]; rfl) (by decide) ?_
    refine kw_aload_n dX6_count_104 rfl ?_
    refine kv_getR (b := 10) dX6_count_105 kf_X6_26 rfl rfl rfl (hg (0, 2, 10) (by decide)) ?_
    refine kv_getI (kz := 2) dX6_count_108 kf_X6_221 rfl rfl rfl rfl ?_
    refine kv_callS1 (M2 := M_J6_bitCount_0f7a4) (As := [kI (f 10 2)]) dX6_count_111 ml_X6_259 q_J6_bitCount_0f7a4 rfl (Nat.le_of_ble_eq_true rfl) (c_bitCount ⟨by omega, by omega⟩) (by omega) ?_
    refine kv_ri dX6_count_114 rfl (Eq.symm ?_) rfl
    unfold sCount
    repeat rw [if_neg (by omega)]
    try rw [if_pos (by omega)]
    all_goals first
      | rfl
      | omega
      | (rw [e2]; exact (kBc_gsum hT hS).symm)
  · refine kw_tblIn (off := 114) (tgt := 115) dX6_count_1 (by omega) (by omega) (by rw [h1]; rfl) (by decide) ?_
    refine kw_aload_n dX6_count_115 rfl ?_
    refine kv_getR (b := 12) dX6_count_116 kf_X6_35 rfl rfl rfl (hg (0, 3, 12) (by decide)) ?_
    refine kv_getI (kz := 1) dX6_count_119 kf_X6_179 rfl rfl rfl rfl ?_
    refine kv_ri dX6_count_122 rfl (Eq.symm ?_) rfl
    unfold sCount
    repeat rw [if_neg (by omega)]
    try rw [if_pos (by omega)]
    all_goals first
      | rfl
      | omega
      | (rw [e2]; exact (kBc_gsum hT hS).symm)
  · refine kw_tblIn (off := 122) (tgt := 123) dX6_count_1 (by omega) (by omega) (by rw [h1]; rfl) (by decide) ?_
    refine kw_aload_n dX6_count_123 rfl ?_
    refine kv_getR (b := 30) dX6_count_124 kf_X6_39 rfl rfl rfl (hg (0, 4, 30) (by decide)) ?_
    refine kv_getI (kz := 1) dX6_count_127 kf_X6_179 rfl rfl rfl rfl ?_
    refine kv_ri dX6_count_130 rfl (Eq.symm ?_) rfl
    unfold sCount
    repeat rw [if_neg (by omega)]
    try rw [if_pos (by omega)]
    all_goals first
      | rfl
      | omega
      | (rw [e2]; exact (kBc_gsum hT hS).symm)
  · refine kw_tblIn (off := 130) (tgt := 131) dX6_count_1 (by omega) (by omega) (by rw [h1]; rfl) (by decide) ?_
    refine kw_aload_n dX6_count_131 rfl ?_
    refine kv_getR (b := 1) dX6_count_132 kf_X6_10 rfl rfl rfl (hg (0, 0, 1) (by decide)) ?_
    refine kv_getI (kz := 2) dX6_count_135 kf_X6_68 rfl rfl rfl rfl ?_
    refine kv_ri dX6_count_138 rfl (Eq.symm ?_) rfl
    unfold sCount
    repeat rw [if_neg (by omega)]
    try rw [if_pos (by omega)]
    all_goals first
      | rfl
      | omega
      | (rw [e2]; exact (kBc_gsum hT hS).symm)
  · refine kw_tblOut (tgt := 139) dX6_count_1 (by omega) (by decide) ?_
    refine kw_iconst dX6_count_139 ⟨by decide, by decide⟩ ?_
    refine kv_ri dX6_count_140 rfl (Eq.symm ?_) rfl
    unfold sCount
    repeat rw [if_neg (by omega)]
    try rw [if_pos (by omega)]
    all_goals first
      | rfl
      | omega
      | (rw [e2]; exact (kBc_gsum hT hS).symm)
