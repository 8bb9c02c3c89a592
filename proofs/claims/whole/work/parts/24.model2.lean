/-! the model's loops: each for himself, warm -/
theorem mRow_s {T s : Int → Int} {i b : Int} (h : 0 ≤ b) : mRow T i (b + 1).toNat s = mStep T (mRow T i b.toNat s) i b := by
  rw [show (b + 1).toNat = b.toNat + 1 by omega, mRow, k_nat h]
theorem mEachN_s {T s : Int → Int} {i : Int} (h : 0 ≤ i) : mEachN T (i + 1).toNat s = mRow T i (T 0).toNat (mEachN T i.toNat s) := by
  rw [show (i + 1).toNat = i.toNat + 1 by omega, mEachN, k_nat h]
theorem mBits_s {T s : Int → Int} {i : Int} (h : 0 ≤ i) : mBits T s (i + 1).toNat = mBits T s i.toNat + (if mWarm T s i then 2 ^ i.toNat else 0) := by
  rw [show (i + 1).toNat = i.toNat + 1 by omega, mBits, k_nat h]
theorem mStep_t {T s : Int → Int} {i b : Int} (h1 : ¬ mWarm T s i) (h2 : mCan T s i b) : mStep T s i b = mTakes T s i b := if_pos ⟨h1, h2⟩
theorem mStep_f {T s : Int → Int} {i b : Int} (h : ¬ (¬ mWarm T s i ∧ mCan T s i b)) : mStep T s i b = s := if_neg h
theorem mBits_lt {T s : Int → Int} : ∀ n : Nat, 0 ≤ mBits T s n ∧ mBits T s n < 2 ^ n
  | 0 => by simp [mBits]
  | n + 1 => by
    have ih := mBits_lt (T := T) (s := s) n
    have h2 : (2 : Int) ^ (n + 1) = 2 ^ n + 2 ^ n := by rw [Int.pow_succ]; omega
    rw [mBits, h2]
    split <;> omega
theorem mBits_bit {T s : Int → Int} {n : Nat} : kbit (mBits T s n) n = 0 := by
  have h := mBits_lt (T := T) (s := s) n
  unfold kbit
  rw [Int.toNat_natCast, Int.ediv_eq_zero_of_lt h.1 h.2]
  rfl
theorem k_pow4 : ∀ n : Nat, n ≤ 4 → (2 : Int) ^ n ≤ 16 := by decide
theorem l_meach1 {E : kEnv} {f : Nat → Int → Int} {s : Int → Int} {g : Nat → Int → Option Nat} {d : Nat} {i : Int} {Q : Option kV → kH → Prop} (hd : 3 ≤ d) (hm : kGM g) (hT : mTO (f 47)) (hS0 : mSO (f 47) s) (hi : 0 ≤ i ∧ i < f 47 1) (hx : kW E d 0 0 M_X7_eachTakes 53 [some (kA 45), some (kI i), some (kI (f 47 0))] [] ((kMC ++ kMM), kst f 50 (mRow (f 47) i (f 47 0).toNat s), g) Q) : ∀ (n : Nat) (b : Int), (0 ≤ b ∧ b ≤ f 47 0) → (f 47 0 - b).toNat < n → kW E d 0 0 M_X7_eachTakes 14 [some (kA 45), some (kI i), some (kI b)] [] ((kMC ++ kMM), kst f 50 (mRow (f 47) i b.toNat s), g) Q := by
  intro n
  induction n with
  | zero => intro b _ y; omega
  | succ n ih =>
    intro b y0 y1
    have n0 := hT.1
    have n1 := hT.2.1
    have hS := mSO_row hT hS0 hi b.toNat (by omega)
    refine kw_iload_n dX7_eachTakes_14 rfl ?_
    refine kw_aload_n dX7_eachTakes_15 rfl ?_
    refine kv_getR (b := 47) dX7_eachTakes_16 kf_X7_13 rfl rfl rfl (hm (45, 2, 47) (by decide)) ?_
    refine kw_iconst dX7_eachTakes_19 ⟨by decide, by decide⟩ ?_
    refine kv_iald dX7_eachTakes_20 rfl (by omega) (by omega) (congrFun (kst_ne (by decide)) _) ?_
    refine kw_icmp_ge (tgt := 53) dX7_eachTakes_21 (by decide) (fun h1 => ?_) (fun h1 => ?_)
    · have e1 : b = f 47 0 := by omega
      subst e1
      exact hx
    · refine kw_aload_n dX7_eachTakes_24 rfl ?_
      refine kw_iload_n dX7_eachTakes_25 rfl ?_
      refine kv_callV1 (M2 := M_X7_isWarm) (As := [kI (i)]) dX7_eachTakes_26 ml_X7_103 q_X7_isWarm rfl rfl rfl (Nat.le_of_ble_eq_true rfl) (c_misWarm hm (by omega)) (by omega) ?_
      refine kv_ifneB (tgt := 47) dX7_eachTakes_29 (by decide) (fun h2 => ?_) (fun h2 => ?_)
      · refine kw_iinc dX7_eachTakes_47 (by decide) rfl ⟨by omega, by omega⟩ trivial (L2 := [some (kA (45)), some (kI (i)), some (kI (b + 1))]) rfl ?_
        refine kw_goto (tgt := 14) dX7_eachTakes_50 (by decide) ?_
        have e1 : mRow (f 47) i (b + 1).toNat s = mRow (f 47) i b.toNat s := by
          rw [mRow_s y0.1]
          first | exact mStep_t h2 h3 | exact mStep_f (fun z => z.1 h2) | exact mStep_f (fun z => h3 z.2)
        rw [← e1]
        exact ih (b + 1) ⟨by omega, by omega⟩ (by omega)
      · refine kw_aload_n dX7_eachTakes_32 rfl ?_
        refine kw_iload_n dX7_eachTakes_33 rfl ?_
        refine kw_iload_n dX7_eachTakes_34 rfl ?_
        refine kv_callV1 (M2 := M_X7_canNow) (As := [kI (i), kI (b)]) dX7_eachTakes_35 ml_X7_110 q_X7_canNow rfl rfl rfl (Nat.le_of_ble_eq_true rfl) (c_mcanNow hm hT hS ⟨by omega, by omega⟩ ⟨by omega, by omega⟩) (by omega) ?_
        refine kv_ifeqB (tgt := 47) dX7_eachTakes_38 (by decide) (fun h3 => ?_) (fun h3 => ?_)
        · refine kw_iinc dX7_eachTakes_47 (by decide) rfl ⟨by omega, by omega⟩ trivial (L2 := [some (kA (45)), some (kI (i)), some (kI (b + 1))]) rfl ?_
          refine kw_goto (tgt := 14) dX7_eachTakes_50 (by decide) ?_
          have e1 : mRow (f 47) i (b + 1).toNat s = mRow (f 47) i b.toNat s := by
            rw [mRow_s y0.1]
            first | exact mStep_t h2 h3 | exact mStep_f (fun z => z.1 h2) | exact mStep_f (fun z => h3 z.2)
          rw [← e1]
          exact ih (b + 1) ⟨by omega, by omega⟩ (by omega)
        · refine kw_aload_n dX7_eachTakes_41 rfl ?_
          refine kw_iload_n dX7_eachTakes_42 rfl ?_
          refine kw_iload_n dX7_eachTakes_43 rfl ?_
          refine kv_callV0 (M2 := M_X7_takes) (As := [kI (i), kI (b)]) dX7_eachTakes_44 ml_X7_116 q_X7_takes rfl rfl rfl (Nat.le_of_ble_eq_true rfl) (c_mtakes hm hT hS ⟨by omega, by omega⟩ ⟨by omega, by omega⟩) (by omega) ?_
          refine kw_iinc dX7_eachTakes_47 (by decide) rfl ⟨by omega, by omega⟩ trivial (L2 := [some (kA (45)), some (kI (i)), some (kI (b + 1))]) rfl ?_
          refine kw_goto (tgt := 14) dX7_eachTakes_50 (by decide) ?_
          have e1 : mRow (f 47) i (b + 1).toNat s = mTakes (f 47) (mRow (f 47) i b.toNat s) i b := by
            rw [mRow_s y0.1]
            first | exact mStep_t h2 h3 | exact mStep_f (fun z => z.1 h2) | exact mStep_f (fun z => h3 z.2)
          rw [← e1]
          exact ih (b + 1) ⟨by omega, by omega⟩ (by omega)
theorem l_meach2 {E : kEnv} {f : Nat → Int → Int} {s : Int → Int} {g : Nat → Int → Option Nat} (hm : kGM g) (hT : mTO (f 47)) (hS0 : mSO (f 47) s) : ∀ (n : Nat) (i : Int) (o : Option kV), (0 ≤ i ∧ i ≤ f 47 1) → (f 47 1 - i).toNat < n → kW E 3 0 0 M_X7_eachTakes 2 [some (kA 45), some (kI i), o] [] ((kMC ++ kMM), kst f 50 (mEachN (f 47) i.toNat s), g) (fun r h' => r = none ∧ h' = ((kMC ++ kMM), kst f 50 (mEach (f 47) s), g)) := by
  intro n
  induction n with
  | zero => intro i o _ y; omega
  | succ n ih =>
    intro i o y0 y1
    have n0 := hT.1
    have n1 := hT.2.1
    have hS := mSO_eachN hT hS0 i.toNat (by omega)
    refine kw_iload_n dX7_eachTakes_2 rfl ?_
    refine kw_aload_n dX7_eachTakes_3 rfl ?_
    refine kv_getR (b := 47) dX7_eachTakes_4 kf_X7_13 rfl rfl rfl (hm (45, 2, 47) (by decide)) ?_
    refine kw_iconst dX7_eachTakes_7 ⟨by decide, by decide⟩ ?_
    refine kv_iald dX7_eachTakes_8 rfl (by omega) (by omega) (congrFun (kst_ne (by decide)) _) ?_
    refine kw_icmp_ge (tgt := 59) dX7_eachTakes_9 (by decide) (fun h1 => ?_) (fun h1 => ?_)
    · exact kv_rv dX7_eachTakes_59 rfl (by rw [show i = f 47 1 by omega]; rfl)
    · refine kw_iconst dX7_eachTakes_12 ⟨by decide, by decide⟩ ?_
      refine kw_istore_n dX7_eachTakes_13 (by decide) trivial (L2 := [some (kA (45)), some (kI (i)), some (kI (0))]) rfl ?_
      refine l_meach1 (by omega) hm hT hS ⟨by omega, by omega⟩ ?_ _ 0 ⟨by omega, by omega⟩ (Nat.lt_succ_self _)
      refine kw_iinc dX7_eachTakes_53 (by decide) rfl ⟨by omega, by omega⟩ trivial (L2 := [some (kA 45), some (kI (i + 1)), some (kI (f 47 0))]) rfl ?_
      refine kw_goto (tgt := 2) dX7_eachTakes_56 (by decide) ?_
      rw [← mEachN_s y0.1]
      exact ih (i + 1) _ ⟨by omega, by omega⟩ (by omega)
theorem c_meach {E : kEnv} {f : Nat → Int → Int} {s : Int → Int} {g : Nat → Int → Option Nat}  (hm : kGM g) (hT : mTO (f 47)) (hS : mSO (f 47) s) : kF E 3 M_X7_eachTakes [kA (45)] ((kMC ++ kMM), kst f 50 s, g) (none) ((kMC ++ kMM), kst f 50 (mEach (f 47) s), g) := by
  refine kF_of (by decide) (by simp [k_one]) (Nat.le_of_ble_eq_true rfl) (L := [some (kA (45)), none, none]) rfl ?_
  have n0 := hT.1
  have n1 := hT.2.1
  refine kw_iconst dX7_eachTakes_0 ⟨by decide, by decide⟩ ?_
  refine kw_istore_n dX7_eachTakes_1 (by decide) trivial (L2 := [some (kA (45)), some (kI (0)), none]) rfl ?_
  exact l_meach2 hm hT hS _ 0 none ⟨by omega, by omega⟩ (Nat.lt_succ_self _)
theorem l_mwarm {E : kEnv} {f : Nat → Int → Int} {s : Int → Int} {g : Nat → Int → Option Nat} (hm : kGM g) (hT : mTO (f 47)) : ∀ (n : Nat) (i : Int), (0 ≤ i ∧ i ≤ f 47 1) → (f 47 1 - i).toNat < n → kW E 1 0 0 M_X7_warm 4 [some (kA 45), some (kI (mBits (f 47) s i.toNat)), some (kI i)] [] ((kMC ++ kMM), kst f 50 s, g) (fun r h' => r = some (kI (mBit (f 47) s)) ∧ h' = ((kMC ++ kMM), kst f 50 s, g)) := by
  intro n
  induction n with
  | zero => intro i _ y; omega
  | succ n ih =>
    intro i y0 y1
    have n0 := hT.1
    have n1 := hT.2.1
    have hl := mBits_lt (T := f 47) (s := s) i.toNat
    have hp := k_pow4 i.toNat (by omega)
    refine kw_iload_n dX7_warm_4 rfl ?_
    refine kw_aload_n dX7_warm_5 rfl ?_
    refine kv_getR (b := 47) dX7_warm_6 kf_X7_13 rfl rfl rfl (hm (45, 2, 47) (by decide)) ?_
    refine kw_iconst dX7_warm_9 ⟨by decide, by decide⟩ ?_
    refine kv_iald dX7_warm_10 rfl (by omega) (by omega) (congrFun (kst_ne (by decide)) _) ?_
    refine kw_icmp_ge (tgt := 38) dX7_warm_11 (by decide) (fun h1 => ?_) (fun h1 => ?_)
    · refine kw_iload_n dX7_warm_38 rfl ?_
      exact kv_ri dX7_warm_39 rfl (by rw [show i = f 47 1 by omega]; rfl) rfl
    · refine kw_iload_n dX7_warm_14 rfl ?_
      refine kw_aload_n dX7_warm_15 rfl ?_
      refine kw_iload_n dX7_warm_16 rfl ?_
      refine kv_callV1 (M2 := M_X7_isWarm) (As := [kI (i)]) dX7_warm_17 ml_X7_103 q_X7_isWarm rfl rfl rfl (Nat.le_of_ble_eq_true rfl) (c_misWarm hm (by omega)) (by omega) ?_
      refine kv_ifeqB (tgt := 29) dX7_warm_20 (by decide) (fun h2 => ?_) (fun h2 => ?_)
      · refine kw_iconst dX7_warm_29 ⟨by decide, by decide⟩ ?_
        refine kv_or0 dX7_warm_30 ?_
        refine kw_istore_n dX7_warm_31 (by decide) trivial (L2 := [some (kA (45)), some (kI (mBits (f 47) s i.toNat)), some (kI (i))]) rfl ?_
        refine kw_iinc dX7_warm_32 (by decide) rfl ⟨by omega, by omega⟩ trivial (L2 := [some (kA (45)), some (kI (mBits (f 47) s i.toNat)), some (kI (i + 1))]) rfl ?_
        refine kw_goto (tgt := 4) dX7_warm_35 (by decide) ?_
        have e1 := mBits_s (T := f 47) (s := s) y0.1
        first | rw [if_pos h2] at e1 | rw [if_neg h2, Int.add_zero] at e1
        rw [← e1]
        exact ih (i + 1) ⟨by omega, by omega⟩ (by omega)
      · refine kw_iconst dX7_warm_23 ⟨by decide, by decide⟩ ?_
        refine kw_iload_n dX7_warm_24 rfl ?_
        refine kv_shl1 dX7_warm_25 (by omega) (by omega) ?_
        refine kw_goto (tgt := 30) dX7_warm_26 (by decide) ?_
        refine kv_orb (b := i) dX7_warm_30 (by omega) (by omega) (by omega) (by omega) (by rw [← k_nat y0.1]; simp only [Int.toNat_natCast]; exact mBits_bit) ?_
        refine kw_istore_n dX7_warm_31 (by decide) trivial (L2 := [some (kA (45)), some (kI ((mBits (f 47) s i.toNat) + 2 ^ i.toNat)), some (kI (i))]) rfl ?_
        refine kw_iinc dX7_warm_32 (by decide) rfl ⟨by omega, by omega⟩ trivial (L2 := [some (kA (45)), some (kI ((mBits (f 47) s i.toNat) + 2 ^ i.toNat)), some (kI (i + 1))]) rfl ?_
        refine kw_goto (tgt := 4) dX7_warm_35 (by decide) ?_
        have e1 := mBits_s (T := f 47) (s := s) y0.1
        first | rw [if_pos h2] at e1 | rw [if_neg h2, Int.add_zero] at e1
        rw [← e1]
        exact ih (i + 1) ⟨by omega, by omega⟩ (by omega)
theorem c_mwarm {E : kEnv} {f : Nat → Int → Int} {s : Int → Int} {g : Nat → Int → Option Nat}  (hm : kGM g) (hT : mTO (f 47)) : kF E 1 M_X7_warm [kA (45)] ((kMC ++ kMM), kst f 50 s, g) (some (kI (mBit (f 47) s))) ((kMC ++ kMM), kst f 50 s, g) := by
  refine kF_of (by decide) (by simp [k_one]) (Nat.le_of_ble_eq_true rfl) (L := [some (kA (45)), none, none]) rfl ?_
  have n0 := hT.1
  have n1 := hT.2.1
  refine kw_iconst dX7_warm_0 ⟨by decide, by decide⟩ ?_
  refine kw_istore_n dX7_warm_1 (by decide) trivial (L2 := [some (kA (45)), some (kI (0)), none]) rfl ?_
  refine kw_iconst dX7_warm_2 ⟨by decide, by decide⟩ ?_
  refine kw_istore_n dX7_warm_3 (by decide) trivial (L2 := [some (kA (45)), some (kI (0)), some (kI (0))]) rfl ?_
  exact l_mwarm hm hT _ 0 ⟨by omega, by omega⟩ (Nat.lt_succ_self _)
theorem mSO_at {T s : Int → Int} (hT : mTO T) (h : mSO T s) : ∀ n : Nat, mSO T (mAt T n s)
  | 0 => h
  | n + 1 => mSO_pass hT (mSO_each hT (mSO_at hT h n))
theorem mAt_28 {T s : Int → Int} (hT : mTO T) : ∀ n : Nat, mAt T n s 28 = s 28 + n
  | 0 => by simp [mAt]
  | n + 1 => by rw [mAt, mPass_d, mEach_28 hT, mAt_28 hT n]; omega
theorem l_mwarmAt {E : kEnv} {f : Nat → Int → Int} {s : Int → Int} {g : Nat → Int → Option Nat} {d : Int} (hm : kGM g) (hT : mTO (f 47)) (hS0 : mSO (f 47) s) (hd : 0 ≤ s 28 ∧ s 28 ≤ d ∧ d ≤ 99) : ∀ (n k : Nat), (k : Int) ≤ d - s 28 → (d - s 28).toNat - k < n → kW E 4 0 0 M_X7_warmAt 0 [some (kA 45), some (kI d)] [] ((kMC ++ kMM), kst f 50 (mAt (f 47) k s), g) (fun r h' => r = some (kI (mBit (f 47) (mEach (f 47) (mAt (f 47) (d - s 28).toNat s)))) ∧ h' = ((kMC ++ kMM), kst f 50 (mEach (f 47) (mAt (f 47) (d - s 28).toNat s)), g)) := by
  intro n
  induction n with
  | zero => intro k _ y; omega
  | succ n ih =>
    intro k y0 y1
    have n0 := hT.1
    have n1 := hT.2.1
    have hS := mSO_at hT hS0 k
    have e28 := mAt_28 (s := s) hT k
    have e29 := mEach_28 (s := mAt (f 47) k s) hT
    refine kw_aload_n dX7_warmAt_0 rfl ?_
    refine kv_getR (b := 50) dX7_warmAt_1 kf_X7_22 rfl rfl rfl (hm (45, 5, 50) (by decide)) ?_
    refine kw_bipush dX7_warmAt_4 (by decide) (by decide) ?_
    refine kv_iald dX7_warmAt_6 rfl (by omega) (by omega) (congrFun kst_self _) ?_
    refine kw_iload_n dX7_warmAt_7 rfl ?_
    refine kw_icmp_ge (tgt := 22) dX7_warmAt_8 (by decide) (fun h1 => ?_) (fun h1 => ?_)
    · refine kw_aload_n dX7_warmAt_22 rfl ?_
      refine kv_callV0 (M2 := M_X7_eachTakes) (As := []) dX7_warmAt_23 ml_X7_123 q_X7_eachTakes rfl rfl rfl (Nat.le_of_ble_eq_true rfl) (c_meach hm hT hS) (by omega) ?_
      refine kw_aload_n dX7_warmAt_26 rfl ?_
      refine kv_callV1 (M2 := M_X7_warm) (As := []) dX7_warmAt_27 ml_X7_126 q_X7_warm rfl rfl rfl (Nat.le_of_ble_eq_true rfl) (c_mwarm hm hT) (by omega) ?_
      exact kv_ri dX7_warmAt_30 rfl (by rw [show (d - s 28).toNat = k by omega]) (by rw [show (d - s 28).toNat = k by omega])
    · refine kw_aload_n dX7_warmAt_11 rfl ?_
      refine kv_callV0 (M2 := M_X7_eachTakes) (As := []) dX7_warmAt_12 ml_X7_123 q_X7_eachTakes rfl rfl rfl (Nat.le_of_ble_eq_true rfl) (c_meach hm hT hS) (by omega) ?_
      refine kw_aload_n dX7_warmAt_15 rfl ?_
      refine kv_callV0 (M2 := M_X7_passes) (As := []) dX7_warmAt_16 ml_X7_120 q_X7_passes rfl rfl rfl (Nat.le_of_ble_eq_true rfl) (c_mpasses hm (by omega)) (by omega) ?_
      refine kw_goto (tgt := 0) dX7_warmAt_19 (by decide) ?_
      exact ih (k + 1) (by omega) (by omega)
theorem c_mwarmAt {E : kEnv} {f : Nat → Int → Int} {s : Int → Int} {g : Nat → Int → Option Nat} {d : Int} (hm : kGM g) (hT : mTO (f 47)) (hS : mSO (f 47) s) (hd : 0 ≤ s 28 ∧ s 28 ≤ d ∧ d ≤ 99) : kF E 4 M_X7_warmAt [kA (45), kI (d)] ((kMC ++ kMM), kst f 50 s, g) (some (kI (mBit (f 47) (mEach (f 47) (mAt (f 47) (d - s 28).toNat s))))) ((kMC ++ kMM), kst f 50 (mEach (f 47) (mAt (f 47) (d - s 28).toNat s)), g) := by
  refine kF_of (by decide) (by simp [k_one]) (Nat.le_of_ble_eq_true rfl) (L := [some (kA (45)), some (kI (d))]) rfl ?_
  exact l_mwarmAt hm hT hS hd _ 0 (by omega) (Nat.lt_succ_self _)
