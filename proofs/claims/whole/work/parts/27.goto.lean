theorem k_pow8 : ∀ n : Nat, n ≤ 8 → 1 ≤ (2 : Int) ^ n ∧ (2 : Int) ^ n ≤ 256 := by decide
/-! the class: a day of each for himself; the days up to one -/
theorem l_gather2 {E : kEnv} {w : List (Nat × Nat)} {g : Nat → Int → Option Nat} {T s : Int → Int} {f0 : Nat → Int → Int} (hg : kG g) (hT : mTO T) (hS : mSO T s) (h28 : 0 ≤ s 28 ∧ s 28 ≤ 300) : ∀ (n : Nat) (i : Int) (f : Nat → Int → Int) (o : Option kV), (0 ≤ i ∧ i ≤ T 1) → (T 1 - i).toNat < n → RF T f → Sim T f 37 (mEachN T i.toNat s) → kEq f0 f 37 → kW E 4 0 0 M_X0_gatherToday 2 [some (kA 36), some (kI i), o] [] ((kMC ++ w), f, g) (fun r h' => r = none ∧ ∃ f2, h' = ((kMC ++ w), f2, g) ∧ (fun f2 => RF T f2 ∧ Sim T f2 37 (mEach T s) ∧ kEq f0 f2 37) f2) := by
  intro n
  induction n with
  | zero => intro i f o _ y; omega
  | succ n ih =>
    intro i f o y0 y1 hR hI hq
    have n0 := hT.1
    have n1 := hT.2.1
    have r0 := hR.1
    have r1 := hR.2.1
    have hSN := mSO_eachN hT hS i.toNat (by omega)
    refine kw_iload_n dX0_gatherToday_2 rfl ?_
    refine kw_aload_n dX0_gatherToday_3 rfl ?_
    refine kv_getR (b := 4) dX0_gatherToday_4 kf_X0_18 rfl rfl rfl (hg (36, 0, 4) (by decide)) ?_
    refine kv_getI (kz := 6) dX0_gatherToday_7 kf_X0_26 rfl rfl rfl rfl ?_
    refine kw_icmp_ge (tgt := 86) dX0_gatherToday_10 (by decide) (fun h1 => ?_) (fun h1 => ?_)
    · exact kv_rvE dX0_gatherToday_86 rfl ⟨hR, by rw [show i = T 1 by omega] at hI; exact hI, hq⟩
    · refine kw_iconst dX0_gatherToday_13 ⟨by decide, by decide⟩ ?_
      refine kw_istore_n dX0_gatherToday_14 (by decide) trivial (L2 := [some (kA (36)), some (kI (i)), some (kI (0))]) rfl ?_
      refine l_gather1 (f0 := f0) (i := i) (s := mEachN T i.toNat s) (by omega) hg hT hSN (by rw [mEachN_28 hT _ (by omega)]; exact h28) ⟨by omega, by omega⟩ (fun b f hR hI hq => ?_) _ 0 f ⟨by omega, by omega⟩ (Nat.lt_succ_self _) hR hI hq
      refine kw_iinc dX0_gatherToday_80 (by decide) rfl ⟨by omega, by omega⟩ trivial (L2 := [some (kA 36), some (kI (i + 1)), some (kI b)]) rfl ?_
      refine kw_goto (tgt := 2) dX0_gatherToday_83 (by decide) ?_
      rw [← mEachN_s y0.1] at hI
      exact ih (i + 1) f _ ⟨by omega, by omega⟩ (by omega) hR hI hq
theorem c_gather {E : kEnv} {w : List (Nat × Nat)} {f : Nat → Int → Int} {g : Nat → Int → Option Nat} {T s : Int → Int}  (hg : kG g) (hT : mTO T) (hS : mSO T s) (hR : RF T f) (hI : Sim T f 37 s) (h28 : 0 ≤ s 28 ∧ s 28 ≤ 300) : kFE E 4 M_X0_gatherToday [kA (36)] ((kMC ++ w), f, g) (none) (kMC ++ w) (fun f2 => RF T f2 ∧ Sim T f2 37 (mEach T s) ∧ kEq f f2 37) g := by
  refine kFE_of (by decide) (by simp [k_one]) (Nat.le_of_ble_eq_true rfl) (L := [some (kA (36)), none, none]) rfl ?_
  have n1 := hT.2.1
  refine kw_iconst dX0_gatherToday_0 ⟨by decide, by decide⟩ ?_
  refine kw_istore_n dX0_gatherToday_1 (by decide) trivial (L2 := [some (kA (36)), some (kI (0)), none]) rfl ?_
  exact l_gather2 hg hT hS h28 _ 0 f none ⟨by omega, by omega⟩ (Nat.lt_succ_self _) hR hI kEq_rf
theorem c_isOver {E : kEnv} {w : List (Nat × Nat)} {f : Nat → Int → Int} {g : Nat → Int → Option Nat} {T s : Int → Int}  (hg : kG g) (hT : mTO T) (hS : mSO T s) (hR : RF T f) (hI : Sim T f 37 s) : kF E 4 M_X0_isOver [kA (36)] ((kMC ++ w), f, g) (some (kI (if f 37 2 = 2 ^ (T 0).toNat - 1 ∨ mBit T s = 2 ^ (T 1).toNat - 1 then 1 else 0))) ((kMC ++ w), f, g) := by
  refine kF_of (by decide) (by simp [k_one]) (Nat.le_of_ble_eq_true rfl) (L := [some (kA (36))]) rfl ?_
  have hF := RF_FO hT hR
  have n0 := hT.1
  have n1 := hT.2.1
  have r0 := hR.1
  have r1 := hR.2.1
  have hq := k_pow8 (T 0).toNat (by omega)
  rw [← r0]
  rw [← r0] at hq
  refine kw_aload_n dX0_isOver_0 rfl ?_
  refine kv_getR (b := 37) dX0_isOver_1 kf_X0_12 rfl rfl rfl (hg (36, 1, 37) (by decide)) ?_
  refine kv_getI (kz := 2) dX0_isOver_4 kf_X0_60 rfl rfl rfl rfl ?_
  refine kw_iconst dX0_isOver_7 ⟨by decide, by decide⟩ ?_
  refine kw_aload_n dX0_isOver_8 rfl ?_
  refine kv_getR (b := 4) dX0_isOver_9 kf_X0_18 rfl rfl rfl (hg (36, 0, 4) (by decide)) ?_
  refine kv_getI (kz := 5) dX0_isOver_12 kf_X0_63 rfl rfl rfl rfl ?_
  refine kv_shl1 dX0_isOver_15 (by omega) (by omega) ?_
  refine kw_iconst dX0_isOver_16 ⟨by decide, by decide⟩ ?_
  refine kw_isub dX0_isOver_17 ⟨by omega, by omega⟩ ?_
  refine kw_icmp_eq (tgt := 35) dX0_isOver_18 (by decide) (fun h1 => ?_) (fun h1 => ?_)
  · refine kw_iconst dX0_isOver_35 ⟨by decide, by decide⟩ ?_
    refine kw_goto (tgt := 40) dX0_isOver_36 (by decide) ?_
    exact kv_rb dX0_isOver_40 rfl (by first | rfl | omega | (split <;> omega) | ((repeat' split) <;> omega) | grind) (by first | rfl | rw [if_pos (by omega)] | rw [if_neg (by omega)] | grind)
  · refine kw_aload_n dX0_isOver_21 rfl ?_
    refine kv_getR (b := 4) dX0_isOver_22 kf_X0_18 rfl rfl rfl (hg (36, 0, 4) (by decide)) ?_
    refine kw_aload_n dX0_isOver_25 rfl ?_
    refine kv_getR (b := 37) dX0_isOver_26 kf_X0_12 rfl rfl rfl (hg (36, 1, 37) (by decide)) ?_
    refine kv_callV1 (M2 := M_X2_areAllWarm) (As := [kA (37)]) dX0_isOver_29 ml_X0_66 q_X2_areAllWarm rfl rfl rfl (Nat.le_of_ble_eq_true rfl) (c_areAllWarm (by unfold kSA; omega) hg hT hR hI) (by omega) ?_
    refine kv_ifeqB (tgt := 39) dX0_isOver_32 (by decide) (fun h2 => ?_) (fun h2 => ?_)
    · refine kw_iconst dX0_isOver_39 ⟨by decide, by decide⟩ ?_
      exact kv_rb dX0_isOver_40 rfl (by first | rfl | omega | (split <;> omega) | ((repeat' split) <;> omega) | grind) (by first | rfl | rw [if_pos (by omega)] | rw [if_neg (by omega)] | grind)
    · refine kw_iconst dX0_isOver_35 ⟨by decide, by decide⟩ ?_
      refine kw_goto (tgt := 40) dX0_isOver_36 (by decide) ?_
      exact kv_rb dX0_isOver_40 rfl (by first | rfl | omega | (split <;> omega) | ((repeat' split) <;> omega) | grind) (by first | rfl | rw [if_pos (by omega)] | rw [if_neg (by omega)] | grind)
/-- nothing more is taken -/
def mOver (T s : Int → Int) : Prop := ∀ i b, 0 ≤ i → i < T 1 → 0 ≤ b → b < T 0 → ¬ (¬ mWarm T s i ∧ mCan T s i b)
theorem mOver_row {T s : Int → Int} {i : Int} (h : mOver T s) (hi : 0 ≤ i ∧ i < T 1) : ∀ n : Nat, n ≤ (T 0).toNat → mRow T i n s = s
  | 0, _ => rfl
  | n + 1, hn => by rw [mRow, mOver_row h hi n (by omega)]; exact mStep_f (h i n hi.1 hi.2 (by omega) (by omega))
theorem mOver_eachN {T s : Int → Int} (h : mOver T s) : ∀ n : Nat, n ≤ (T 1).toNat → mEachN T n s = s
  | 0, _ => rfl
  | n + 1, hn => by rw [mEachN, mOver_eachN h n (by omega)]; exact mOver_row h ⟨by omega, by omega⟩ _ (Nat.le_refl _)
theorem mOver_each {T s : Int → Int} (h : mOver T s) : mEach T s = s := mOver_eachN h _ (Nat.le_refl _)
/-- over for good: all gone, or all warm -/
def mEnd (T s : Int → Int) : Prop := (∀ b, 0 ≤ b → b < T 0 → s (8 + b) = 1) ∨ (∀ i, 0 ≤ i → i < T 1 → mWarm T s i)
theorem mEnd_over {T s : Int → Int} (h : mEnd T s) : mOver T s := by
  intro i b a1 a2 a3 a4 q
  rcases h with h | h
  · have := q.2.1
    rw [h b a3 a4] at this
    omega
  · exact q.1 (h i a1 a2)
theorem mEnd_pass {T s : Int → Int} (hT : mTO T) (h : mEnd T s) : mEnd T (mPass s) := by
  have n0 := hT.1
  have n1 := hT.2.1
  rcases h with h | h
  · exact Or.inl fun b a1 a2 => by rw [mPass_at (by omega)]; exact h b a1 a2
  · refine Or.inr fun i a1 a2 => ?_
    unfold mWarm
    rw [mPass_at (j := 20 + i) (by omega)]
    exact h i a1 a2
theorem mEnd_at {T s : Int → Int} (hT : mTO T) (h : mEnd T s) : ∀ n : Nat, mEnd T (mAt T n s) ∧ ∀ j, 20 ≤ j → j < 24 → mAt T n s j = s j
  | 0 => ⟨h, fun j _ _ => rfl⟩
  | n + 1 => by
    obtain ⟨h1, h2⟩ := mEnd_at hT h n
    rw [mAt, mOver_each (mEnd_over h1)]
    exact ⟨mEnd_pass hT h1, fun j a1 a2 => by rw [mPass_at (by omega)]; exact h2 j a1 a2⟩
theorem mAt_add {T s : Int → Int} (k : Nat) : ∀ n : Nat, mAt T (k + n) s = mAt T n (mAt T k s)
  | 0 => rfl
  | n + 1 => by rw [← Nat.add_assoc, mAt, mAt, mAt_add k n]
theorem gsum_num : ∀ t : Nat, t ≤ 8 → ∀ b : Nat, b < t → ((2 : Int) ^ t - 1) / 2 ^ b % 2 = 1 := by decide
theorem gsum_all {T s : Int → Int} (hT : mTO T) (h : mSO T s) (e : gsum s = 2 ^ (T 0).toNat - 1) : ∀ b, 0 ≤ b → b < T 0 → s (8 + b) = 1 := by
  have n0 := hT.1
  intro b b0 b1
  have q := gsum_bit h (b := b) ⟨b0, by omega⟩
  rw [e] at q
  rw [← q]
  exact gsum_num _ (by omega) _ (by omega)
theorem mBits_all {T s : Int → Int} : ∀ n : Nat, mBits T s n = 2 ^ n - 1 → ∀ i : Nat, i < n → mWarm T s i
  | 0, _, i, hi => absurd hi (Nat.not_lt_zero i)
  | n + 1, e, i, hi => by
    have hl := mBits_lt (T := T) (s := s) n
    have h2 : (2 : Int) ^ (n + 1) = 2 ^ n + 2 ^ n := by rw [Int.pow_succ]; omega
    rw [mBits, h2] at e
    have hw : mWarm T s n := by
      refine Decidable.byContradiction fun q => ?_
      rw [if_neg q] at e
      omega
    rw [if_pos hw] at e
    by_cases hin : i = n
    · rw [hin]; exact hw
    · exact mBits_all n (by omega) i (by omega)
theorem mBits_cong {T s s2 : Int → Int} : ∀ n : Nat, (∀ i : Nat, i < n → s (20 + (i : Int)) = s2 (20 + (i : Int))) → mBits T s n = mBits T s2 n
  | 0, _ => rfl
  | n + 1, h => by
    rw [mBits, mBits, mBits_cong n (fun i hi => h i (by omega))]
    unfold mWarm
    rw [h n (by omega)]
theorem mBits_ex {T s : Int → Int} : ∀ n : Nat, (∀ i : Nat, i < n → mWarm T s i) → mBits T s n = 2 ^ n - 1
  | 0, _ => rfl
  | n + 1, h => by
    have h2 : (2 : Int) ^ (n + 1) = 2 ^ n + 2 ^ n := by rw [Int.pow_succ]; omega
    rw [mBits, mBits_ex n (fun i hi => h i (by omega)), if_pos (h n (by omega)), h2]
    omega
theorem mEnd_of {T s : Int → Int} {x : Int} (hT : mTO T) (hS : mSO T s) (hx : x = gsum s) (h : x = 2 ^ (T 0).toNat - 1 ∨ mBit T s = 2 ^ (T 1).toNat - 1) : mEnd T s := by
  rcases h with h | h
  · exact Or.inl (gsum_all hT hS (by rw [← hx]; exact h))
  · refine Or.inr fun i a1 a2 => ?_
    have := mBits_all (T := T) (s := s) _ h i.toNat (by omega)
    rw [k_nat a1] at this
    exact this
/-- the stacks of two rows are the same -/
def mSt (T s s2 : Int → Int) : Prop := ∀ i, 0 ≤ i → i < T 1 → s (20 + i) = s2 (20 + i)
theorem mSt_bit {T s s2 : Int → Int} (hT : mTO T) (h : mSt T s s2) : mBit T s = mBit T s2 := mBits_cong _ (fun i hi => h i (by omega) (by omega))
theorem mSt_warm {T s s2 : Int → Int} {i : Int} (h : mSt T s s2) (hi : 0 ≤ i ∧ i < T 1) : mWarm T s i ↔ mWarm T s2 i := by
  unfold mWarm
  rw [h i hi.1 hi.2]
theorem mEnd_fin {T s : Int → Int} (hT : mTO T) (k n : Nat) (h : mEnd T (mAt T k s)) (hk : k ≤ n) : mSt T (mAt T k s) (mEach T (mAt T n s)) := by
  have n1 := hT.2.1
  intro i a1 a2
  obtain ⟨j, rfl⟩ := Nat.exists_eq_add_of_le hk
  obtain ⟨h1, h2⟩ := mEnd_at hT h j
  rw [mAt_add, mOver_each (mEnd_over h1), h2 _ (by omega) (by omega)]
theorem l_goTo {E : kEnv} {w : List (Nat × Nat)} {g : Nat → Int → Option Nat} {T s : Int → Int} {f0 : Nat → Int → Int} {d : Int} (hg : kG g) (hT : mTO T) (hS0 : mSO T s) (hd : 0 ≤ s 28 ∧ s 28 ≤ d ∧ d ≤ 99) : ∀ (n : Nat) (k : Int) (f : Nat → Int → Int), (0 ≤ k ∧ k ≤ d - s 28) → (d - s 28 - k).toNat < n → RF T f → Sim T f 37 (mAt T k.toNat s) → kEq f0 f 37 → kW E 5 0 0 M_X0_goTo 2 [some (kA 36), some (kI d), some (kI k)] [] ((kMC ++ w), f, g) (fun r h' => r = none ∧ ∃ f2, h' = ((kMC ++ w), f2, g) ∧ (fun f2 => RF T f2 ∧ kEq f0 f2 37 ∧ ∃ s2, Sim T f2 37 s2 ∧ mSO T s2 ∧ mSt T s2 (mEach T (mAt T (d - s 28).toNat s))) f2) := by
  intro n
  induction n with
  | zero => intro k f _ y; omega
  | succ n ih =>
    intro k f y0 y1 hR hI hq
    have n0 := hT.1
    have n1 := hT.2.1
    have hS := mSO_at hT hS0 k.toNat
    have e28 := mAt_28 (s := s) hT k.toNat
    have h28 : 0 ≤ mAt T k.toNat s 28 ∧ mAt T k.toNat s 28 ≤ 300 := by omega
    refine kw_iload_n dX0_goTo_2 rfl ?_
    refine kw_bipush dX0_goTo_3 (by decide) (by decide) ?_
    refine kw_icmp_gt (tgt := 45) dX0_goTo_5 (by decide) (fun h1 => ?_) (fun h1 => ?_)
    · first
        | (exfalso; omega)
        | exact kv_rvE dX0_goTo_45 rfl ⟨hR, hq, _, hI, hS, mEnd_fin hT _ _ (mEnd_of hT hS hI.2.1 (by assumption)) (by omega)⟩
    · refine kw_aload_n dX0_goTo_8 rfl ?_
      refine kv_callV1 (M2 := M_X0_isOver) (As := []) dX0_goTo_9 ml_X0_46 q_X0_isOver rfl rfl rfl (Nat.le_of_ble_eq_true rfl) (c_isOver hg hT hS hR hI) (by omega) ?_
      refine kv_ifneB (tgt := 45) dX0_goTo_12 (by decide) (fun h2 => ?_) (fun h2 => ?_)
      · first
          | (exfalso; omega)
          | exact kv_rvE dX0_goTo_45 rfl ⟨hR, hq, _, hI, hS, mEnd_fin hT _ _ (mEnd_of hT hS hI.2.1 (by assumption)) (by omega)⟩
      · refine kw_aload_n dX0_goTo_15 rfl ?_
        refine kv_callV0E (M2 := M_X0_gatherToday) (As := []) dX0_goTo_16 ml_X0_50 q_X0_gatherToday rfl rfl rfl (Nat.le_of_ble_eq_true rfl) (c_gather hg hT hS hR hI h28) (by omega) (fun f9 hf9 => ?_)
        obtain ⟨hR, hI, hq9⟩ := hf9
        have e37 := hI.1
        rw [mEach_28 hT] at e37
        refine kw_aload_n dX0_goTo_19 rfl ?_
        refine kv_getR (b := 37) dX0_goTo_20 kf_X0_12 rfl rfl rfl (hg (36, 1, 37) (by decide)) ?_
        refine kv_getI (kz := 1) dX0_goTo_23 kf_X0_53 rfl rfl rfl rfl ?_
        refine kw_iload_n dX0_goTo_26 rfl ?_
        refine kw_icmp_lt (tgt := 31) dX0_goTo_27 (by decide) (fun h3 => ?_) (fun h3 => ?_)
        · refine kw_aload_n dX0_goTo_31 rfl ?_
          refine kv_getR (b := 37) dX0_goTo_32 kf_X0_12 rfl rfl rfl (hg (36, 1, 37) (by decide)) ?_
          refine kw_iconst dX0_goTo_35 ⟨by decide, by decide⟩ ?_
          refine kv_callV0 (M2 := M_X4_goBy) (As := [kI (1)]) dX0_goTo_36 ml_X0_56 q_X4_goBy rfl rfl rfl (Nat.le_of_ble_eq_true rfl) (c_goBy (by unfold kSA; omega) hg (by omega) (by omega)) (by omega) ?_
          refine kw_iinc dX0_goTo_39 (by decide) rfl ⟨by omega, by omega⟩ trivial (L2 := [some (kA (36)), some (kI (d)), some (kI (k + 1))]) rfl ?_
          refine kw_goto (tgt := 2) dX0_goTo_42 (by decide) ?_
          refine ih (k + 1) _ ⟨by omega, by omega⟩ (by omega) (RF_eq hR (by omega) kGoBy_eq) ?_ (kEq_tr (kEq_tr hq hq9) kGoBy_eq)
          rw [show (k + 1).toNat = k.toNat + 1 by omega]
          exact Sim_pass hT hI
        · exact kv_rvE dX0_goTo_30 rfl ⟨hR, kEq_tr hq hq9, _, hI, mSO_each hT hS, by rw [show (d - s 28).toNat = k.toNat by omega]; exact fun _ _ _ => rfl⟩
theorem c_goTo {E : kEnv} {w : List (Nat × Nat)} {f : Nat → Int → Int} {g : Nat → Int → Option Nat} {T s : Int → Int} {d : Int} (hg : kG g) (hT : mTO T) (hS : mSO T s) (hR : RF T f) (hI : Sim T f 37 s) (hd : 0 ≤ s 28 ∧ s 28 ≤ d ∧ d ≤ 99) : kFE E 5 M_X0_goTo [kA (36), kI (d)] ((kMC ++ w), f, g) (none) (kMC ++ w) (fun f2 => RF T f2 ∧ kEq f f2 37 ∧ ∃ s2, Sim T f2 37 s2 ∧ mSO T s2 ∧ mSt T s2 (mEach T (mAt T (d - s 28).toNat s))) g := by
  refine kFE_of (by decide) (by simp [k_one]) (Nat.le_of_ble_eq_true rfl) (L := [some (kA (36)), some (kI (d)), none]) rfl ?_
  refine kw_iconst dX0_goTo_0 ⟨by decide, by decide⟩ ?_
  refine kw_istore_n dX0_goTo_1 (by decide) trivial (L2 := [some (kA (36)), some (kI (d)), some (kI (0))]) rfl ?_
  exact l_goTo hg hT hS hd _ 0 f ⟨by omega, by omega⟩ (Nat.lt_succ_self _) hR hI kEq_rf
