/-! the class: what would be -/
theorem kBec_1 {f : Nat → Int → Int} {a b : Nat} : kBec f a b a 1 = f b 1 := by unfold kBec k_cp k_u; grind
theorem kBec_2 {f : Nat → Int → Int} {a b : Nat} : kBec f a b a 2 = f b 2 := by unfold kBec k_cp k_u; grind
theorem kBec_c {f : Nat → Int → Int} {a b : Nat} {j : Int} (h : a ≠ b + 1) (hj : 0 ≤ j ∧ j < 20) : kBec f a b (a + 1) j = f (b + 1) j := by
  unfold kBec k_cp k_u
  simp only [Int.sub_zero, Int.zero_add]
  rw [if_pos ⟨trivial, hj.1, hj.2⟩]
  grind
theorem kBec_eq {f : Nat → Int → Int} {a b : Nat} : kEq f (kBec f a b) a := by
  intro c h1 h2
  funext j
  unfold kBec k_cp k_u
  grind
theorem Sim_bec {T s : Int → Int} {f : Nat → Int → Int} {a b : Nat} (hT : mTO T) (h : Sim T f b s) (hne : a ≠ b + 1) : Sim T (kBec f a b) a s := by
  have n0 := hT.1
  have n1 := hT.2.1
  obtain ⟨h1, h2, h3, h4, h5⟩ := h
  refine ⟨by rw [kBec_1, h1], by rw [kBec_2, h2], fun c c0 c1 z => ?_, fun i i0 i1 => ?_, fun c c0 c1 => ?_⟩
  · rw [kBec_c hne (by omega)]; exact h3 c c0 c1 z
  · rw [kBec_c hne (by omega), kBec_c hne (by omega), kBec_c hne (by omega)]; exact h4 i i0 i1
  · rw [kBec_c hne (by omega)]; exact h5 c c0 c1
theorem Sim_far {T s : Int → Int} {f f2 : Nat → Int → Int} {a b : Nat} (h : Sim T f b s) (he : kEq f f2 a) (h1 : b ≠ a) (h2 : b ≠ a + 1) (h3 : b + 1 ≠ a) : Sim T f2 b s := by
  unfold Sim
  rw [he b h1 h2, he (b + 1) h3 (by omega)]
  exact h
theorem gsum_eq {s s2 : Int → Int} (e : ∀ j, 8 ≤ j → j < 16 → s2 j = s j) : gsum s2 = gsum s := by
  unfold gsum
  simp only [e 8 (by omega) (by omega), e 9 (by omega) (by omega), e 10 (by omega) (by omega), e 11 (by omega) (by omega), e 12 (by omega) (by omega), e 13 (by omega) (by omega), e 14 (by omega) (by omega), e 15 (by omega) (by omega)]
theorem Sim_reach {T s s2 : Int → Int} {f f2 : Nat → Int → Int} {a : Nat} (hT : mTO T) (h : Sim T f a s) (e : ∀ j, j < 16 ∨ 20 ≤ j → s2 j = s j) (ea : f2 a = f a) (eb : ∀ j, 0 ≤ j → j < 12 ∨ 16 ≤ j → f2 (a + 1) j = f (a + 1) j) (er : ∀ i, 0 ≤ i → i < T 1 → f2 (a + 1) (12 + i) = s2 (16 + i)) : Sim T f2 a s2 := by
  have n0 := hT.1
  have n1 := hT.2.1
  obtain ⟨h1, h2, h3, h4, h5⟩ := h
  refine ⟨by rw [ea, h1, e 28 (by omega)], by rw [ea, h2, gsum_eq (fun j j0 j1 => e j (by omega))], fun c c0 c1 z => ?_, fun i i0 i1 => ?_, fun c c0 c1 => ?_⟩
  · rw [eb c (by omega) (by omega), e c (by omega)]
    rw [e (8 + c) (by omega)] at z
    exact h3 c c0 c1 z
  · have h6 := h4 i i0 i1
    rw [eb (8 + i) (by omega) (by omega), eb (16 + i) (by omega) (by omega), er i i0 i1, e (20 + i) (by omega), e (24 + i) (by omega)]
    exact ⟨h6.1, rfl, h6.2.2⟩
  · rw [eb c (by omega) (by omega)]; exact h5 c c0 c1
theorem mSO_reach {T s s2 : Int → Int} (hT : mTO T) (h : mSO T s) (e : ∀ j, j < 16 ∨ 20 ≤ j → s2 j = s j) (er : ∀ i, 0 ≤ i → i < T 1 → 1 ≤ s2 (16 + i) ∧ s2 (16 + i) ≤ 20) : mSO T s2 := by
  have n0 := hT.1
  have n1 := hT.2.1
  have eg : mGone s2 = mGone s := by
    unfold mGone
    simp only [e 8 (by omega), e 9 (by omega), e 10 (by omega), e 11 (by omega), e 12 (by omega), e 13 (by omega), e 14 (by omega), e 15 (by omega)]
  obtain ⟨h1, h2, h3⟩ := h
  refine ⟨fun b b0 b1 => ?_, fun b b0 b1 => ?_, fun i i0 i1 => ?_⟩
  · rw [e (8 + b) (by omega)]; exact h1 b b0 b1
  · rw [e b (by omega)]; exact h2 b b0 b1
  · rw [e (20 + i) (by omega), e (24 + i) (by omega), eg]
    exact ⟨(h3 i i0 i1).1, er i i0 i1, (h3 i i0 i1).2.2⟩
theorem c_setReachR {E : kEnv} {w : List (Nat × Nat)} {f : Nat → Int → Int} {g : Nat → Int → Option Nat} {a : Nat} {i r : Int} (ha : kSA a) (hg : kG g) (hi : 0 ≤ i ∧ i < 4) : kF E 0 M_X4_setReach [kA a, kI i, kI r] ((kMC ++ w), f, g) none ((kMC ++ w), k_u f (a + 1) (12 + i) r, g) := by
  have h := c_setReach (E := E) (w := w) (f := f) (g := g) (i := i) (r := r) ha hg
  rw [if_pos hi] at h
  exact h
theorem c_begin {E : kEnv} {w : List (Nat × Nat)} {f : Nat → Int → Int} {g : Nat → Int → Option Nat}  (hg : kG g) : kF E 2 M_X0_begin [kA (36), kA (10)] ((kMC ++ w), f, g) (none) ((kMC ++ w), (kBec f 37 10), g) := by
  refine kF_of (by decide) (by simp [k_one]) (Nat.le_of_ble_eq_true rfl) (L := [some (kA (36)), some (kA (10))]) rfl ?_
  refine kw_aload_n dX0_begin_0 rfl ?_
  refine kv_getR (b := 37) dX0_begin_1 kf_X0_12 rfl rfl rfl (hg (36, 1, 37) (by decide)) ?_
  refine kw_aload_n dX0_begin_4 rfl ?_
  refine kv_callV0 (M2 := M_X4_become) (As := [kA (10)]) dX0_begin_5 ml_X0_22 q_X4_become rfl rfl rfl (Nat.le_of_ble_eq_true rfl) (c_become (by unfold kSA; omega) hg (by unfold kSA; omega)) (by omega) ?_
  exact kv_rv dX0_begin_8 rfl (by first | rfl | rw [if_pos (by omega)] | rw [if_neg (by omega)] | grind)
theorem c_warmBy {E : kEnv} {w : List (Nat × Nat)} {f : Nat → Int → Int} {g : Nat → Int → Option Nat} {T s : Int → Int} {v : Int} (hg : kG g) (hT : mTO T) (hS : mSO T s) (hR : RF T f) (hI : Sim T f 10 s) (hD : ∀ b, 0 ≤ b → b < T 0 → f 11 b = s b) (h28 : 0 ≤ s 28 ∧ s 28 ≤ 99) : kFE E 6 M_X6_warmBy [kA (0), kI (v)] ((kMC ++ w), f, g) (some (kI (sWarmBy T s v))) (kMC ++ w) (fun f2 => RF T f2 ∧ kEq f f2 37) g := by
  refine kFE_of (by decide) (by simp [k_one]) (Nat.le_of_ble_eq_true rfl) (L := [some (kA (0)), some (kI (v))]) rfl ?_
  have hF := RF_FO hT hR
  have n0 := hT.1
  have n1 := hT.2.1
  have r0 := hR.1
  have r1 := hR.2.1
  have hSO := Sim_SO hT hS hR hI (by omega)
  have e28 := hI.1
  have e2 := hI.2.1
  have sg := hSO.2.1
  refine kw_iload_n dX6_warmBy_0 rfl ?_
  refine kw_aload_n dX6_warmBy_1 rfl ?_
  refine kv_getR (b := 10) dX6_warmBy_2 kf_X6_26 rfl rfl rfl (hg (0, 2, 10) (by decide)) ?_
  refine kv_getI (kz := 1) dX6_warmBy_5 kf_X6_114 rfl rfl rfl rfl ?_
  refine kw_bipush dX6_warmBy_8 (by decide) (by decide) ?_
  refine kv_callS1 (M2 := M_X6_isWithin) (As := [kI (v), kI (f 10 1), kI (99)]) dX6_warmBy_10 ml_X6_72 q_X6_isWithin rfl (Nat.le_of_ble_eq_true rfl) (c_isWithin) (by omega) ?_
  refine kv_ifneB (tgt := 18) dX6_warmBy_13 (by decide) (fun h1 => ?_) (fun h1 => ?_)
  · refine kw_aload_n dX6_warmBy_18 rfl ?_
    refine kv_getR (b := 36) dX6_warmBy_19 kf_X6_47 rfl rfl rfl (hg (0, 5, 36) (by decide)) ?_
    refine kw_aload_n dX6_warmBy_22 rfl ?_
    refine kv_getR (b := 10) dX6_warmBy_23 kf_X6_26 rfl rfl rfl (hg (0, 2, 10) (by decide)) ?_
    refine kv_callV0 (M2 := M_X0_begin) (As := [kA (10)]) dX6_warmBy_26 ml_X6_185 q_X0_begin rfl rfl rfl (Nat.le_of_ble_eq_true rfl) (c_begin hg) (by omega) ?_
    refine kw_aload_n dX6_warmBy_29 rfl ?_
    refine kv_getR (b := 36) dX6_warmBy_30 kf_X6_47 rfl rfl rfl (hg (0, 5, 36) (by decide)) ?_
    refine kw_iload_n dX6_warmBy_33 rfl ?_
    refine kv_callV0E (M2 := M_X0_goTo) (As := [kI (v)]) dX6_warmBy_34 ml_X6_188 q_X0_goTo rfl rfl rfl (Nat.le_of_ble_eq_true rfl) (c_goTo hg hT hS (RF_eq hR (by omega) kBec_eq) (Sim_bec hT hI (by omega)) (by omega)) (by omega) (fun f9 hf9 => ?_)
    obtain ⟨hR, hq9, s2, hI, hS2, hst⟩ := hf9
    refine kw_aload_n dX6_warmBy_37 rfl ?_
    refine kv_getR (b := 4) dX6_warmBy_38 kf_X6_19 rfl rfl rfl (hg (0, 1, 4) (by decide)) ?_
    refine kw_aload_n dX6_warmBy_41 rfl ?_
    refine kv_getR (b := 36) dX6_warmBy_42 kf_X6_47 rfl rfl rfl (hg (0, 5, 36) (by decide)) ?_
    refine kv_getR (b := 37) dX6_warmBy_45 kf_X6_191 rfl rfl rfl (hg (36, 1, 37) (by decide)) ?_
    refine kv_callV1 (M2 := M_X2_warmOnes) (As := [kA (37)]) dX6_warmBy_48 ml_X6_194 q_X2_warmOnes rfl rfl rfl (Nat.le_of_ble_eq_true rfl) (c_warmOnes (by unfold kSA; omega) hg hT hR hI) (by omega) ?_
    exact kv_riE dX6_warmBy_51 rfl (Eq.symm (by unfold sWarmBy; rw [if_pos (by omega)]; exact (mSt_bit hT hst).symm)) ⟨hR, kEq_tr kBec_eq hq9⟩
  · refine kw_iconst dX6_warmBy_16 ⟨by decide, by decide⟩ ?_
    exact kv_riE dX6_warmBy_17 rfl (Eq.symm (by unfold sWarmBy; rw [if_neg (by omega)])) ⟨hR, kEq_rf⟩
theorem l_firstAW {E : kEnv} {w : List (Nat × Nat)} {g : Nat → Int → Option Nat} {T : Int → Int} {f0 : Nat → Int → Int} {x : Int} (hg : kG g) (hT : mTO T) : ∀ (n : Nat) (k : Int) (s : Int → Int) (f : Nat → Int → Int), mSO T s → (0 ≤ k ∧ k ≤ s 28 ∧ s 28 ≤ 99) → (100 - s 28).toNat < n → x = sAW T (100 - s 28).toNat s → RF T f → Sim T f 37 s → kEq f0 f 37 → kW E 5 0 0 M_X0_firstDayAllWarm 2 [some (kA 36), some (kI k)] [] ((kMC ++ w), f, g) (fun r h' => r = some (kI x) ∧ ∃ f2, h' = ((kMC ++ w), f2, g) ∧ (RF T f2 ∧ kEq f0 f2 37)) := by
  intro n
  induction n with
  | zero => intro k s f _ _ y; omega
  | succ n ih =>
    intro k s f hS y0 y1 e1 hR hI hq
    have n0 := hT.1
    have n1 := hT.2.1
    refine kw_iload_n dX0_firstDayAllWarm_2 rfl ?_
    refine kw_bipush dX0_firstDayAllWarm_3 (by decide) (by decide) ?_
    refine kw_icmp_gt (tgt := 63) dX0_firstDayAllWarm_5 (by decide) (fun h1 => ?_) (fun h1 => ?_)
    · refine kw_bipush dX0_firstDayAllWarm_63 (by decide) (by decide) ?_
      first
        | (exfalso; omega)
        | (rw [show (100 - s 28).toNat = (100 - (s 28 + 1)).toNat + 1 by omega, sAW, if_pos h2] at e1; exact kv_riE dX0_firstDayAllWarm_65 rfl (by rw [e1]; omega) ⟨hR, kEq_tr hq hq9⟩)
        | (rw [show (100 - s 28).toNat = 0 + 1 by omega, sAW, if_neg h2, sAW] at e1; exact kv_riE dX0_firstDayAllWarm_65 rfl e1.symm ⟨hR, kEq_tr hq hq9⟩)
    · refine kw_aload_n dX0_firstDayAllWarm_8 rfl ?_
      refine kv_callV0E (M2 := M_X0_gatherToday) (As := []) dX0_firstDayAllWarm_9 ml_X0_50 q_X0_gatherToday rfl rfl rfl (Nat.le_of_ble_eq_true rfl) (c_gather hg hT hS hR hI ⟨by omega, by omega⟩) (by omega) (fun f9 hf9 => ?_)
      obtain ⟨hR, hI, hq9⟩ := hf9
      have e37 := hI.1
      rw [mEach_28 hT] at e37
      refine kw_aload_n dX0_firstDayAllWarm_12 rfl ?_
      refine kv_getR (b := 4) dX0_firstDayAllWarm_13 kf_X0_18 rfl rfl rfl (hg (36, 0, 4) (by decide)) ?_
      refine kw_aload_n dX0_firstDayAllWarm_16 rfl ?_
      refine kv_getR (b := 37) dX0_firstDayAllWarm_17 kf_X0_12 rfl rfl rfl (hg (36, 1, 37) (by decide)) ?_
      refine kv_callV1 (M2 := M_X2_areAllWarm) (As := [kA (37)]) dX0_firstDayAllWarm_20 ml_X0_66 q_X2_areAllWarm rfl rfl rfl (Nat.le_of_ble_eq_true rfl) (c_areAllWarm (by unfold kSA; omega) hg hT hR hI) (by omega) ?_
      refine kv_ifeqB (tgt := 34) dX0_firstDayAllWarm_23 (by decide) (fun h2 => ?_) (fun h2 => ?_)
      · refine kw_aload_n dX0_firstDayAllWarm_34 rfl ?_
        refine kv_getR (b := 37) dX0_firstDayAllWarm_35 kf_X0_12 rfl rfl rfl (hg (36, 1, 37) (by decide)) ?_
        refine kv_getI (kz := 1) dX0_firstDayAllWarm_38 kf_X0_53 rfl rfl rfl rfl ?_
        refine kw_bipush dX0_firstDayAllWarm_41 (by decide) (by decide) ?_
        refine kw_icmp_lt (tgt := 49) dX0_firstDayAllWarm_43 (by decide) (fun h3 => ?_) (fun h3 => ?_)
        · refine kw_aload_n dX0_firstDayAllWarm_49 rfl ?_
          refine kv_getR (b := 37) dX0_firstDayAllWarm_50 kf_X0_12 rfl rfl rfl (hg (36, 1, 37) (by decide)) ?_
          refine kw_iconst dX0_firstDayAllWarm_53 ⟨by decide, by decide⟩ ?_
          refine kv_callV0 (M2 := M_X4_goBy) (As := [kI (1)]) dX0_firstDayAllWarm_54 ml_X0_56 q_X4_goBy rfl rfl rfl (Nat.le_of_ble_eq_true rfl) (c_goBy (by unfold kSA; omega) hg (by omega) (by omega)) (by omega) ?_
          refine kw_iinc dX0_firstDayAllWarm_57 (by decide) rfl ⟨by omega, by omega⟩ trivial (L2 := [some (kA (36)), some (kI (k + 1))]) rfl ?_
          refine kw_goto (tgt := 2) dX0_firstDayAllWarm_60 (by decide) ?_
          rw [show (100 - s 28).toNat = (100 - (s 28 + 1)).toNat + 1 by omega, sAW, if_neg h2] at e1
          have e5 : mPass (mEach T s) 28 = s 28 + 1 := by rw [mPass_d, mEach_28 hT]
          refine ih (k + 1) (mPass (mEach T s)) _ (mSO_pass hT (mSO_each hT hS)) (by omega) (by omega) (by rw [e5]; exact e1) (RF_eq hR (by omega) kGoBy_eq) (Sim_pass hT hI) (kEq_tr (kEq_tr hq hq9) kGoBy_eq)
        · refine kw_bipush dX0_firstDayAllWarm_46 (by decide) (by decide) ?_
          first
            | (exfalso; omega)
            | (rw [show (100 - s 28).toNat = (100 - (s 28 + 1)).toNat + 1 by omega, sAW, if_pos h2] at e1; exact kv_riE dX0_firstDayAllWarm_48 rfl (by rw [e1]; omega) ⟨hR, kEq_tr hq hq9⟩)
            | (rw [show (100 - s 28).toNat = 0 + 1 by omega, sAW, if_neg h2, sAW] at e1; exact kv_riE dX0_firstDayAllWarm_48 rfl e1.symm ⟨hR, kEq_tr hq hq9⟩)
      · refine kw_aload_n dX0_firstDayAllWarm_26 rfl ?_
        refine kv_getR (b := 37) dX0_firstDayAllWarm_27 kf_X0_12 rfl rfl rfl (hg (36, 1, 37) (by decide)) ?_
        refine kv_getI (kz := 1) dX0_firstDayAllWarm_30 kf_X0_53 rfl rfl rfl rfl ?_
        first
          | (exfalso; omega)
          | (rw [show (100 - s 28).toNat = (100 - (s 28 + 1)).toNat + 1 by omega, sAW, if_pos h2] at e1; exact kv_riE dX0_firstDayAllWarm_33 rfl (by rw [e1]; omega) ⟨hR, kEq_tr hq hq9⟩)
          | (rw [show (100 - s 28).toNat = 0 + 1 by omega, sAW, if_neg h2, sAW] at e1; exact kv_riE dX0_firstDayAllWarm_33 rfl e1.symm ⟨hR, kEq_tr hq hq9⟩)
theorem c_firstAW {E : kEnv} {w : List (Nat × Nat)} {f : Nat → Int → Int} {g : Nat → Int → Option Nat} {T s : Int → Int}  (hg : kG g) (hT : mTO T) (hS : mSO T s) (hR : RF T f) (hI : Sim T f 37 s) (h28 : 0 ≤ s 28 ∧ s 28 ≤ 99) : kFE E 5 M_X0_firstDayAllWarm [kA (36)] ((kMC ++ w), f, g) (some (kI (sAW T (100 - s 28).toNat s))) (kMC ++ w) (fun f2 => RF T f2 ∧ kEq f f2 37) g := by
  refine kFE_of (by decide) (by simp [k_one]) (Nat.le_of_ble_eq_true rfl) (L := [some (kA (36)), none]) rfl ?_
  refine kw_iconst dX0_firstDayAllWarm_0 ⟨by decide, by decide⟩ ?_
  refine kw_istore_n dX0_firstDayAllWarm_1 (by decide) trivial (L2 := [some (kA (36)), some (kI (0))]) rfl ?_
  exact l_firstAW hg hT _ 0 s f hS (by omega) (Nat.lt_succ_self _) rfl hR hI kEq_rf
theorem c_allWarm {E : kEnv} {w : List (Nat × Nat)} {f : Nat → Int → Int} {g : Nat → Int → Option Nat} {T s : Int → Int}  (hg : kG g) (hT : mTO T) (hS : mSO T s) (hR : RF T f) (hI : Sim T f 10 s) (hD : ∀ b, 0 ≤ b → b < T 0 → f 11 b = s b) (h28 : 0 ≤ s 28 ∧ s 28 ≤ 99) : kFE E 6 M_X6_allWarm [kA (0)] ((kMC ++ w), f, g) (some (kI (sAW T (100 - s 28).toNat s))) (kMC ++ w) (fun f2 => RF T f2 ∧ kEq f f2 37) g := by
  refine kFE_of (by decide) (by simp [k_one]) (Nat.le_of_ble_eq_true rfl) (L := [some (kA (0))]) rfl ?_
  have hF := RF_FO hT hR
  have n0 := hT.1
  have n1 := hT.2.1
  have r0 := hR.1
  have r1 := hR.2.1
  have hSO := Sim_SO hT hS hR hI (by omega)
  have e28 := hI.1
  have e2 := hI.2.1
  have sg := hSO.2.1
  refine kw_aload_n dX6_allWarm_0 rfl ?_
  refine kv_getR (b := 36) dX6_allWarm_1 kf_X6_47 rfl rfl rfl (hg (0, 5, 36) (by decide)) ?_
  refine kw_aload_n dX6_allWarm_4 rfl ?_
  refine kv_getR (b := 10) dX6_allWarm_5 kf_X6_26 rfl rfl rfl (hg (0, 2, 10) (by decide)) ?_
  refine kv_callV0 (M2 := M_X0_begin) (As := [kA (10)]) dX6_allWarm_8 ml_X6_185 q_X0_begin rfl rfl rfl (Nat.le_of_ble_eq_true rfl) (c_begin hg) (by omega) ?_
  refine kw_aload_n dX6_allWarm_11 rfl ?_
  refine kv_getR (b := 36) dX6_allWarm_12 kf_X6_47 rfl rfl rfl (hg (0, 5, 36) (by decide)) ?_
  refine kv_callV1E (M2 := M_X0_firstDayAllWarm) (As := []) dX6_allWarm_15 ml_X6_198 q_X0_firstDayAllWarm rfl rfl rfl (Nat.le_of_ble_eq_true rfl) (c_firstAW hg hT hS (RF_eq hR (by omega) kBec_eq) (Sim_bec hT hI (by omega)) h28) (by omega) (fun f9 hf9 => ?_)
  exact kv_riE dX6_allWarm_18 rfl rfl ⟨hf9.1, kEq_tr kBec_eq hf9.2⟩
theorem upi_reach {s : Int → Int} {i r : Int} (hi : 0 ≤ i ∧ i < 4) : ∀ j, j < 16 ∨ 20 ≤ j → upi s (16 + i) r j = s j := fun j h => upi_ne (by omega)
theorem mSO_hook {T s : Int → Int} {i r : Int} (hT : mTO T) (h : mSO T s) (hi : 0 ≤ i ∧ i < T 1) (hr : 1 ≤ r ∧ r ≤ 20) : mSO T (upi s (16 + i) r) := by
  have n1 := hT.2.1
  refine mSO_reach hT h (upi_reach (by omega)) (fun k k0 k1 => ?_)
  by_cases e : k = i
  · rw [e, upi_self]; exact hr
  · rw [upi_ne (by omega)]; exact (h.2.2 k k0 k1).2.1
theorem Sim_hook {T s : Int → Int} {f : Nat → Int → Int} {a : Nat} {i r : Int} (hT : mTO T) (h : Sim T f a s) (hi : 0 ≤ i ∧ i < T 1) : Sim T (k_u f (a + 1) (12 + i) r) a (upi s (16 + i) r) := by
  have n1 := hT.2.1
  refine Sim_reach hT h (upi_reach (by omega)) ?_ (fun j j0 j1 => ?_) (fun k k0 k1 => ?_)
  · funext j; exact k_u_ne (by omega)
  · exact k_u_ne2 (by omega)
  · by_cases e : k = i
    · rw [e, upi_self]; exact k_u_self
    · rw [upi_ne (by omega), k_u_ne2 (by omega)]; exact (h.2.2.2.1 k k0 k1).2.1
theorem k_u_eq {f : Nat → Int → Int} {a : Nat} {j v : Int} : kEq f (k_u f (a + 1) j v) a := fun b _ h => by funext j; exact k_u_ne h
def oWarm (T s : Int → Int) (i : Int) : Bool := decide (mWarm T s i)
theorem oWarm_i {T s : Int → Int} {i : Int} : oWarm T s i = true ↔ mWarm T s i := by simp [oWarm]
theorem c_warmO {E : kEnv} {w : List (Nat × Nat)} {f : Nat → Int → Int} {g : Nat → Int → Option Nat} {T s : Int → Int} {s2 : Int → Int} {i : Int} (hg : kG g) (hR : RF T f) (hI : Sim T f 37 s2) (hst : mSt T s2 s) (hi : 0 ≤ i ∧ i < T 1) (n1 : 1 ≤ T 1 ∧ T 1 ≤ 4) : kF E 1 M_X2_isWarm [kA 4, kA 37, kI i] ((kMC ++ w), f, g) (some (kI (if oWarm T s i = true then 1 else 0))) ((kMC ++ w), f, g) := by
  rw [show (if oWarm T s i = true then (1 : Int) else 0) = if rWarm f 37 i then 1 else 0 from k_ite ((oWarm_i.trans (mSt_warm hst hi).symm).trans (Sim_warm (a := 37) hR hI hi).symm)]
  exact c_isWarm (by unfold kSA; omega) hg (by omega)
theorem l_leastHook {E : kEnv} {w : List (Nat × Nat)} {g : Nat → Int → Option Nat} {T s : Int → Int} {f0 : Nat → Int → Int} {i x : Int} (hg : kG g) (hT : mTO T) (hS : mSO T s) (h28 : 0 ≤ s 28 ∧ s 28 ≤ 99) (hi : 0 ≤ i ∧ i < T 1) : ∀ (n : Nat) (r : Int) (f : Nat → Int → Int), (1 ≤ r ∧ r ≤ 21) → (21 - r).toNat < n → x = kFirst (fun r => mWarm T (mLast T (upi s (16 + i) r)) i) (21 - r).toNat r → RF T f → Sim T f 10 s → kEq f0 f 37 → kW E 6 0 0 M_X6_leastHook 15 [some (kA 0), some (kI i), some (kI r)] [] ((kMC ++ w), f, g) (fun r h' => r = some (kI x) ∧ ∃ f2, h' = ((kMC ++ w), f2, g) ∧ (RF T f2 ∧ kEq f0 f2 37)) := by
  intro n
  induction n with
  | zero => intro r f _ y; omega
  | succ n ih =>
    intro r f y0 y1 e1 hR hI hq
    have n0 := hT.1
    have n1 := hT.2.1
    have hI0 := hI
    refine kw_iload_n dX6_leastHook_15 rfl ?_
    refine kw_bipush dX6_leastHook_16 (by decide) (by decide) ?_
    refine kw_icmp_gt (tgt := 79) dX6_leastHook_18 (by decide) (fun h1 => ?_) (fun h1 => ?_)
    · refine kw_bipush dX6_leastHook_79 (by decide) (by decide) ?_
      rw [show (21 - r).toNat = 0 by omega, kFirst] at e1
      exact kv_riE dX6_leastHook_81 rfl e1.symm ⟨hR, hq⟩
    · refine kw_aload_n dX6_leastHook_21 rfl ?_
      refine kv_getR (b := 36) dX6_leastHook_22 kf_X6_47 rfl rfl rfl (hg (0, 5, 36) (by decide)) ?_
      refine kw_aload_n dX6_leastHook_25 rfl ?_
      refine kv_getR (b := 10) dX6_leastHook_26 kf_X6_26 rfl rfl rfl (hg (0, 2, 10) (by decide)) ?_
      refine kv_callV0 (M2 := M_X0_begin) (As := [kA (10)]) dX6_leastHook_29 ml_X6_185 q_X0_begin rfl rfl rfl (Nat.le_of_ble_eq_true rfl) (c_begin hg) (by omega) ?_
      refine kw_aload_n dX6_leastHook_32 rfl ?_
      refine kv_getR (b := 36) dX6_leastHook_33 kf_X6_47 rfl rfl rfl (hg (0, 5, 36) (by decide)) ?_
      refine kv_getR (b := 37) dX6_leastHook_36 kf_X6_191 rfl rfl rfl (hg (36, 1, 37) (by decide)) ?_
      refine kw_iload_n dX6_leastHook_39 rfl ?_
      refine kw_iload_n dX6_leastHook_40 rfl ?_
      refine kv_callV0 (M2 := M_X4_setReach) (As := [kI (i), kI (r)]) dX6_leastHook_41 ml_X6_172 q_X4_setReach rfl rfl rfl (Nat.le_of_ble_eq_true rfl) (c_setReachR (by unfold kSA; omega) hg (by omega)) (by omega) ?_
      refine kw_aload_n dX6_leastHook_44 rfl ?_
      refine kv_getR (b := 36) dX6_leastHook_45 kf_X6_47 rfl rfl rfl (hg (0, 5, 36) (by decide)) ?_
      refine kw_bipush dX6_leastHook_48 (by decide) (by decide) ?_
      refine kv_callV0E (M2 := M_X0_goTo) (As := [kI (99)]) dX6_leastHook_50 ml_X6_188 q_X0_goTo rfl rfl rfl (Nat.le_of_ble_eq_true rfl) (c_goTo hg hT (mSO_hook (r := r) hT hS ⟨by omega, by omega⟩ ⟨by omega, by omega⟩) (RF_eq (RF_eq hR (by omega) kBec_eq) (by omega) (k_u_eq (a := 37))) (Sim_hook (a := 37) hT (Sim_bec hT hI (by omega)) ⟨by omega, by omega⟩) (by rw [upi_reach (by omega) 28 (by omega)]; omega)) (by omega) (fun f9 hf9 => ?_)
      obtain ⟨hR, hq9, s2, hI, hS2, hst⟩ := hf9
      change mSt T s2 (mLast T (upi s (16 + i) r)) at hst
      refine kw_aload_n dX6_leastHook_53 rfl ?_
      refine kv_getR (b := 4) dX6_leastHook_54 kf_X6_19 rfl rfl rfl (hg (0, 1, 4) (by decide)) ?_
      refine kw_aload_n dX6_leastHook_57 rfl ?_
      refine kv_getR (b := 36) dX6_leastHook_58 kf_X6_47 rfl rfl rfl (hg (0, 5, 36) (by decide)) ?_
      refine kv_getR (b := 37) dX6_leastHook_61 kf_X6_191 rfl rfl rfl (hg (36, 1, 37) (by decide)) ?_
      refine kw_iload_n dX6_leastHook_64 rfl ?_
      refine kv_callV1 (M2 := M_X2_isWarm) (As := [kA (37), kI (i)]) dX6_leastHook_65 ml_X6_149 q_X2_isWarm rfl rfl rfl (Nat.le_of_ble_eq_true rfl) (c_warmO hg hR hI hst ⟨by omega, by omega⟩ n1) (by omega) ?_
      refine kv_ifeqB (tgt := 73) dX6_leastHook_68 (by decide) (fun h2 => ?_) (fun h2 => ?_)
      · refine kw_iinc dX6_leastHook_73 (by decide) rfl ⟨by omega, by omega⟩ trivial (L2 := [some (kA (0)), some (kI (i)), some (kI (r + 1))]) rfl ?_
        refine kw_goto (tgt := 15) dX6_leastHook_76 (by decide) ?_
        rw [show (21 - r).toNat = (21 - (r + 1)).toNat + 1 by omega, kFirst, if_neg (fun z => h2 (oWarm_i.mpr z))] at e1
        exact ih (r + 1) _ ⟨by omega, by omega⟩ (by omega) e1 hR (Sim_far hI0 (kEq_tr (kEq_tr kBec_eq (k_u_eq (a := 37))) hq9) (by omega) (by omega) (by omega)) (kEq_tr hq (kEq_tr (kEq_tr kBec_eq (k_u_eq (a := 37))) hq9))
      · refine kw_iload_n dX6_leastHook_71 rfl ?_
        rw [show (21 - r).toNat = (21 - (r + 1)).toNat + 1 by omega, kFirst, if_pos (oWarm_i.mp h2)] at e1
        exact kv_riE dX6_leastHook_72 rfl e1.symm ⟨hR, kEq_tr hq (kEq_tr (kEq_tr kBec_eq (k_u_eq (a := 37))) hq9)⟩
theorem c_leastHook {E : kEnv} {w : List (Nat × Nat)} {f : Nat → Int → Int} {g : Nat → Int → Option Nat} {T s : Int → Int} {i : Int} (hg : kG g) (hT : mTO T) (hS : mSO T s) (hR : RF T f) (hI : Sim T f 10 s) (hD : ∀ b, 0 ≤ b → b < T 0 → f 11 b = s b) (h28 : 0 ≤ s 28 ∧ s 28 ≤ 99) : kFE E 6 M_X6_leastHook [kA (0), kI (i)] ((kMC ++ w), f, g) (some (kI (sLeast T s i))) (kMC ++ w) (fun f2 => RF T f2 ∧ kEq f f2 37) g := by
  refine kFE_of (by decide) (by simp [k_one]) (Nat.le_of_ble_eq_true rfl) (L := [some (kA (0)), some (kI (i)), none]) rfl ?_
  have hF := RF_FO hT hR
  have n0 := hT.1
  have n1 := hT.2.1
  have r0 := hR.1
  have r1 := hR.2.1
  have hSO := Sim_SO hT hS hR hI (by omega)
  have e28 := hI.1
  have e2 := hI.2.1
  have sg := hSO.2.1
  refine kw_aload_n dX6_leastHook_0 rfl ?_
  refine kv_getR (b := 4) dX6_leastHook_1 kf_X6_19 rfl rfl rfl (hg (0, 1, 4) (by decide)) ?_
  refine kw_iload_n dX6_leastHook_4 rfl ?_
  refine kv_callV1 (M2 := M_X2_hasTenant) (As := [kI (i)]) dX6_leastHook_5 ml_X6_131 q_X2_hasTenant rfl rfl rfl (Nat.le_of_ble_eq_true rfl) (c_hasTenant hg) (by omega) ?_
  refine kv_ifneB (tgt := 13) dX6_leastHook_8 (by decide) (fun h1 => ?_) (fun h1 => ?_)
  · refine kw_iconst dX6_leastHook_13 ⟨by decide, by decide⟩ ?_
    refine kw_istore_n dX6_leastHook_14 (by decide) trivial (L2 := [some (kA (0)), some (kI (i)), some (kI (1))]) rfl ?_
    exact l_leastHook hg hT hS h28 ⟨by omega, by omega⟩ _ 1 f ⟨by omega, by omega⟩ (Nat.lt_succ_self _) (by unfold sLeast; rw [if_pos (by omega)]; rfl) hR hI kEq_rf
  · refine kw_iconst dX6_leastHook_11 ⟨by decide, by decide⟩ ?_
    exact kv_riE dX6_leastHook_12 rfl (Eq.symm (by unfold sLeast; rw [if_neg (by omega)])) ⟨hR, kEq_rf⟩
def kSh (f : Nat → Int → Int) (p i : Int) : Nat → Int → Int := fun b j => if b = 38 ∧ 12 ≤ j ∧ j < 12 + i then (if p < f b j then p else f b j) else f b j
theorem kSh_0 {f : Nat → Int → Int} {p : Int} : kSh f p 0 = f := by
  funext b j
  exact if_neg (by omega)
theorem kSh_s {f : Nat → Int → Int} {p i : Int} (h : 0 ≤ i) : k_u (kSh f p i) 38 (12 + i) (if p < kSh f p i 38 (12 + i) then p else kSh f p i 38 (12 + i)) = kSh f p (i + 1) := by
  have e : kSh f p i 38 (12 + i) = f 38 (12 + i) := if_neg (by omega)
  rw [e]
  funext b j
  by_cases q : b = 38 ∧ j = 12 + i
  · rw [q.1, q.2, k_u_self]; exact (if_pos (by omega)).symm
  · have e2 : k_u (kSh f p i) 38 (12 + i) (if p < f 38 (12 + i) then p else f 38 (12 + i)) b j = kSh f p i b j := if_neg q
    rw [e2]
    unfold kSh
    by_cases q2 : b = 38 ∧ 12 ≤ j ∧ j < 12 + i
    · exact (if_pos q2).trans (if_pos (by omega)).symm
    · exact (if_neg q2).trans (if_neg (by omega)).symm
theorem kSh_eq {f : Nat → Int → Int} {p i : Int} : kEq f (kSh f p i) 37 := fun b _ h => by funext j; exact if_neg (fun z => h z.1)
theorem mClip_e {s : Int → Int} {p : Int} : ∀ j, j < 16 ∨ 20 ≤ j → mClip s p j = s j := fun j h => by
  unfold mClip
  rw [upi_ne (by omega), upi_ne (by omega), upi_ne (by omega), upi_ne (by omega)]
theorem mClip_r {s : Int → Int} {p i : Int} (hi : 0 ≤ i ∧ i < 4) : mClip s p (16 + i) = if p < s (16 + i) then p else s (16 + i) := by
  unfold mClip
  rcases (show i = 0 ∨ i = 1 ∨ i = 2 ∨ i = 3 by omega) with rfl | rfl | rfl | rfl
  · rw [show (16 : Int) + 0 = 16 by decide, upi_ne (by decide), upi_ne (by decide), upi_ne (by decide), upi_self]
  · rw [show (16 : Int) + 1 = 17 by decide, upi_ne (by decide), upi_ne (by decide), upi_self]
  · rw [show (16 : Int) + 2 = 18 by decide, upi_ne (by decide), upi_self]
  · rw [show (16 : Int) + 3 = 19 by decide, upi_self]
theorem mSO_clip {T s : Int → Int} {p : Int} (hT : mTO T) (h : mSO T s) (hp : 1 ≤ p ∧ p ≤ 20) : mSO T (mClip s p) := by
  have n1 := hT.2.1
  refine mSO_reach hT h mClip_e (fun k k0 k1 => ?_)
  have := (h.2.2 k k0 k1).2.1
  rw [mClip_r (by omega)]
  split <;> omega
theorem Sim_clip {T s : Int → Int} {f : Nat → Int → Int} {p : Int} (hT : mTO T) (h : Sim T f 37 s) : Sim T (kSh f p (T 1)) 37 (mClip s p) := by
  have n1 := hT.2.1
  refine Sim_reach hT h mClip_e ?_ (fun j j0 j1 => ?_) (fun k k0 k1 => ?_)
  · funext j; exact if_neg (by omega)
  · exact if_neg (by omega)
  · have h6 : f 38 (12 + k) = s (16 + k) := (h.2.2.2.1 k k0 k1).2.1
    rw [mClip_r (by omega), ← h6]
    exact if_pos (by omega)
theorem l_shorten {E : kEnv} {w : List (Nat × Nat)} {f : Nat → Int → Int} {g : Nat → Int → Option Nat} {p t : Int} (hg : kG g) (ht : f 4 6 = t ∧ 1 ≤ t ∧ t ≤ 4) : ∀ (n : Nat) (i : Int), (0 ≤ i ∧ i ≤ t) → (t - i).toNat < n → kW E 2 0 0 M_X0_shortenHooks 2 [some (kA 36), some (kI p), some (kI i)] [] ((kMC ++ w), (kSh f p i), g) (fun r h' => r = none ∧ h' = ((kMC ++ w), kSh f p t, g)) := by
  intro n
  induction n with
  | zero => intro i _ y; omega
  | succ n ih =>
    intro i y0 y1
    have z46 : kSh f p i 4 6 = f 4 6 := if_neg (by omega)
    refine kw_iload_n dX0_shortenHooks_2 rfl ?_
    refine kw_aload_n dX0_shortenHooks_3 rfl ?_
    refine kv_getR (b := 4) dX0_shortenHooks_4 kf_X0_18 rfl rfl rfl (hg (36, 0, 4) (by decide)) ?_
    refine kv_getI (kz := 6) dX0_shortenHooks_7 kf_X0_26 rfl rfl rfl rfl ?_
    refine kw_icmp_ge (tgt := 39) dX0_shortenHooks_10 (by decide) (fun h1 => ?_) (fun h1 => ?_)
    · exact kv_rv dX0_shortenHooks_39 rfl (by rw [show i = t by have z : kSh f p i 4 6 = f 4 6 := if_neg (by omega); omega])
    · refine kw_aload_n dX0_shortenHooks_13 rfl ?_
      refine kv_getR (b := 37) dX0_shortenHooks_14 kf_X0_12 rfl rfl rfl (hg (36, 1, 37) (by decide)) ?_
      refine kw_iload_n dX0_shortenHooks_17 rfl ?_
      refine kw_aload_n dX0_shortenHooks_18 rfl ?_
      refine kv_getR (b := 37) dX0_shortenHooks_19 kf_X0_12 rfl rfl rfl (hg (36, 1, 37) (by decide)) ?_
      refine kw_iload_n dX0_shortenHooks_22 rfl ?_
      refine kv_callV1 (M2 := M_X4_reach) (As := [kI (i)]) dX0_shortenHooks_23 ml_X0_32 q_X4_reach rfl rfl rfl (Nat.le_of_ble_eq_true rfl) (show kF E 0 M_X4_reach [kA 37, kI i] ((kMC ++ w), kSh f p i, g) (some (kI (kSh f p i 38 (12 + i)))) ((kMC ++ w), kSh f p i, g) from c_reachR (by unfold kSA; omega) hg (by omega)) (by omega) ?_
      refine kw_iload_n dX0_shortenHooks_26 rfl ?_
      refine kw_min dX0_shortenHooks_27 ml_X0_36 (Nat.le_of_ble_eq_true rfl) (by omega) ?_
      refine kv_callV0 (M2 := M_X4_setReach) (As := [kI (i), kI (if p < kSh f p i 38 (12 + i) then p else kSh f p i 38 (12 + i))]) dX0_shortenHooks_30 ml_X0_42 q_X4_setReach rfl rfl rfl (Nat.le_of_ble_eq_true rfl) (show kF E 0 M_X4_setReach [kA 37, kI i, kI (if p < kSh f p i 38 (12 + i) then p else kSh f p i 38 (12 + i))] ((kMC ++ w), kSh f p i, g) none ((kMC ++ w), k_u (kSh f p i) 38 (12 + i) (if p < kSh f p i 38 (12 + i) then p else kSh f p i 38 (12 + i)), g) from c_setReachR (by unfold kSA; omega) hg (by omega)) (by omega) ?_
      refine kw_iinc dX0_shortenHooks_33 (by decide) rfl ⟨by omega, by omega⟩ trivial (L2 := [some (kA (36)), some (kI (p)), some (kI (i + 1))]) rfl ?_
      refine kw_goto (tgt := 2) dX0_shortenHooks_36 (by decide) ?_
      rw [kSh_s y0.1]
      exact ih (i + 1) ⟨by omega, by omega⟩ (by omega)
theorem c_shorten {E : kEnv} {w : List (Nat × Nat)} {f : Nat → Int → Int} {g : Nat → Int → Option Nat} {p t : Int} (hg : kG g) (ht : f 4 6 = t ∧ 1 ≤ t ∧ t ≤ 4) : kF E 2 M_X0_shortenHooks [kA (36), kI (p)] ((kMC ++ w), f, g) (none) ((kMC ++ w), (kSh f p t), g) := by
  refine kF_of (by decide) (by simp [k_one]) (Nat.le_of_ble_eq_true rfl) (L := [some (kA (36)), some (kI (p)), none]) rfl ?_
  refine kw_iconst dX0_shortenHooks_0 ⟨by decide, by decide⟩ ?_
  refine kw_istore_n dX0_shortenHooks_1 (by decide) trivial (L2 := [some (kA (36)), some (kI (p)), some (kI (0))]) rfl ?_
  have h := l_shorten (E := E) (w := w) (p := p) hg ht _ 0 ⟨by omega, by omega⟩ (Nat.lt_succ_self _)
  rw [kSh_0] at h
  exact h
theorem l_pole {E : kEnv} {w : List (Nat × Nat)} {g : Nat → Int → Option Nat} {T s : Int → Int} {f0 : Nat → Int → Int} {x : Int} (hg : kG g) (hT : mTO T) (hS : mSO T s) (h28 : 0 ≤ s 28 ∧ s 28 ≤ 99) : ∀ (n : Nat) (p : Int) (f : Nat → Int → Int), (1 ≤ p ∧ p ≤ 21) → (21 - p).toNat < n → x = kFirst (fun p => mBit T (mLast T (mClip s p)) = 2 ^ (T 1).toNat - 1) (21 - p).toNat p → RF T f → Sim T f 10 s → kEq f0 f 37 → kW E 6 0 0 M_X6_pole 2 [some (kA 0), some (kI p)] [] ((kMC ++ w), f, g) (fun r h' => r = some (kI x) ∧ ∃ f2, h' = ((kMC ++ w), f2, g) ∧ (RF T f2 ∧ kEq f0 f2 37)) := by
  intro n
  induction n with
  | zero => intro p f _ y; omega
  | succ n ih =>
    intro p f y0 y1 e1 hR hI hq
    have n0 := hT.1
    have n1 := hT.2.1
    have hI0 := hI
    refine kw_iload_n dX6_pole_2 rfl ?_
    refine kw_bipush dX6_pole_3 (by decide) (by decide) ?_
    refine kw_icmp_gt (tgt := 61) dX6_pole_5 (by decide) (fun h1 => ?_) (fun h1 => ?_)
    · refine kw_bipush dX6_pole_61 (by decide) (by decide) ?_
      rw [show (21 - p).toNat = 0 by omega, kFirst] at e1
      exact kv_riE dX6_pole_63 rfl e1.symm ⟨hR, hq⟩
    · refine kw_aload_n dX6_pole_8 rfl ?_
      refine kv_getR (b := 36) dX6_pole_9 kf_X6_47 rfl rfl rfl (hg (0, 5, 36) (by decide)) ?_
      refine kw_aload_n dX6_pole_12 rfl ?_
      refine kv_getR (b := 10) dX6_pole_13 kf_X6_26 rfl rfl rfl (hg (0, 2, 10) (by decide)) ?_
      refine kv_callV0 (M2 := M_X0_begin) (As := [kA (10)]) dX6_pole_16 ml_X6_185 q_X0_begin rfl rfl rfl (Nat.le_of_ble_eq_true rfl) (c_begin hg) (by omega) ?_
      refine kw_aload_n dX6_pole_19 rfl ?_
      refine kv_getR (b := 36) dX6_pole_20 kf_X6_47 rfl rfl rfl (hg (0, 5, 36) (by decide)) ?_
      refine kw_iload_n dX6_pole_23 rfl ?_
      refine kv_callV0 (M2 := M_X0_shortenHooks) (As := [kI (p)]) dX6_pole_24 ml_X6_210 q_X0_shortenHooks rfl rfl rfl (Nat.le_of_ble_eq_true rfl) (c_shorten (t := T 1) hg ⟨by rw [kBec_eq 4 (by omega) (by omega)]; exact hR.2.1, n1.1, n1.2⟩) (by omega) ?_
      refine kw_aload_n dX6_pole_27 rfl ?_
      refine kv_getR (b := 36) dX6_pole_28 kf_X6_47 rfl rfl rfl (hg (0, 5, 36) (by decide)) ?_
      refine kw_bipush dX6_pole_31 (by decide) (by decide) ?_
      refine kv_callV0E (M2 := M_X0_goTo) (As := [kI (99)]) dX6_pole_33 ml_X6_188 q_X0_goTo rfl rfl rfl (Nat.le_of_ble_eq_true rfl) (c_goTo hg hT (mSO_clip (p := p) hT hS ⟨by omega, by omega⟩) (RF_eq (RF_eq hR (by omega) kBec_eq) (by omega) kSh_eq) (Sim_clip hT (Sim_bec hT hI (by omega))) (by rw [mClip_e 28 (by omega)]; omega)) (by omega) (fun f9 hf9 => ?_)
      obtain ⟨hR, hq9, s2, hI, hS2, hst⟩ := hf9
      change mSt T s2 (mLast T (mClip s p)) at hst
      refine kw_aload_n dX6_pole_36 rfl ?_
      refine kv_getR (b := 4) dX6_pole_37 kf_X6_19 rfl rfl rfl (hg (0, 1, 4) (by decide)) ?_
      refine kw_aload_n dX6_pole_40 rfl ?_
      refine kv_getR (b := 36) dX6_pole_41 kf_X6_47 rfl rfl rfl (hg (0, 5, 36) (by decide)) ?_
      refine kv_getR (b := 37) dX6_pole_44 kf_X6_191 rfl rfl rfl (hg (36, 1, 37) (by decide)) ?_
      refine kv_callV1 (M2 := M_X2_areAllWarm) (As := [kA (37)]) dX6_pole_47 ml_X6_213 q_X2_areAllWarm rfl rfl rfl (Nat.le_of_ble_eq_true rfl) (show kF E 3 M_X2_areAllWarm [kA 4, kA 37] ((kMC ++ w), f9, g) (some (kI (if mBit T (mLast T (mClip s p)) = 2 ^ (T 1).toNat - 1 then 1 else 0))) ((kMC ++ w), f9, g) from (mSt_bit hT hst) ▸ c_areAllWarm (by unfold kSA; omega) hg hT hR hI) (by omega) ?_
      refine kv_ifeqB (tgt := 55) dX6_pole_50 (by decide) (fun h2 => ?_) (fun h2 => ?_)
      · refine kw_iinc dX6_pole_55 (by decide) rfl ⟨by omega, by omega⟩ trivial (L2 := [some (kA (0)), some (kI (p + 1))]) rfl ?_
        refine kw_goto (tgt := 2) dX6_pole_58 (by decide) ?_
        rw [show (21 - p).toNat = (21 - (p + 1)).toNat + 1 by omega, kFirst, if_neg h2] at e1
        exact ih (p + 1) _ ⟨by omega, by omega⟩ (by omega) e1 hR (Sim_far hI0 (kEq_tr (kEq_tr kBec_eq kSh_eq) hq9) (by omega) (by omega) (by omega)) (kEq_tr hq (kEq_tr (kEq_tr kBec_eq kSh_eq) hq9))
      · refine kw_iload_n dX6_pole_53 rfl ?_
        rw [show (21 - p).toNat = (21 - (p + 1)).toNat + 1 by omega, kFirst, if_pos h2] at e1
        exact kv_riE dX6_pole_54 rfl e1.symm ⟨hR, kEq_tr hq (kEq_tr (kEq_tr kBec_eq kSh_eq) hq9)⟩
theorem c_pole {E : kEnv} {w : List (Nat × Nat)} {f : Nat → Int → Int} {g : Nat → Int → Option Nat} {T s : Int → Int}  (hg : kG g) (hT : mTO T) (hS : mSO T s) (hR : RF T f) (hI : Sim T f 10 s) (hD : ∀ b, 0 ≤ b → b < T 0 → f 11 b = s b) (h28 : 0 ≤ s 28 ∧ s 28 ≤ 99) : kFE E 6 M_X6_pole [kA (0)] ((kMC ++ w), f, g) (some (kI (sPole T s))) (kMC ++ w) (fun f2 => RF T f2 ∧ kEq f f2 37) g := by
  refine kFE_of (by decide) (by simp [k_one]) (Nat.le_of_ble_eq_true rfl) (L := [some (kA (0)), none]) rfl ?_
  have hF := RF_FO hT hR
  have n0 := hT.1
  have n1 := hT.2.1
  have r0 := hR.1
  have r1 := hR.2.1
  have hSO := Sim_SO hT hS hR hI (by omega)
  have e28 := hI.1
  have e2 := hI.2.1
  have sg := hSO.2.1
  refine kw_iconst dX6_pole_0 ⟨by decide, by decide⟩ ?_
  refine kw_istore_n dX6_pole_1 (by decide) trivial (L2 := [some (kA (0)), some (kI (1))]) rfl ?_
  exact l_pole hg hT hS h28 _ 1 f ⟨by omega, by omega⟩ (Nat.lt_succ_self _) rfl hR hI kEq_rf
