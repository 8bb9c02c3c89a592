/-! the class's loops: who is warm, each for himself -/
theorem mRow_warm {T s : Int → Int} {i : Int} {n : Nat} (h : mWarm T (mRow T i n s) i) : ∀ k : Nat, mRow T i (n + k) s = mRow T i n s
  | 0 => rfl
  | k + 1 => by
    have ih := mRow_warm h k
    rw [show n + (k + 1) = (n + k) + 1 by omega, mRow, ih]
    exact mStep_f (fun z => z.1 h)
theorem l_warmOnes {E : kEnv} {w : List (Nat × Nat)} {f : Nat → Int → Int} {g : Nat → Int → Option Nat} {T s : Int → Int} {a : Nat} (ha : kSA a) (hg : kG g) (hT : mTO T) (hR : RF T f) (hI : Sim T f a s) : ∀ (n : Nat) (i : Int), (0 ≤ i ∧ i ≤ T 1) → (T 1 - i).toNat < n → kW E 2 0 0 M_X2_warmOnes 4 [some (kA 4), some (kA a), some (kI (mBits T s i.toNat)), some (kI i)] [] ((kMC ++ w), f, g) (fun r h' => r = some (kI (mBit T s)) ∧ h' = ((kMC ++ w), f, g)) := by
  intro n
  induction n with
  | zero => intro i _ y; omega
  | succ n ih =>
    intro i y0 y1
    have hF := RF_FO hT hR
    have n0 := hT.1
    have n1 := hT.2.1
    have r0 := hR.1
    have r1 := hR.2.1
    have hl := mBits_lt (T := T) (s := s) i.toNat
    have hp := k_pow4 i.toNat (by omega)
    refine kw_iload_n dX2_warmOnes_4 rfl ?_
    refine kw_aload_n dX2_warmOnes_5 rfl ?_
    refine kv_getI (kz := 6) dX2_warmOnes_6 kf_X2_31 rfl rfl rfl rfl ?_
    refine kw_icmp_ge (tgt := 33) dX2_warmOnes_9 (by decide) (fun h1 => ?_) (fun h1 => ?_)
    · refine kw_iload_n dX2_warmOnes_33 rfl ?_
      exact kv_ri dX2_warmOnes_34 rfl (by rw [show i = T 1 by omega]; rfl) rfl
    · refine kw_aload_n dX2_warmOnes_12 rfl ?_
      refine kw_aload_n dX2_warmOnes_13 rfl ?_
      refine kw_iload_n dX2_warmOnes_14 rfl ?_
      refine kv_callV1 (M2 := M_X2_isWarm) (As := [kA (a), kI (i)]) dX2_warmOnes_15 ml_X2_130 q_X2_isWarm rfl rfl rfl (Nat.le_of_ble_eq_true rfl) (c_isWarm ha hg ⟨by omega, by omega⟩) (by omega) ?_
      refine kv_ifeqB (tgt := 27) dX2_warmOnes_18 (by decide) (fun h2 => ?_) (fun h2 => ?_)
      · refine kw_iinc dX2_warmOnes_27 (by decide) rfl ⟨by omega, by omega⟩ trivial (L2 := [some (kA (4)), some (kA (a)), some (kI (mBits T s i.toNat)), some (kI (i + 1))]) rfl ?_
        refine kw_goto (tgt := 4) dX2_warmOnes_30 (by decide) ?_
        have e1 := mBits_s (T := T) (s := s) y0.1
        have hw := Sim_warm (i := i) hR hI ⟨by omega, by omega⟩
        first | rw [if_pos (hw.mp h2)] at e1 | rw [if_neg (fun z => h2 (hw.mpr z)), Int.add_zero] at e1
        rw [← e1]
        exact ih (i + 1) ⟨by omega, by omega⟩ (by omega)
      · refine kw_iload_n dX2_warmOnes_21 rfl ?_
        refine kw_iconst dX2_warmOnes_22 ⟨by decide, by decide⟩ ?_
        refine kw_iload_n dX2_warmOnes_23 rfl ?_
        refine kv_shl1 dX2_warmOnes_24 (by omega) (by omega) ?_
        refine kv_orb (b := i) dX2_warmOnes_25 (by omega) (by omega) (by omega) (by omega) (by rw [← k_nat y0.1]; simp only [Int.toNat_natCast]; exact mBits_bit) ?_
        refine kw_istore_n dX2_warmOnes_26 (by decide) trivial (L2 := [some (kA (4)), some (kA (a)), some (kI ((mBits T s i.toNat) + 2 ^ i.toNat)), some (kI (i))]) rfl ?_
        refine kw_iinc dX2_warmOnes_27 (by decide) rfl ⟨by omega, by omega⟩ trivial (L2 := [some (kA (4)), some (kA (a)), some (kI ((mBits T s i.toNat) + 2 ^ i.toNat)), some (kI (i + 1))]) rfl ?_
        refine kw_goto (tgt := 4) dX2_warmOnes_30 (by decide) ?_
        have e1 := mBits_s (T := T) (s := s) y0.1
        have hw := Sim_warm (i := i) hR hI ⟨by omega, by omega⟩
        first | rw [if_pos (hw.mp h2)] at e1 | rw [if_neg (fun z => h2 (hw.mpr z)), Int.add_zero] at e1
        rw [← e1]
        exact ih (i + 1) ⟨by omega, by omega⟩ (by omega)
theorem c_warmOnes {E : kEnv} {w : List (Nat × Nat)} {f : Nat → Int → Int} {g : Nat → Int → Option Nat} {T s : Int → Int} {a : Nat} (ha : kSA a) (hg : kG g) (hT : mTO T) (hR : RF T f) (hI : Sim T f a s) : kF E 2 M_X2_warmOnes [kA (4), kA (a)] ((kMC ++ w), f, g) (some (kI (mBit T s))) ((kMC ++ w), f, g) := by
  refine kF_of (by decide) (by simp [k_one]) (Nat.le_of_ble_eq_true rfl) (L := [some (kA (4)), some (kA (a)), none, none]) rfl ?_
  have hF := RF_FO hT hR
  have n0 := hT.1
  have n1 := hT.2.1
  have r0 := hR.1
  have r1 := hR.2.1
  refine kw_iconst dX2_warmOnes_0 ⟨by decide, by decide⟩ ?_
  refine kw_istore_n dX2_warmOnes_1 (by decide) trivial (L2 := [some (kA (4)), some (kA (a)), some (kI (0)), none]) rfl ?_
  refine kw_iconst dX2_warmOnes_2 ⟨by decide, by decide⟩ ?_
  refine kw_istore_n dX2_warmOnes_3 (by decide) trivial (L2 := [some (kA (4)), some (kA (a)), some (kI (0)), some (kI (0))]) rfl ?_
  exact l_warmOnes ha hg hT hR hI _ 0 ⟨by omega, by omega⟩ (Nat.lt_succ_self _)
theorem c_areAllWarm {E : kEnv} {w : List (Nat × Nat)} {f : Nat → Int → Int} {g : Nat → Int → Option Nat} {T s : Int → Int} {a : Nat} (ha : kSA a) (hg : kG g) (hT : mTO T) (hR : RF T f) (hI : Sim T f a s) : kF E 3 M_X2_areAllWarm [kA (4), kA (a)] ((kMC ++ w), f, g) (some (kI (if mBit T s = 2 ^ (T 1).toNat - 1 then 1 else 0))) ((kMC ++ w), f, g) := by
  refine kF_of (by decide) (by simp [k_one]) (Nat.le_of_ble_eq_true rfl) (L := [some (kA (4)), some (kA (a))]) rfl ?_
  have hF := RF_FO hT hR
  have n0 := hT.1
  have n1 := hT.2.1
  have r0 := hR.1
  have r1 := hR.2.1
  have hp := k_pow4 (T 1).toNat (by omega)
  have hq := k_pow (b := T 1) (by omega) (by omega)
  rw [← r1]
  rw [← r1] at hp hq
  refine kw_aload_n dX2_areAllWarm_0 rfl ?_
  refine kw_aload_n dX2_areAllWarm_1 rfl ?_
  refine kv_callV1 (M2 := M_X2_warmOnes) (As := [kA (a)]) dX2_areAllWarm_2 ml_X2_134 q_X2_warmOnes rfl rfl rfl (Nat.le_of_ble_eq_true rfl) (c_warmOnes ha hg hT hR hI) (by omega) ?_
  refine kw_iconst dX2_areAllWarm_5 ⟨by decide, by decide⟩ ?_
  refine kw_aload_n dX2_areAllWarm_6 rfl ?_
  refine kv_getI (kz := 6) dX2_areAllWarm_7 kf_X2_31 rfl rfl rfl rfl ?_
  refine kv_shl1 dX2_areAllWarm_10 (by omega) (by omega) ?_
  refine kw_iconst dX2_areAllWarm_11 ⟨by decide, by decide⟩ ?_
  refine kw_isub dX2_areAllWarm_12 ⟨by omega, by omega⟩ ?_
  refine kw_icmp_ne (tgt := 20) dX2_areAllWarm_13 (by decide) (fun h1 => ?_) (fun h1 => ?_)
  · refine kw_iconst dX2_areAllWarm_20 ⟨by decide, by decide⟩ ?_
    exact kv_rb dX2_areAllWarm_21 rfl (by first | rfl | omega | (split <;> omega) | ((repeat' split) <;> omega) | grind) (by first | rfl | rw [if_pos (by omega)] | rw [if_neg (by omega)] | grind)
  · refine kw_iconst dX2_areAllWarm_16 ⟨by decide, by decide⟩ ?_
    refine kw_goto (tgt := 21) dX2_areAllWarm_17 (by decide) ?_
    exact kv_rb dX2_areAllWarm_21 rfl (by first | rfl | omega | (split <;> omega) | ((repeat' split) <;> omega) | grind) (by first | rfl | rw [if_pos (by omega)] | rw [if_neg (by omega)] | grind)
theorem l_gather1 {E : kEnv} {w : List (Nat × Nat)} {g : Nat → Int → Option Nat} {T s : Int → Int} {f0 : Nat → Int → Int} {d : Nat} {i : Int} {Q : Option kV → kH → Prop} (hd : 4 ≤ d) (hg : kG g) (hT : mTO T) (hS0 : mSO T s) (h28 : 0 ≤ s 28 ∧ s 28 ≤ 300) (hi : 0 ≤ i ∧ i < T 1)
    (hx : ∀ (b : Int) (f : Nat → Int → Int), RF T f → Sim T f 37 (mRow T i (T 0).toNat s) → kEq f0 f 37 → kW E d 0 0 M_X0_gatherToday 80 [some (kA 36), some (kI i), some (kI b)] [] ((kMC ++ w), f, g) Q) : ∀ (n : Nat) (b : Int) (f : Nat → Int → Int), (0 ≤ b ∧ b ≤ T 0) → (T 0 - b).toNat < n → RF T f → Sim T f 37 (mRow T i b.toNat s) → kEq f0 f 37 → kW E d 0 0 M_X0_gatherToday 15 [some (kA 36), some (kI i), some (kI b)] [] ((kMC ++ w), f, g) Q := by
  intro n
  induction n with
  | zero => intro b f _ y; omega
  | succ n ih =>
    intro b f y0 y1 hR hI hq
    have hF := RF_FO hT hR
    have n0 := hT.1
    have n1 := hT.2.1
    have r0 := hR.1
    have r1 := hR.2.1
    have hS := mSO_row hT hS0 hi b.toNat (by omega)
    have hSO := Sim_SO hT hS hR hI (by rw [mRow_28 (s := s) (T := T) ⟨hi.1, by omega⟩ b.toNat (by omega)]; exact h28)
    have hw := Sim_warm (i := i) hR hI hi
    have hc : b < T 0 → (rCan f 37 i b ↔ mCan T (mRow T i b.toNat s) i b) := fun z => Sim_can hT hS hR hI hi ⟨y0.1, z⟩
    have fi := hSO.2.2.2 i hi.1 (by omega)
    have fb : b < T 0 → 1 ≤ f 7 b ∧ f 7 b ≤ 20 := fun z => (hF.2.2.2.2.2.1 b y0.1 (by omega)).2.2
    refine kw_iload_n dX0_gatherToday_15 rfl ?_
    refine kw_aload_n dX0_gatherToday_16 rfl ?_
    refine kv_getR (b := 4) dX0_gatherToday_17 kf_X0_18 rfl rfl rfl (hg (36, 0, 4) (by decide)) ?_
    refine kv_getI (kz := 5) dX0_gatherToday_20 kf_X0_63 rfl rfl rfl rfl ?_
    refine kw_icmp_ge (tgt := 80) dX0_gatherToday_23 (by decide) (fun h1 => ?_) (fun h1 => ?_)
    · have e1 : mRow T i (T 0).toNat s = mRow T i b.toNat s := by
        first
          | rw [show (T 0).toNat = b.toNat by omega]
          | (rw [show (T 0).toNat = b.toNat + ((T 0).toNat - b.toNat) by omega]; exact mRow_warm (hw.mp h2) _)
      rw [← e1] at hI
      exact hx b f hR hI hq
    · refine kw_aload_n dX0_gatherToday_26 rfl ?_
      refine kv_getR (b := 4) dX0_gatherToday_27 kf_X0_18 rfl rfl rfl (hg (36, 0, 4) (by decide)) ?_
      refine kw_aload_n dX0_gatherToday_30 rfl ?_
      refine kv_getR (b := 37) dX0_gatherToday_31 kf_X0_12 rfl rfl rfl (hg (36, 1, 37) (by decide)) ?_
      refine kw_iload_n dX0_gatherToday_34 rfl ?_
      refine kv_callV1 (M2 := M_X2_isWarm) (As := [kA (37), kI (i)]) dX0_gatherToday_35 ml_X0_93 q_X2_isWarm rfl rfl rfl (Nat.le_of_ble_eq_true rfl) (c_isWarm (by unfold kSA; omega) hg ⟨by omega, by omega⟩) (by omega) ?_
      refine kv_ifneB (tgt := 80) dX0_gatherToday_38 (by decide) (fun h2 => ?_) (fun h2 => ?_)
      · have e1 : mRow T i (T 0).toNat s = mRow T i b.toNat s := by
          first
            | rw [show (T 0).toNat = b.toNat by omega]
            | (rw [show (T 0).toNat = b.toNat + ((T 0).toNat - b.toNat) by omega]; exact mRow_warm (hw.mp h2) _)
        rw [← e1] at hI
        exact hx b f hR hI hq
      · refine kw_aload_n dX0_gatherToday_41 rfl ?_
        refine kv_getR (b := 4) dX0_gatherToday_42 kf_X0_18 rfl rfl rfl (hg (36, 0, 4) (by decide)) ?_
        refine kw_aload_n dX0_gatherToday_45 rfl ?_
        refine kv_getR (b := 37) dX0_gatherToday_46 kf_X0_12 rfl rfl rfl (hg (36, 1, 37) (by decide)) ?_
        refine kw_iload_n dX0_gatherToday_49 rfl ?_
        refine kw_iload_n dX0_gatherToday_50 rfl ?_
        refine kv_callV1 (M2 := M_X2_canTake) (As := [kA (37), kI (i), kI (b)]) dX0_gatherToday_51 ml_X0_97 q_X2_canTake rfl rfl rfl (Nat.le_of_ble_eq_true rfl) (c_canTake (by unfold kSA; omega) hg hF ⟨by omega, by omega⟩ ⟨by omega, by omega⟩ hSO) (by omega) ?_
        refine kv_ifeqB (tgt := 74) dX0_gatherToday_54 (by decide) (fun h3 => ?_) (fun h3 => ?_)
        · refine kw_iinc dX0_gatherToday_74 (by decide) rfl ⟨by omega, by omega⟩ trivial (L2 := [some (kA (36)), some (kI (i)), some (kI (b + 1))]) rfl ?_
          refine kw_goto (tgt := 15) dX0_gatherToday_77 (by decide) ?_
          have e1 : mRow T i (b + 1).toNat s = mRow T i b.toNat s := by
            rw [mRow_s y0.1]
            exact mStep_f (fun z => h3 ((hc (by omega)).mpr z.2))
          refine ih (b + 1) f ⟨by omega, by omega⟩ (by omega) hR ?_ hq
          rw [e1]
          exact hI
        · refine kw_aload_n dX0_gatherToday_57 rfl ?_
          refine kv_getR (b := 37) dX0_gatherToday_58 kf_X0_12 rfl rfl rfl (hg (36, 1, 37) (by decide)) ?_
          refine kw_iload_n dX0_gatherToday_61 rfl ?_
          refine kw_iload_n dX0_gatherToday_62 rfl ?_
          refine kw_aload_n dX0_gatherToday_63 rfl ?_
          refine kv_getR (b := 4) dX0_gatherToday_64 kf_X0_18 rfl rfl rfl (hg (36, 0, 4) (by decide)) ?_
          refine kw_iload_n dX0_gatherToday_67 rfl ?_
          refine kv_callV1 (M2 := M_X2_weight) (As := [kI (b)]) dX0_gatherToday_68 ml_X0_101 q_X2_weight rfl rfl rfl (Nat.le_of_ble_eq_true rfl) (c_weight hg ⟨by omega, by omega⟩) (by omega) ?_
          have fb2 := fb (by omega)
          have hb0 : kbit (f 37 2) b = 0 := by
            have z := h3.1
            have z2 := Int.emod_two_eq (f 37 2 / 2 ^ b.toNat)
            unfold kbit at z ⊢
            omega
          refine kv_callV0 (M2 := M_X4_pick) (As := [kI (i), kI (b), kI (f 7 b)]) dX0_gatherToday_71 ml_X0_104 q_X4_pick rfl rfl rfl (Nat.le_of_ble_eq_true rfl) (show kF E 0 M_X4_pick [kA 37, kI i, kI b, kI (f 7 b)] ((kMC ++ w), f, g) none ((kMC ++ w), kPick f 37 i b (f 7 b), g) from c_pick (by unfold kSA; omega) hg hSO.2.1 ⟨by omega, by omega⟩ ⟨by omega, by omega⟩ hb0 (by omega) (by omega) (by omega)) (by omega) ?_
          refine kw_iinc dX0_gatherToday_74 (by decide) rfl ⟨by omega, by omega⟩ trivial (L2 := [some (kA (36)), some (kI (i)), some (kI (b + 1))]) rfl ?_
          refine kw_goto (tgt := 15) dX0_gatherToday_77 (by decide) ?_
          have e1 : mRow T i (b + 1).toNat s = mTakes T (mRow T i b.toNat s) i b := by
            rw [mRow_s y0.1]
            exact mStep_t (fun z => h2 (hw.mpr z)) ((hc (by omega)).mp h3)
          refine ih (b + 1) _ ⟨by omega, by omega⟩ (by omega) (RF_eq hR (by omega) kPick_eq) ?_ (kEq_tr hq kPick_eq)
          rw [e1]
          exact Sim_pick hT hI hi ⟨by omega, by omega⟩ ((hc (by omega)).mp h3).1 (hR.2.2.2.2.2.1 b (by omega) (by omega)).2.2
