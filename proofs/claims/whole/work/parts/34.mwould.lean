/-! the model: what would be -/
theorem mBits_get {T s : Int → Int} {i : Int} : ∀ n : Nat, 0 ≤ i → i < n → (kbit (mBits T s n) i = 1 ↔ mWarm T s i)
  | 0, h0, h1 => absurd h1 (by omega)
  | n + 1, h0, h1 => by
    have hl := mBits_lt (T := T) (s := s) n
    by_cases e : i = n
    · subst e
      unfold kbit
      rw [Int.toNat_natCast, mBits]
      by_cases q : mWarm T s n
      · rw [if_pos q, show mBits T s n + 2 ^ n = mBits T s n + 1 * 2 ^ n by omega, Int.add_mul_ediv_right _ _ (by omega), Int.ediv_eq_zero_of_lt hl.1 hl.2]
        exact ⟨fun _ => q, fun _ => rfl⟩
      · rw [if_neg q, Int.add_zero, Int.ediv_eq_zero_of_lt hl.1 hl.2]
        exact ⟨fun z => absurd z (by decide), fun z => absurd z q⟩
    · rw [← mBits_get n h0 (by omega)]
      unfold kbit
      rw [mBits]
      have hi : (i.toNat : Int) = i := by omega
      obtain ⟨m, hm⟩ := Nat.exists_eq_add_of_lt (show i.toNat < n by omega)
      have hp : (2 : Int) ^ n = 2 * 2 ^ m * 2 ^ i.toNat := by
        rw [hm, show i.toNat + m + 1 = 1 + m + i.toNat by omega, Int.pow_add, Int.pow_add]
        rfl
      have hz : (2 : Int) ^ i.toNat ≠ 0 := by
        have : (0 : Int) < 2 ^ i.toNat := Int.pow_pos (by decide)
        omega
      by_cases q : mWarm T s n
      · rw [if_pos q, hp, Int.add_mul_ediv_right _ _ hz]
        rw [show (mBits T s n / 2 ^ i.toNat + 2 * 2 ^ m) % 2 = mBits T s n / 2 ^ i.toNat % 2 by rw [Int.add_mul_emod_self_left]]
      · rw [if_neg q, Int.add_zero]
theorem kW_mono {E : kEnv} {d mc ms : Nat} {M : kMd} {pc : Nat} {L : kLs} {S : List kV} {h : kH} {Q Q2 : Option kV → kH → Prop} (hq : ∀ r h2, Q r h2 → Q2 r h2) (k : kW E d mc ms M pc L S h Q) : kW E d mc ms M pc L S h Q2 := by
  intro p e R s mm args below meth c H ls locs cells slots QQ cx g1 g2 hl hS hH hR hV kk
  exact k p e R s mm args below meth c H ls locs cells slots QQ cx g1 g2 hl hS hH hR hV (fun ls2 S2 pc2 h2 H2 locs2 cells2 slots2 r z1 z2 => kk ls2 S2 pc2 h2 H2 locs2 cells2 slots2 r z1 (hq r h2 z2))
theorem l_mallWarm {E : kEnv} {f : Nat → Int → Int} {s : Int → Int} {g : Nat → Int → Option Nat} {y : Int} (hm : kGM g) (hT : mTO (f 47)) (hH : ∀ j, 0 ≤ j ∧ j < 29 → f 53 j = s j) : ∀ (n : Nat) (t : Int → Int) (x : Int), (0 ≤ t 28 ∧ t 28 ≤ 100) → (100 - t 28).toNat < n → mSO (f 47) t → mOut s t → y = (if x = -4 then sAW (f 47) (100 - t 28).toNat t else x) → kW E 4 0 0 M_X7_allWarm 7 [some (kA 45), some (kI x)] [] ((kMC ++ kMM), kst f 50 t, g) (fun r h' => r = some (kI y) ∧ h' = ((kMC ++ kMM), kst f 50 s, g)) := by
  intro n
  induction n with
  | zero => intro t x _ q; omega
  | succ n ih =>
    intro t x y0 y1 hS ho z1
    have n0 := hT.1
    have n1 := hT.2.1
    have e28 := mEach_28 (s := t) hT
    have hp := k_pow4 (f 47 1).toNat (by omega)
    have hq := k_pow (b := f 47 1) (by omega) (by omega)
    refine kw_aload_n dX7_allWarm_7 rfl ?_
    refine kv_getR (b := 50) dX7_allWarm_8 kf_X7_22 rfl rfl rfl (hm (45, 5, 50) (by decide)) ?_
    refine kw_bipush dX7_allWarm_11 (by decide) (by decide) ?_
    refine kv_iald dX7_allWarm_13 rfl (by omega) (by omega) (congrFun kst_self _) ?_
    refine kw_bipush dX7_allWarm_14 (by decide) (by decide) ?_
    refine kw_icmp_gt (tgt := 66) dX7_allWarm_16 (by decide) (fun h1 => ?_) (fun h1 => ?_)
    · refine kw_aload_n dX7_allWarm_66 rfl ?_
      refine kv_callV0 (M2 := M_X7_lets) (As := []) dX7_allWarm_67 ml_X7_135 q_X7_lets rfl rfl rfl (Nat.le_of_ble_eq_true rfl) (c_mlets (s := s) hm hH ho) (by omega) ?_
      refine kw_iload_n dX7_allWarm_70 rfl ?_
      exact kv_ri dX7_allWarm_71 rfl (by split at z1 <;> first | omega | (rw [show (100 - t 28).toNat = 0 by omega, sAW] at z1; omega)) rfl
    · refine kw_iload_n dX7_allWarm_19 rfl ?_
      refine kw_bipush dX7_allWarm_20 (by decide) (by decide) ?_
      refine kw_icmp_ne (tgt := 66) dX7_allWarm_22 (by decide) (fun h2 => ?_) (fun h2 => ?_)
      · refine kw_aload_n dX7_allWarm_66 rfl ?_
        refine kv_callV0 (M2 := M_X7_lets) (As := []) dX7_allWarm_67 ml_X7_135 q_X7_lets rfl rfl rfl (Nat.le_of_ble_eq_true rfl) (c_mlets (s := s) hm hH ho) (by omega) ?_
        refine kw_iload_n dX7_allWarm_70 rfl ?_
        exact kv_ri dX7_allWarm_71 rfl (by split at z1 <;> first | omega | (rw [show (100 - t 28).toNat = 0 by omega, sAW] at z1; omega)) rfl
      · refine kw_aload_n dX7_allWarm_25 rfl ?_
        refine kv_callV0 (M2 := M_X7_eachTakes) (As := []) dX7_allWarm_26 ml_X7_123 q_X7_eachTakes rfl rfl rfl (Nat.le_of_ble_eq_true rfl) (c_meach hm hT hS) (by omega) ?_
        refine kw_aload_n dX7_allWarm_29 rfl ?_
        refine kv_callV1 (M2 := M_X7_warm) (As := []) dX7_allWarm_30 ml_X7_126 q_X7_warm rfl rfl rfl (Nat.le_of_ble_eq_true rfl) (c_mwarm hm hT) (by omega) ?_
        refine kw_iconst dX7_allWarm_33 ⟨by decide, by decide⟩ ?_
        refine kw_aload_n dX7_allWarm_34 rfl ?_
        refine kv_getR (b := 47) dX7_allWarm_35 kf_X7_13 rfl rfl rfl (hm (45, 2, 47) (by decide)) ?_
        refine kw_iconst dX7_allWarm_38 ⟨by decide, by decide⟩ ?_
        refine kv_iald dX7_allWarm_39 rfl (by omega) (by omega) (congrFun (kst_ne (by decide)) _) ?_
        refine kv_shl1 dX7_allWarm_40 (by omega) (by omega) ?_
        refine kw_iconst dX7_allWarm_41 ⟨by decide, by decide⟩ ?_
        refine kw_isub dX7_allWarm_42 ⟨by omega, by omega⟩ ?_
        refine kw_icmp_ne (tgt := 56) dX7_allWarm_43 (by decide) (fun h3 => ?_) (fun h3 => ?_)
        · refine kw_bipush dX7_allWarm_56 (by decide) (by decide) ?_
          refine kw_istore_n dX7_allWarm_58 (by decide) trivial (L2 := [some (kA (45)), some (kI (-4))]) rfl ?_
          refine kw_aload_n dX7_allWarm_59 rfl ?_
          refine kv_callV0 (M2 := M_X7_passes) (As := []) dX7_allWarm_60 ml_X7_120 q_X7_passes rfl rfl rfl (Nat.le_of_ble_eq_true rfl) (c_mpasses hm (by omega)) (by omega) ?_
          refine kw_goto (tgt := 7) dX7_allWarm_63 (by decide) ?_
          have e5 : mPass (mEach (f 47) t) 28 = t 28 + 1 := by rw [mPass_d, mEach_28 hT]
          rw [if_pos (by omega), show (100 - t 28).toNat = (100 - (t 28 + 1)).toNat + 1 by omega, sAW] at z1
          rw [if_neg h3] at z1
          exact ih (mPass (mEach (f 47) t)) _ (by omega) (by omega) (mSO_pass hT (mSO_each hT hS)) (mOut_pass (mOut_each hT ho)) (by rw [e5]; rw [if_pos rfl]; exact z1)
        · refine kw_aload_n dX7_allWarm_46 rfl ?_
          refine kv_getR (b := 50) dX7_allWarm_47 kf_X7_22 rfl rfl rfl (hm (45, 5, 50) (by decide)) ?_
          refine kw_bipush dX7_allWarm_50 (by decide) (by decide) ?_
          refine kv_iald dX7_allWarm_52 rfl (by omega) (by omega) (congrFun kst_self _) ?_
          refine kw_goto (tgt := 58) dX7_allWarm_53 (by decide) ?_
          refine kw_istore_n dX7_allWarm_58 (by decide) trivial (L2 := [some (kA (45)), some (kI ((mEach (f 47) t) 28))]) rfl ?_
          refine kw_aload_n dX7_allWarm_59 rfl ?_
          refine kv_callV0 (M2 := M_X7_passes) (As := []) dX7_allWarm_60 ml_X7_120 q_X7_passes rfl rfl rfl (Nat.le_of_ble_eq_true rfl) (c_mpasses hm (by omega)) (by omega) ?_
          refine kw_goto (tgt := 7) dX7_allWarm_63 (by decide) ?_
          have e5 : mPass (mEach (f 47) t) 28 = t 28 + 1 := by rw [mPass_d, mEach_28 hT]
          rw [if_pos (by omega), show (100 - t 28).toNat = (100 - (t 28 + 1)).toNat + 1 by omega, sAW] at z1
          rw [if_pos (Decidable.of_not_not h3)] at z1
          exact ih (mPass (mEach (f 47) t)) _ (by omega) (by omega) (mSO_pass hT (mSO_each hT hS)) (mOut_pass (mOut_each hT ho)) (by rw [e5]; rw [if_neg (by omega)]; omega)
theorem c_mallWarm {E : kEnv} {f : Nat → Int → Int} {s : Int → Int} {g : Nat → Int → Option Nat}  (hm : kGM g) (hT : mTO (f 47)) (hS : mSO (f 47) s) (h28 : 0 ≤ s 28 ∧ s 28 ≤ 99) : kFE E 4 M_X7_allWarm [kA (45)] ((kMC ++ kMM), kst f 50 s, g) (some (kI (sAW (f 47) (100 - s 28).toNat s))) (kMC ++ kMM) (fun h2 => h2 = kst f 50 s ∨ h2 = kst (kHd f s 29) 50 s) g := by
  refine kFE_of (by decide) (by simp [k_one]) (Nat.le_of_ble_eq_true rfl) (L := [some (kA (45)), none]) rfl ?_
  have n0 := hT.1
  have n1 := hT.2.1
  refine kw_aload_n dX7_allWarm_0 rfl ?_
  refine kv_callV0 (M2 := M_X7_holds) (As := []) dX7_allWarm_1 ml_X7_129 q_X7_holds rfl rfl rfl (Nat.le_of_ble_eq_true rfl) (c_mholds hm) (by omega) ?_
  refine kw_bipush dX7_allWarm_4 (by decide) (by decide) ?_
  refine kw_istore_n dX7_allWarm_6 (by decide) trivial (L2 := [some (kA (45)), some (kI (-4))]) rfl ?_
  refine kW_mono (fun r h z => ?_) (l_mallWarm (f := (kHd f s 29)) (s := s) hm (show mTO ((kHd f s 29) 47) from hT) (fun j hj => if_pos ⟨rfl, hj.1, hj.2⟩) _ s (-4) ⟨by omega, by omega⟩ (Nat.lt_succ_self _) hS mOut_rf (if_pos rfl).symm)
  exact ⟨z.1, _, z.2, Or.inr rfl⟩
theorem l_mleastHook {E : kEnv} {f : Nat → Int → Int} {s : Int → Int} {g : Nat → Int → Option Nat} {i : Int} (hm : kGM g) (hT : mTO (f 47)) (hS : mSO (f 47) s) (h28 : 0 ≤ s 28 ∧ s 28 ≤ 99) (hi : 0 ≤ i ∧ i < f 47 1) (hH : ∀ j, 0 ≤ j ∧ j < 29 → f 53 j = s j) : ∀ (n : Nat) (r x : Int), (0 ≤ r ∧ r ≤ 20) → r.toNat < n → x = kFirst (fun r => mWarm (f 47) (mLast (f 47) (upi s (16 + i) r)) i) (21 - (r + 1)).toNat (r + 1) → kW E 5 0 0 M_X7_leastHook 20 [some (kA 45), some (kI i), some (kI x), some (kI r)] [] ((kMC ++ kMM), kst f 50 s, g) (fun r h' => r = some (kI (kFirst (fun r => mWarm (f 47) (mLast (f 47) (upi s (16 + i) r)) i) 20 1)) ∧ h' = ((kMC ++ kMM), kst f 50 s, g)) := by
  intro n
  induction n with
  | zero => intro r x _ q; omega
  | succ n ih =>
    intro r x y0 y1 z1
    have n0 := hT.1
    have n1 := hT.2.1
    have hp := k_pow4 (f 47 1).toNat (by omega)
    have hS2 : 1 ≤ r → mSO (f 47) (upi s (16 + i) r) := fun q => mSO_hook hT hS hi ⟨q, y0.2⟩
    refine kw_iload_n dX7_leastHook_20 rfl ?_
    refine kw_if_le (tgt := 64) dX7_leastHook_21 (by decide) (fun h1 => ?_) (fun h1 => ?_)
    · refine kw_iload_n dX7_leastHook_64 rfl ?_
      exact kv_ri dX7_leastHook_65 rfl (by rw [z1, show r = 0 by omega]; rfl) rfl
    · refine kw_aload_n dX7_leastHook_24 rfl ?_
      refine kv_getR (b := 50) dX7_leastHook_25 kf_X7_22 rfl rfl rfl (hm (45, 5, 50) (by decide)) ?_
      refine kw_bipush dX7_leastHook_28 (by decide) (by decide) ?_
      refine kw_iload_n dX7_leastHook_30 rfl ?_
      refine kw_iadd dX7_leastHook_31 ⟨by omega, by omega⟩ ?_
      refine kw_iload_n dX7_leastHook_32 rfl ?_
      refine kv_iast dX7_leastHook_33 rfl (by omega) (by omega) ?_
      rw [kst_u]
      refine kw_aload_n dX7_leastHook_34 rfl ?_
      refine kw_bipush dX7_leastHook_35 (by decide) (by decide) ?_
      refine kv_callV1 (M2 := M_X7_warmAt) (As := [kI (99)]) dX7_leastHook_37 ml_X7_132 q_X7_warmAt rfl rfl rfl (Nat.le_of_ble_eq_true rfl) (show kF E 4 M_X7_warmAt [kA 45, kI 99] ((kMC ++ kMM), kst f 50 (upi s (16 + i) r), g) (some (kI (mBit (f 47) (mLast (f 47) (upi s (16 + i) r))))) ((kMC ++ kMM), kst f 50 (mLast (f 47) (upi s (16 + i) r)), g) from c_mwarmAt (s := (upi s (16 + i) r)) hm hT (hS2 (by omega)) (by rw [upi_reach (by omega) 28 (by omega)]; omega)) (by omega) ?_
      have hz : 0 ≤ mBit (f 47) (mLast (f 47) (upi s (16 + i) r)) ∧ mBit (f 47) (mLast (f 47) (upi s (16 + i) r)) < 2 ^ (f 47 1).toNat := mBits_lt (f 47 1).toNat
      have hz2 := Int.ediv_le_self (2 ^ i.toNat) hz.1
      have hz3 := Int.ediv_nonneg (b := 2 ^ i.toNat) hz.1 (Int.le_of_lt (Int.pow_pos (by decide)))
      refine kw_iload_n dX7_leastHook_40 rfl ?_
      refine kv_shr dX7_leastHook_41 (by omega) (by omega) (by omega) (by omega) ?_
      refine kw_iconst dX7_leastHook_42 ⟨by decide, by decide⟩ ?_
      refine kv_and1 dX7_leastHook_43 (by omega) (by omega) ?_
      refine kw_iconst dX7_leastHook_44 ⟨by decide, by decide⟩ ?_
      refine kw_icmp_ne (tgt := 52) dX7_leastHook_45 (by decide) (fun h2 => ?_) (fun h2 => ?_)
      · refine kw_iload_n dX7_leastHook_52 rfl ?_
        refine kw_istore_n dX7_leastHook_53 (by decide) trivial (L2 := [some (kA (45)), some (kI (i)), some (kI (x)), some (kI (r))]) rfl ?_
        refine kw_aload_n dX7_leastHook_54 rfl ?_
        refine kv_callV0 (M2 := M_X7_lets) (As := []) dX7_leastHook_55 ml_X7_135 q_X7_lets rfl rfl rfl (Nat.le_of_ble_eq_true rfl) (c_mlets (s := s) hm hH (mOut_each hT (mOut_at hT (mOut_u mOut_rf (by omega)) _))) (by omega) ?_
        refine kw_iinc dX7_leastHook_58 (by decide) rfl ⟨by omega, by omega⟩ trivial (L2 := [some (kA (45)), some (kI (i)), some (kI (x)), some (kI (r + (-1)))]) rfl ?_
        refine kw_goto (tgt := 20) dX7_leastHook_61 (by decide) ?_
        have hw := mBits_get (T := f 47) (s := mLast (f 47) (upi s (16 + i) r)) (f 47 1).toNat hi.1 (by omega)
        exact ih (r - 1) _ ⟨by omega, by omega⟩ (by omega) (by rw [show r - 1 + 1 = r by omega, show (21 - r).toNat = (21 - (r + 1)).toNat + 1 by omega, kFirst]; exact z1.trans (if_neg (fun q => h2 (hw.mpr q))).symm)
      · refine kw_iload_n dX7_leastHook_48 rfl ?_
        refine kw_goto (tgt := 53) dX7_leastHook_49 (by decide) ?_
        refine kw_istore_n dX7_leastHook_53 (by decide) trivial (L2 := [some (kA (45)), some (kI (i)), some (kI (r)), some (kI (r))]) rfl ?_
        refine kw_aload_n dX7_leastHook_54 rfl ?_
        refine kv_callV0 (M2 := M_X7_lets) (As := []) dX7_leastHook_55 ml_X7_135 q_X7_lets rfl rfl rfl (Nat.le_of_ble_eq_true rfl) (c_mlets (s := s) hm hH (mOut_each hT (mOut_at hT (mOut_u mOut_rf (by omega)) _))) (by omega) ?_
        refine kw_iinc dX7_leastHook_58 (by decide) rfl ⟨by omega, by omega⟩ trivial (L2 := [some (kA (45)), some (kI (i)), some (kI (r)), some (kI (r + (-1)))]) rfl ?_
        refine kw_goto (tgt := 20) dX7_leastHook_61 (by decide) ?_
        have hw := mBits_get (T := f 47) (s := mLast (f 47) (upi s (16 + i) r)) (f 47 1).toNat hi.1 (by omega)
        exact ih (r - 1) _ ⟨by omega, by omega⟩ (by omega) (by rw [show r - 1 + 1 = r by omega, show (21 - r).toNat = (21 - (r + 1)).toNat + 1 by omega, kFirst]; exact (if_pos (hw.mp (Decidable.of_not_not h2))).symm)
theorem c_mleastHook {E : kEnv} {f : Nat → Int → Int} {s : Int → Int} {g : Nat → Int → Option Nat} {i : Int} (hm : kGM g) (hT : mTO (f 47)) (hS : mSO (f 47) s) (h28 : 0 ≤ s 28 ∧ s 28 ≤ 99) : kFE E 5 M_X7_leastHook [kA (45), kI (i)] ((kMC ++ kMM), kst f 50 s, g) (some (kI (sLeast (f 47) s i))) (kMC ++ kMM) (fun h2 => h2 = kst f 50 s ∨ h2 = kst (kHd f s 29) 50 s) g := by
  refine kFE_of (by decide) (by simp [k_one]) (Nat.le_of_ble_eq_true rfl) (L := [some (kA (45)), some (kI (i)), none, none]) rfl ?_
  have n0 := hT.1
  have n1 := hT.2.1
  refine kw_aload_n dX7_leastHook_0 rfl ?_
  refine kw_iload_n dX7_leastHook_1 rfl ?_
  refine kv_callV1 (M2 := M_X7_isTenant) (As := [kI (i)]) dX7_leastHook_2 ml_X7_100 q_X7_isTenant rfl rfl rfl (Nat.le_of_ble_eq_true rfl) (c_misTenant hm hT) (by omega) ?_
  refine kv_ifneB (tgt := 10) dX7_leastHook_5 (by decide) (fun h1 => ?_) (fun h1 => ?_)
  · refine kw_aload_n dX7_leastHook_10 rfl ?_
    refine kv_callV0 (M2 := M_X7_holds) (As := []) dX7_leastHook_11 ml_X7_129 q_X7_holds rfl rfl rfl (Nat.le_of_ble_eq_true rfl) (c_mholds hm) (by omega) ?_
    refine kw_bipush dX7_leastHook_14 (by decide) (by decide) ?_
    refine kw_istore_n dX7_leastHook_16 (by decide) trivial (L2 := [some (kA (45)), some (kI (i)), some (kI (-4)), none]) rfl ?_
    refine kw_bipush dX7_leastHook_17 (by decide) (by decide) ?_
    refine kw_istore_n dX7_leastHook_19 (by decide) trivial (L2 := [some (kA (45)), some (kI (i)), some (kI (-4)), some (kI (20))]) rfl ?_
    refine kW_mono (fun r h z => ?_) (l_mleastHook (f := (kHd f s 29)) (s := s) hm (show mTO ((kHd f s 29) 47) from hT) hS h28 (show 0 ≤ i ∧ i < (kHd f s 29) 47 1 from (show 0 ≤ i ∧ i < f 47 1 by omega)) (fun j hj => if_pos ⟨rfl, hj.1, hj.2⟩) _ 20 (-4) ⟨by omega, by omega⟩ (Nat.lt_succ_self _) rfl)
    exact ⟨z.1.trans (by unfold sLeast; rw [if_pos (by omega)]; rfl), _, z.2, Or.inr rfl⟩
  · refine kw_iconst dX7_leastHook_8 ⟨by decide, by decide⟩ ?_
    exact kv_riE dX7_leastHook_9 rfl (Eq.symm (by unfold sLeast; rw [if_neg (by omega)])) (Or.inl rfl)
def kClp (s : Int → Int) (p k : Int) : Int → Int := fun j => if 16 ≤ j ∧ j < 16 + k then (if p < s j then p else s j) else s j
theorem kClp_0 {s : Int → Int} {p : Int} : kClp s p 0 = s := by
  funext j
  exact if_neg (by omega)
theorem kClp_s {s : Int → Int} {p k v : Int} (h : 0 ≤ k) (e : v = if p < s (16 + k) then p else s (16 + k)) : upi (kClp s p k) (16 + k) v = kClp s p (k + 1) := by
  funext j
  by_cases q : j = 16 + k
  · rw [q, upi_self, e]; exact (if_pos (by omega)).symm
  · rw [upi_ne q]
    unfold kClp
    by_cases q2 : 16 ≤ j ∧ j < 16 + k
    · exact (if_pos q2).trans (if_pos (by omega)).symm
    · exact (if_neg q2).trans (if_neg (by omega)).symm
theorem kClp_4 {s : Int → Int} {p : Int} : kClp s p 4 = mClip s p := by
  funext j
  by_cases q : 16 ≤ j ∧ j < 20
  · have e := mClip_r (s := s) (p := p) (i := j - 16) (by omega)
    rw [show 16 + (j - 16) = j by omega] at e
    rw [e]
    exact if_pos (by omega)
  · rw [mClip_e j (by omega)]
    exact if_neg (by omega)
theorem mOut_clip {s t : Int → Int} {p : Int} (h : mOut s t) : mOut s (mClip t p) := by
  unfold mClip
  exact mOut_u (mOut_u (mOut_u (mOut_u h ⟨by decide, by decide⟩) ⟨by decide, by decide⟩) ⟨by decide, by decide⟩) ⟨by decide, by decide⟩
theorem l_mclip {E : kEnv} {f : Nat → Int → Int} {s : Int → Int} {g : Nat → Int → Option Nat} {d : Nat} {x p : Int} {Q : Option kV → kH → Prop} (hm : kGM g) (hx : kW E d 0 0 M_X7_pole 62 [some (kA 45), some (kI x), some (kI p), some (kI 4)] [] ((kMC ++ kMM), kst f 50 (mClip s p), g) Q) : ∀ (n : Nat) (k : Int), (0 ≤ k ∧ k ≤ 4) → (4 - k).toNat < n → kW E d 0 0 M_X7_pole 16 [some (kA 45), some (kI x), some (kI p), some (kI k)] [] ((kMC ++ kMM), kst f 50 (kClp s p k), g) Q := by
  intro n
  induction n with
  | zero => intro k _ q; omega
  | succ n ih =>
    intro k y0 y1
    refine kw_iload_n dX7_pole_16 rfl ?_
    refine kw_iconst dX7_pole_17 ⟨by decide, by decide⟩ ?_
    refine kw_icmp_ge (tgt := 62) dX7_pole_18 (by decide) (fun h1 => ?_) (fun h1 => ?_)
    · have e1 : k = 4 := by omega
      subst e1
      rw [kClp_4]
      exact hx
    · refine kw_aload_n dX7_pole_21 rfl ?_
      refine kv_getR (b := 50) dX7_pole_22 kf_X7_22 rfl rfl rfl (hm (45, 5, 50) (by decide)) ?_
      refine kw_bipush dX7_pole_25 (by decide) (by decide) ?_
      refine kw_iload_n dX7_pole_27 rfl ?_
      refine kw_iadd dX7_pole_28 ⟨by omega, by omega⟩ ?_
      refine kw_aload_n dX7_pole_29 rfl ?_
      refine kv_getR (b := 50) dX7_pole_30 kf_X7_22 rfl rfl rfl (hm (45, 5, 50) (by decide)) ?_
      refine kw_bipush dX7_pole_33 (by decide) (by decide) ?_
      refine kw_iload_n dX7_pole_35 rfl ?_
      refine kw_iadd dX7_pole_36 ⟨by omega, by omega⟩ ?_
      refine kv_iald dX7_pole_37 rfl (by omega) (by omega) (congrFun kst_self _) ?_
      refine kw_iload_n dX7_pole_38 rfl ?_
      have z0 : kClp s p k (16 + k) = s (16 + k) := if_neg (by omega)
      refine kw_icmp_le (tgt := 46) dX7_pole_39 (by decide) (fun h2 => ?_) (fun h2 => ?_)
      · refine kw_aload_n dX7_pole_46 rfl ?_
        refine kv_getR (b := 50) dX7_pole_47 kf_X7_22 rfl rfl rfl (hm (45, 5, 50) (by decide)) ?_
        refine kw_bipush dX7_pole_50 (by decide) (by decide) ?_
        refine kw_iload_n dX7_pole_52 rfl ?_
        refine kw_iadd dX7_pole_53 ⟨by omega, by omega⟩ ?_
        refine kv_iald dX7_pole_54 rfl (by omega) (by omega) (congrFun kst_self _) ?_
        refine kv_iast dX7_pole_55 rfl (by omega) (by omega) ?_
        rw [kst_u]
        refine kw_iinc dX7_pole_56 (by decide) rfl ⟨by omega, by omega⟩ trivial (L2 := [some (kA (45)), some (kI (x)), some (kI (p)), some (kI (k + 1))]) rfl ?_
        refine kw_goto (tgt := 16) dX7_pole_59 (by decide) ?_
        rw [kClp_s y0.1 (by have z : kClp s p k (16 + k) = s (16 + k) := if_neg (by omega)
                            first | rw [if_pos (by omega)] | (rw [if_neg (by omega)]; exact z))]
        exact ih (k + 1) ⟨by omega, by omega⟩ (by omega)
      · refine kw_iload_n dX7_pole_42 rfl ?_
        refine kw_goto (tgt := 55) dX7_pole_43 (by decide) ?_
        refine kv_iast dX7_pole_55 rfl (by omega) (by omega) ?_
        rw [kst_u]
        refine kw_iinc dX7_pole_56 (by decide) rfl ⟨by omega, by omega⟩ trivial (L2 := [some (kA (45)), some (kI (x)), some (kI (p)), some (kI (k + 1))]) rfl ?_
        refine kw_goto (tgt := 16) dX7_pole_59 (by decide) ?_
        rw [kClp_s y0.1 (by have z : kClp s p k (16 + k) = s (16 + k) := if_neg (by omega)
                            first | rw [if_pos (by omega)] | (rw [if_neg (by omega)]; exact z))]
        exact ih (k + 1) ⟨by omega, by omega⟩ (by omega)
theorem l_mclip0 {E : kEnv} {f : Nat → Int → Int} {s : Int → Int} {g : Nat → Int → Option Nat} {d : Nat} {x p : Int} {Q : Option kV → kH → Prop} (hm : kGM g) (hx : kW E d 0 0 M_X7_pole 62 [some (kA 45), some (kI x), some (kI p), some (kI 4)] [] ((kMC ++ kMM), kst f 50 (mClip s p), g) Q) : kW E d 0 0 M_X7_pole 16 [some (kA 45), some (kI x), some (kI p), some (kI 0)] [] ((kMC ++ kMM), kst f 50 s, g) Q := by
  have h := l_mclip hm hx _ 0 ⟨by omega, by omega⟩ (Nat.lt_succ_self _)
  rw [kClp_0] at h
  exact h
theorem l_mpole {E : kEnv} {f : Nat → Int → Int} {s : Int → Int} {g : Nat → Int → Option Nat} (hm : kGM g) (hT : mTO (f 47)) (hS : mSO (f 47) s) (h28 : 0 ≤ s 28 ∧ s 28 ≤ 99) (hH : ∀ j, 0 ≤ j ∧ j < 29 → f 53 j = s j) : ∀ (n : Nat) (p x : Int) (o : Option kV), (0 ≤ p ∧ p ≤ 20) → p.toNat < n → x = kFirst (fun p => mBit (f 47) (mLast (f 47) (mClip s p)) = 2 ^ (f 47 1).toNat - 1) (21 - (p + 1)).toNat (p + 1) → kW E 5 0 0 M_X7_pole 10 [some (kA 45), some (kI x), some (kI p), o] [] ((kMC ++ kMM), kst f 50 s, g) (fun r h' => r = some (kI (kFirst (fun p => mBit (f 47) (mLast (f 47) (mClip s p)) = 2 ^ (f 47 1).toNat - 1) 20 1)) ∧ h' = ((kMC ++ kMM), kst f 50 s, g)) := by
  intro n
  induction n with
  | zero => intro p x o _ q; omega
  | succ n ih =>
    intro p x o y0 y1 z1
    have n0 := hT.1
    have n1 := hT.2.1
    have hp := k_pow4 (f 47 1).toNat (by omega)
    have hq := k_pow (b := f 47 1) (by omega) (by omega)
    refine kw_iload_n dX7_pole_10 rfl ?_
    refine kw_if_le (tgt := 97) dX7_pole_11 (by decide) (fun h1 => ?_) (fun h1 => ?_)
    · refine kw_iload_n dX7_pole_97 rfl ?_
      exact kv_ri dX7_pole_98 rfl (by rw [z1, show p = 0 by omega]; rfl) rfl
    · refine kw_iconst dX7_pole_14 ⟨by decide, by decide⟩ ?_
      refine kw_istore_n dX7_pole_15 (by decide) trivial (L2 := [some (kA (45)), some (kI (x)), some (kI (p)), some (kI (0))]) rfl ?_
      refine l_mclip0 hm ?_
      refine kw_aload_n dX7_pole_62 rfl ?_
      refine kw_bipush dX7_pole_63 (by decide) (by decide) ?_
      refine kv_callV1 (M2 := M_X7_warmAt) (As := [kI (99)]) dX7_pole_65 ml_X7_132 q_X7_warmAt rfl rfl rfl (Nat.le_of_ble_eq_true rfl) (show kF E 4 M_X7_warmAt [kA 45, kI 99] ((kMC ++ kMM), kst f 50 (mClip s p), g) (some (kI (mBit (f 47) (mLast (f 47) (mClip s p))))) ((kMC ++ kMM), kst f 50 (mLast (f 47) (mClip s p)), g) from c_mwarmAt (s := (mClip s p)) hm hT (mSO_clip hT hS ⟨by omega, by omega⟩) (by rw [mClip_e 28 (by omega)]; omega)) (by omega) ?_
      refine kw_iconst dX7_pole_68 ⟨by decide, by decide⟩ ?_
      refine kw_aload_n dX7_pole_69 rfl ?_
      refine kv_getR (b := 47) dX7_pole_70 kf_X7_13 rfl rfl rfl (hm (45, 2, 47) (by decide)) ?_
      refine kw_iconst dX7_pole_73 ⟨by decide, by decide⟩ ?_
      refine kv_iald dX7_pole_74 rfl (by omega) (by omega) (congrFun (kst_ne (by decide)) _) ?_
      refine kv_shl1 dX7_pole_75 (by omega) (by omega) ?_
      refine kw_iconst dX7_pole_76 ⟨by decide, by decide⟩ ?_
      refine kw_isub dX7_pole_77 ⟨by omega, by omega⟩ ?_
      refine kw_icmp_ne (tgt := 85) dX7_pole_78 (by decide) (fun h2 => ?_) (fun h2 => ?_)
      · refine kw_iload_n dX7_pole_85 rfl ?_
        refine kw_istore_n dX7_pole_86 (by decide) trivial (L2 := [some (kA (45)), some (kI (x)), some (kI (p)), some (kI (4))]) rfl ?_
        refine kw_aload_n dX7_pole_87 rfl ?_
        refine kv_callV0 (M2 := M_X7_lets) (As := []) dX7_pole_88 ml_X7_135 q_X7_lets rfl rfl rfl (Nat.le_of_ble_eq_true rfl) (c_mlets (s := s) hm hH (mOut_each hT (mOut_at hT (mOut_clip mOut_rf) _))) (by omega) ?_
        refine kw_iinc dX7_pole_91 (by decide) rfl ⟨by omega, by omega⟩ trivial (L2 := [some (kA (45)), some (kI (x)), some (kI (p + (-1))), some (kI (4))]) rfl ?_
        refine kw_goto (tgt := 10) dX7_pole_94 (by decide) ?_
        exact ih (p - 1) _ _ ⟨by omega, by omega⟩ (by omega) (by rw [show p - 1 + 1 = p by omega, show (21 - p).toNat = (21 - (p + 1)).toNat + 1 by omega, kFirst]; exact z1.trans (if_neg h2).symm)
      · refine kw_iload_n dX7_pole_81 rfl ?_
        refine kw_goto (tgt := 86) dX7_pole_82 (by decide) ?_
        refine kw_istore_n dX7_pole_86 (by decide) trivial (L2 := [some (kA (45)), some (kI (p)), some (kI (p)), some (kI (4))]) rfl ?_
        refine kw_aload_n dX7_pole_87 rfl ?_
        refine kv_callV0 (M2 := M_X7_lets) (As := []) dX7_pole_88 ml_X7_135 q_X7_lets rfl rfl rfl (Nat.le_of_ble_eq_true rfl) (c_mlets (s := s) hm hH (mOut_each hT (mOut_at hT (mOut_clip mOut_rf) _))) (by omega) ?_
        refine kw_iinc dX7_pole_91 (by decide) rfl ⟨by omega, by omega⟩ trivial (L2 := [some (kA (45)), some (kI (p)), some (kI (p + (-1))), some (kI (4))]) rfl ?_
        refine kw_goto (tgt := 10) dX7_pole_94 (by decide) ?_
        exact ih (p - 1) _ _ ⟨by omega, by omega⟩ (by omega) (by rw [show p - 1 + 1 = p by omega, show (21 - p).toNat = (21 - (p + 1)).toNat + 1 by omega, kFirst]; exact (if_pos (Decidable.of_not_not h2)).symm)
theorem c_mpole {E : kEnv} {f : Nat → Int → Int} {s : Int → Int} {g : Nat → Int → Option Nat}  (hm : kGM g) (hT : mTO (f 47)) (hS : mSO (f 47) s) (h28 : 0 ≤ s 28 ∧ s 28 ≤ 99) : kFE E 5 M_X7_pole [kA (45)] ((kMC ++ kMM), kst f 50 s, g) (some (kI (sPole (f 47) s))) (kMC ++ kMM) (fun h2 => h2 = kst f 50 s ∨ h2 = kst (kHd f s 29) 50 s) g := by
  refine kFE_of (by decide) (by simp [k_one]) (Nat.le_of_ble_eq_true rfl) (L := [some (kA (45)), none, none, none]) rfl ?_
  have n0 := hT.1
  have n1 := hT.2.1
  refine kw_aload_n dX7_pole_0 rfl ?_
  refine kv_callV0 (M2 := M_X7_holds) (As := []) dX7_pole_1 ml_X7_129 q_X7_holds rfl rfl rfl (Nat.le_of_ble_eq_true rfl) (c_mholds hm) (by omega) ?_
  refine kw_bipush dX7_pole_4 (by decide) (by decide) ?_
  refine kw_istore_n dX7_pole_6 (by decide) trivial (L2 := [some (kA (45)), some (kI (-4)), none, none]) rfl ?_
  refine kw_bipush dX7_pole_7 (by decide) (by decide) ?_
  refine kw_istore_n dX7_pole_9 (by decide) trivial (L2 := [some (kA (45)), some (kI (-4)), some (kI (20)), none]) rfl ?_
  refine kW_mono (fun r h z => ?_) (l_mpole (f := (kHd f s 29)) (s := s) hm (show mTO ((kHd f s 29) 47) from hT) hS h28 (fun j hj => if_pos ⟨rfl, hj.1, hj.2⟩) _ 20 (-4) none ⟨by omega, by omega⟩ (Nat.lt_succ_self _) rfl)
  exact ⟨z.1, _, z.2, Or.inr rfl⟩
