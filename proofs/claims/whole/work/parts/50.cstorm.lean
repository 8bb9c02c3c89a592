/-! storms: what the model computes; the class -/
def mDraw (z k : Int) : Int := (7919 * z + 6151 * k + 1) * (7919 * z + 6151 * k + 1) % 65521 / 2
theorem mDraw_rng {z k : Int} : 0 ≤ mDraw z k ∧ mDraw z k ≤ 32760 := by
  unfold mDraw
  have := Int.emod_nonneg ((7919 * z + 6151 * k + 1) * (7919 * z + 6151 * k + 1)) (show (65521 : Int) ≠ 0 by decide)
  have := Int.emod_lt_of_pos ((7919 * z + 6151 * k + 1) * (7919 * z + 6151 * k + 1)) (show (0 : Int) < 65521 by decide)
  omega
theorem mDraw_sq {z k : Int} (hz : 0 ≤ z ∧ z ≤ 9999) (hk : 0 ≤ k ∧ k ≤ 30) : 0 ≤ (7919 * z + 6151 * k + 1) * (7919 * z + 6151 * k + 1) ∧ (7919 * z + 6151 * k + 1) * (7919 * z + 6151 * k + 1) ≤ 6400000000000000 := by
  have h0 : 0 ≤ 7919 * z + 6151 * k + 1 := by omega
  have h1 : 7919 * z + 6151 * k + 1 ≤ 80000000 := by omega
  exact ⟨Int.mul_nonneg h0 h0, Int.mul_le_mul h1 h1 h0 (by decide)⟩
def mBlow (T s : Int → Int) (D : Int) : Int → Int := if D / 8 % 3 = 0 ∧ s (8 + D % T 0) = 0 ∧ s 28 - T 4 < s (D % T 0) then upi s (D % T 0) (s 28 - T 4) else s
def mStm (T : Int → Int) (z : Int) : Nat → (Int → Int) → Int → Int
  | 0, s => s
  | n + 1, s => mEach T (mBlow T (if n = 0 then mStm T z n s else mPass (mStm T z n s)) (mDraw z n))
theorem k_modb {T : Int → Int} {D : Int} (hT : mTO T) : 0 ≤ D % T 0 ∧ D % T 0 < T 0 := by
  have n0 := hT.1
  exact ⟨Int.emod_nonneg _ (by omega), Int.emod_lt_of_pos _ (by omega)⟩
theorem mBlow_at {T s : Int → Int} {D j : Int} (hT : mTO T) (h : 8 ≤ j) : mBlow T s D j = s j := by
  have n0 := hT.1
  have hb := k_modb (D := D) hT
  unfold mBlow
  split
  · rw [upi_ne (by omega)]
  · rfl
theorem mSO_blow {T s : Int → Int} {D : Int} (hT : mTO T) (hS : mSO T s) (h28 : 0 ≤ s 28 ∧ s 28 ≤ 200) : mSO T (mBlow T s D) := by
  have n0 := hT.1
  have n4 := hT.2.2.2.2.1
  have eg : mGone (mBlow T s D) = mGone s := by
    unfold mGone
    simp only [mBlow_at (s := s) (D := D) hT (show (8 : Int) ≤ 8 by decide), mBlow_at (s := s) (D := D) hT (show (8 : Int) ≤ 9 by decide), mBlow_at (s := s) (D := D) hT (show (8 : Int) ≤ 10 by decide), mBlow_at (s := s) (D := D) hT (show (8 : Int) ≤ 11 by decide), mBlow_at (s := s) (D := D) hT (show (8 : Int) ≤ 12 by decide), mBlow_at (s := s) (D := D) hT (show (8 : Int) ≤ 13 by decide), mBlow_at (s := s) (D := D) hT (show (8 : Int) ≤ 14 by decide), mBlow_at (s := s) (D := D) hT (show (8 : Int) ≤ 15 by decide)]
  refine ⟨fun b b0 b1 => ?_, fun b b0 b1 => ?_, fun i i0 i1 => ?_⟩
  · rw [mBlow_at hT (by omega)]; exact hS.1 b b0 b1
  · have q := hS.2.1 b b0 b1
    unfold mBlow
    split
    · by_cases e : b = D % T 0
      · rw [e, upi_self]; omega
      · rw [upi_ne e]; exact q
    · exact q
  · rw [mBlow_at hT (by omega), mBlow_at hT (by omega), mBlow_at hT (by omega), eg]; exact hS.2.2 i i0 i1
theorem mStm_s {T s : Int → Int} {z k : Int} (h : 0 ≤ k) : mStm T z (k + 1).toNat s = mEach T (mBlow T (if k = 0 then mStm T z k.toNat s else mPass (mStm T z k.toNat s)) (mDraw z k)) := by
  rw [show (k + 1).toNat = k.toNat + 1 by omega, mStm, k_nat h]
  by_cases e : k = 0
  · rw [if_pos e, if_pos (by omega)]
  · rw [if_neg e, if_neg (by omega)]
theorem mStm_28 {T s : Int → Int} {z : Int} (hT : mTO T) : ∀ n : Nat, mStm T z n s 28 = s 28 + ((n - 1 : Nat) : Int)
  | 0 => by simp [mStm]
  | n + 1 => by
    rw [mStm, mEach_28 hT, mBlow_at hT (by decide)]
    split
    · rename_i e; subst e; simp [mStm]
    · rw [mPass_d, mStm_28 hT n]; omega
theorem mSO_stm {T s : Int → Int} {z : Int} (hT : mTO T) (hS : mSO T s) (h28 : 0 ≤ s 28 ∧ s 28 ≤ 99) : ∀ n : Nat, n ≤ 30 → mSO T (mStm T z n s)
  | 0, _ => hS
  | n + 1, hn => by
    have ih := mSO_stm (z := z) hT hS h28 n (by omega)
    have e := mStm_28 (s := s) (z := z) hT n
    rw [mStm]
    split
    · exact mSO_each hT (mSO_blow hT ih (by omega))
    · exact mSO_each hT (mSO_blow hT (mSO_pass hT ih) (by rw [mPass_d]; omega))
/-- what is gone stays gone -/
def mMon (s s2 : Int → Int) : Prop := ∀ b, 0 ≤ b → b < 8 → s (8 + b) = 1 → s2 (8 + b) = 1
theorem mMon_step {T s t : Int → Int} {i b : Int} (h : mMon s t) (hi : 0 ≤ i ∧ i < 4) (hb : 0 ≤ b ∧ b < 8) : mMon s (mStep T t i b) := by
  rcases mStep_cases (T := T) (s := t) (i := i) (b := b) with ⟨_, _, e⟩ | ⟨_, e⟩
  · rw [e]
    intro c c0 c1 q
    by_cases z : c = b
    · rw [z, mTakes_b hi hb]
    · rw [mTakes_at (8 + c) (by omega) (by omega) (by omega)]; exact h c c0 c1 q
  · rw [e]; exact h
theorem mMon_row {T s t : Int → Int} {i : Int} (hi : 0 ≤ i ∧ i < 4) (h : mMon s t) : ∀ n : Nat, n ≤ 8 → mMon s (mRow T i n t)
  | 0, _ => h
  | n + 1, hn => mMon_step (mMon_row hi h n (by omega)) hi (by omega)
theorem mMon_eachN {T s t : Int → Int} (hT : mTO T) (h : mMon s t) : ∀ n : Nat, n ≤ 4 → mMon s (mEachN T n t)
  | 0, _ => h
  | n + 1, hn => mMon_row (by omega) (mMon_eachN hT h n (by omega)) _ (by have := hT.1; omega)
theorem mMon_each {T s t : Int → Int} (hT : mTO T) (h : mMon s t) : mMon s (mEach T t) := mMon_eachN hT h _ (by have := hT.2.1; omega)
theorem mMon_stm {T s : Int → Int} {z : Int} (hT : mTO T) : ∀ n : Nat, mMon s (mStm T z n s)
  | 0 => fun _ _ _ q => q
  | n + 1 => by
    have ih := mMon_stm (s := s) (z := z) hT n
    rw [mStm]
    refine mMon_each hT (fun b b0 b1 q => ?_)
    rw [mBlow_at hT (by omega)]
    split
    · exact ih b b0 b1 q
    · rw [mPass_at (by omega)]; exact ih b b0 b1 q
theorem k_andb {x y : Nat} (hy : y < 256) : ∀ b, b < 8 → ((x &&& (255 - y)) / 2 ^ b % 2 = 1 ↔ x / 2 ^ b % 2 = 1 ∧ y / 2 ^ b % 2 ≠ 1) := by
  have h1 : ∀ g, g < 256 → ∀ b, b < 8 → (255 - g).testBit b = !(g.testBit b) := by decide +kernel
  intro b hb
  have e : ∀ u : Nat, (u / 2 ^ b % 2 = 1) ↔ u.testBit b = true := fun u => by simp [Nat.testBit_eq_decide_div_mod_eq]
  rw [Ne, e, e, e, Nat.testBit_and, h1 y hy b hb]
  simp
theorem sWt_diff {T s s2 : Int → Int} (hT : mTO T) (hS : mSO T s) (hS2 : mSO T s2) (hM : mMon s s2) : ∀ n : Nat, n ≤ (T 0).toNat → sWt T (((gsum s2).toNat &&& (255 - (gsum s).toNat) : Nat) : Int) n = sWg T s2 n - sWg T s n
  | 0, _ => rfl
  | n + 1, hn => by
    have n0 := hT.1
    have g1 := gsum_le hS
    have g2 := gsum_le hS2
    have ih := sWt_diff hT hS hS2 hM n (by omega)
    have kb : ∀ (u : Int), 0 ≤ u → kbit u (n : Int) = ((u.toNat / 2 ^ n % 2 : Nat) : Int) := fun u hu => by
      obtain ⟨v, rfl⟩ := Int.eq_ofNat_of_zero_le hu
      simp [kbit, Int.natCast_ediv, Int.natCast_emod]
    have b1 := gsum_bit hS (b := (n : Int)) (by omega)
    have b2 := gsum_bit hS2 (b := (n : Int)) (by omega)
    rw [kb _ g1.1] at b1
    rw [kb _ g2.1] at b2
    have b3 := k_andb (x := (gsum s2).toNat) (y := (gsum s).toNat) (by omega) n (by omega)
    have b4 := kb _ (Int.natCast_nonneg ((gsum s2).toNat &&& (255 - (gsum s).toNat)))
    rw [Int.toNat_natCast] at b4
    have c1 := (hS.1 (n : Int) (by omega) (by omega)).1
    have c2 := (hS2.1 (n : Int) (by omega) (by omega)).1
    have c3 := hM (n : Int) (by omega) (by omega)
    rw [sWt, sWg, sWg, ih, b4]
    rcases c1 with c1 | c1
    · rcases c2 with c2 | c2
      · rw [if_neg (by omega), c1, c2]; omega
      · rw [if_pos (by omega), c1, c2]; omega
    · have c4 := c3 c1
      rw [if_neg (by omega), c1, c4]; omega
def sStorm (T s : Int → Int) (z n v : Int) : Int := if (0 ≤ z ∧ z ≤ 9999) ∧ (1 ≤ n ∧ n ≤ 30) ∧ (0 ≤ v ∧ v ≤ 1) then (if s 28 + n - 1 ≤ 99 then (if v = 0 then mBit T (mStm T z n.toNat s) else sWg T (mStm T z n.toNat s) (T 0).toNat - sWg T s (T 0).toNat) else -2) else -1
def kBw (T : Int → Int) (f : Nat → Int → Int) (D : Int) : Nat → Int → Int := if D / 8 % 3 = 0 then k_u f 38 (D % T 0) (if f 37 1 - T 4 < f 38 (D % T 0) then f 37 1 - T 4 else f 38 (D % T 0)) else f
theorem kBw_eq {T : Int → Int} {f : Nat → Int → Int} {D : Int} : kEq f (kBw T f D) 37 := by
  unfold kBw
  split
  · exact k_u_eq (a := 37)
  · exact kEq_rf
theorem Sim_blow {T s : Int → Int} {f : Nat → Int → Int} {D : Int} (hT : mTO T) (hI : Sim T f 37 s) (h28 : 0 ≤ s 28 ∧ s 28 ≤ 200) : Sim T (kBw T f D) 37 (mBlow T s D) := by
  have n0 := hT.1
  have n1 := hT.2.1
  have n4 := hT.2.2.2.2.1
  have hb := k_modb (D := D) hT
  obtain ⟨h1, h2, h3, h4, h5⟩ := hI
  have e1 : kBw T f D 37 = f 37 := by
    unfold kBw
    split
    · funext j; exact k_u_ne (by decide)
    · rfl
  have e2 : ∀ j, j ≠ D % T 0 → kBw T f D 38 j = f 38 j := fun j hj => by
    unfold kBw
    split
    · exact k_u_ne2 hj
    · rfl
  have eg : gsum (mBlow T s D) = gsum s := gsum_eq (fun j a b => mBlow_at hT a)
  refine ⟨?_, ?_, fun c c0 c1 q => ?_, fun i i0 i1 => ?_, fun c c0 c1 => ?_⟩
  · rw [e1, h1, mBlow_at hT (by decide)]
  · rw [e1, h2, eg]
  · rw [mBlow_at hT (by omega)] at q
    have z := h3 c c0 c1 q
    simp only [Nat.reduceAdd] at z ⊢
    by_cases e : c = D % T 0
    · rw [e] at q z ⊢
      unfold kBw mBlow
      by_cases d : D / 8 % 3 = 0
      · rw [if_pos d, k_u_self, h1, z]
        by_cases d2 : s 28 - T 4 < s (D % T 0)
        · rw [if_pos d2, if_pos ⟨d, q, d2⟩, upi_self]
        · rw [if_neg d2, if_neg (fun y => d2 y.2.2)]
      · rw [if_neg d, if_neg (fun y => d y.1)]; exact z
    · rw [e2 c e]
      unfold mBlow
      split
      · rw [upi_ne e]; exact z
      · exact z
  · have z := h4 i i0 i1
    simp only [Nat.reduceAdd] at z ⊢
    rw [e2 (8 + i) (by omega), e2 (12 + i) (by omega), e2 (16 + i) (by omega), mBlow_at hT (by omega), mBlow_at hT (by omega), mBlow_at hT (by omega)]
    exact z
  · have z := h5 c c0 c1
    simp only [Nat.reduceAdd] at z ⊢
    by_cases e : c = D % T 0
    · rw [e] at z ⊢
      unfold kBw
      split
      · rw [k_u_self, h1]; split <;> omega
      · exact z
    · rw [e2 c e]; exact z
theorem c_draw {E : kEnv} {h : kH} {z k : Int} (hz : 0 ≤ z ∧ z ≤ 9999) (hk : 0 ≤ k ∧ k ≤ 30) : kF E 0 M_X0_draw [kI z, kI k] h (some (kI (mDraw z k))) h := by
  refine kF_of (by decide) (by simp [k_one]) (Nat.le_of_ble_eq_true rfl) (L := [some (kI z), some (kI k), none, none]) rfl ?_
  have hq := mDraw_sq hz hk
  have hr := mDraw_rng (z := z) (k := k)
  unfold mDraw at hr
  refine kw_ldc2 dX0_draw_0 (z := 7919) kl_X0_76 ⟨by decide, by decide⟩ ?_
  refine kw_iload_n dX0_draw_3 rfl ?_
  refine kw_i2l dX0_draw_4 ?_
  refine kw_lmul dX0_draw_5 ⟨by omega, by omega⟩ ?_
  refine kw_ldc2 dX0_draw_6 (z := 6151) kl_X0_78 ⟨by decide, by decide⟩ ?_
  refine kw_iload_n dX0_draw_9 rfl ?_
  refine kw_i2l dX0_draw_10 ?_
  refine kw_lmul dX0_draw_11 ⟨by omega, by omega⟩ ?_
  refine kw_ladd dX0_draw_12 ⟨by omega, by omega⟩ ?_
  refine kw_lconst1 dX0_draw_13 ?_
  refine kw_ladd dX0_draw_14 ⟨by omega, by omega⟩ ?_
  refine kw_lstore_n dX0_draw_15 (by decide) trivial (L2 := [some (kI (z)), some (kI (k)), some (kJ ((((7919) * (z)) + ((6151) * (k))) + (1))), none]) rfl ?_
  refine kw_lload_n dX0_draw_16 rfl ?_
  refine kw_lload_n dX0_draw_17 rfl ?_
  refine kw_lmul dX0_draw_18 ⟨by omega, by omega⟩ ?_
  refine kw_ldc2 dX0_draw_19 (z := 65521) kl_X0_80 ⟨by decide, by decide⟩ ?_
  refine kw_lrem dX0_draw_22 (by omega) (by omega) ?_
  refine kw_ldc2 dX0_draw_23 (z := 2) kl_X0_82 ⟨by decide, by decide⟩ ?_
  refine kw_ldiv dX0_draw_26 (by omega) (by omega) ?_
  refine kw_l2i dX0_draw_27 ⟨by omega, by omega⟩ ?_
  exact kv_ri dX0_draw_28 rfl rfl rfl
theorem c_blow {E : kEnv} {w : List (Nat × Nat)} {f : Nat → Int → Int} {g : Nat → Int → Option Nat} {T s : Int → Int} {D : Int} (hg : kG g) (hT : mTO T) (hR : RF T f) (hI : Sim T f 37 s) (h28 : 0 ≤ s 28 ∧ s 28 ≤ 200) (hD : 0 ≤ D ∧ D ≤ 40000) : kF E 1 M_X0_blow [kA (36), kI (D)] ((kMC ++ w), f, g) (none) ((kMC ++ w), (kBw T f D), g) := by
  refine kF_of (by decide) (by simp [k_one]) (Nat.le_of_ble_eq_true rfl) (L := [some (kA (36)), some (kI (D)), none]) rfl ?_
  have hF := RF_FO hT hR
  have n0 := hT.1
  have n1 := hT.2.1
  have r0 := hR.1
  have r1 := hR.2.1
  have hb := k_modb (D := D) hT
  have hx := hI.2.2.2.2 (D % T 0) hb.1 hb.2
  simp only [Nat.reduceAdd] at hx
  have k4 := hR.2.2.2.2.1
  have n4 := hT.2.2.2.2.1
  have e37 := hI.1
  refine kw_iload_n dX0_blow_0 rfl ?_
  refine kw_bipush dX0_blow_1 (by decide) (by decide) ?_
  refine kw_idiv dX0_blow_3 (by omega) (by omega) ?_
  refine kw_iconst dX0_blow_4 ⟨by decide, by decide⟩ ?_
  refine kw_irem dX0_blow_5 (by omega) (by omega) ?_
  refine kw_if_ne (tgt := 63) dX0_blow_6 (by decide) (fun h1 => ?_) (fun h1 => ?_)
  · first
      | (exfalso; omega)
      | exact kv_rv dX0_blow_63 rfl (by unfold kBw; rw [if_neg (by omega)])
  · refine kw_aload_n dX0_blow_9 rfl ?_
    refine kv_getR (b := 4) dX0_blow_10 kf_X0_18 rfl rfl rfl (hg (36, 0, 4) (by decide)) ?_
    refine kv_getI (kz := 5) dX0_blow_13 kf_X0_63 rfl rfl rfl rfl ?_
    refine kw_if_le (tgt := 63) dX0_blow_16 (by decide) (fun h2 => ?_) (fun h2 => ?_)
    · first
        | (exfalso; omega)
        | exact kv_rv dX0_blow_63 rfl (by unfold kBw; rw [if_neg (by omega)])
    · refine kw_iload_n dX0_blow_19 rfl ?_
      refine kw_aload_n dX0_blow_20 rfl ?_
      refine kv_getR (b := 4) dX0_blow_21 kf_X0_18 rfl rfl rfl (hg (36, 0, 4) (by decide)) ?_
      refine kv_getI (kz := 5) dX0_blow_24 kf_X0_63 rfl rfl rfl rfl ?_
      refine kw_irem dX0_blow_27 (by omega) (by omega) ?_
      rw [r0]
      refine kw_istore_n dX0_blow_28 (by decide) trivial (L2 := [some (kA (36)), some (kI (D)), some (kI (D % T 0))]) rfl ?_
      refine kw_aload_n dX0_blow_29 rfl ?_
      refine kv_getR (b := 37) dX0_blow_30 kf_X0_12 rfl rfl rfl (hg (36, 1, 37) (by decide)) ?_
      refine kw_iload_n dX0_blow_33 rfl ?_
      refine kw_aload_n dX0_blow_34 rfl ?_
      refine kv_getR (b := 37) dX0_blow_35 kf_X0_12 rfl rfl rfl (hg (36, 1, 37) (by decide)) ?_
      refine kw_iload_n dX0_blow_38 rfl ?_
      refine kv_callV1 (M2 := M_X4_deadFrom) (As := [kI (D % T 0)]) dX0_blow_39 ml_X0_84 q_X4_deadFrom rfl rfl rfl (Nat.le_of_ble_eq_true rfl) (show kF E 0 M_X4_deadFrom [kA 37, kI (D % T 0)] ((kMC ++ w), f, g) (some (kI (f 38 (D % T 0)))) ((kMC ++ w), f, g) from c_deadFromR (by unfold kSA; omega) hg (by omega)) (by omega) ?_
      refine kw_aload_n dX0_blow_42 rfl ?_
      refine kv_getR (b := 37) dX0_blow_43 kf_X0_12 rfl rfl rfl (hg (36, 1, 37) (by decide)) ?_
      refine kv_getI (kz := 1) dX0_blow_46 kf_X0_53 rfl rfl rfl rfl ?_
      refine kw_aload_n dX0_blow_49 rfl ?_
      refine kv_getR (b := 4) dX0_blow_50 kf_X0_18 rfl rfl rfl (hg (36, 0, 4) (by decide)) ?_
      refine kv_getI (kz := 9) dX0_blow_53 kf_X0_87 rfl rfl rfl rfl ?_
      refine kw_isub dX0_blow_56 ⟨by omega, by omega⟩ ?_
      refine kw_min dX0_blow_57 ml_X0_36 (Nat.le_of_ble_eq_true rfl) (by omega) ?_
      refine kv_callV0 (M2 := M_X4_setDeadFrom) (As := [kI (D % T 0), kI (if (f 37 1) - (f 4 9) < f 38 (D % T 0) then (f 37 1) - (f 4 9) else f 38 (D % T 0))]) dX0_blow_60 ml_X0_90 q_X4_setDeadFrom rfl rfl rfl (Nat.le_of_ble_eq_true rfl) (show kF E 0 M_X4_setDeadFrom [kA 37, kI (D % T 0), kI (if (f 37 1) - (f 4 9) < f 38 (D % T 0) then (f 37 1) - (f 4 9) else f 38 (D % T 0))] ((kMC ++ w), f, g) none ((kMC ++ w), k_u f 38 (D % T 0) (if (f 37 1) - (f 4 9) < f 38 (D % T 0) then (f 37 1) - (f 4 9) else f 38 (D % T 0)), g) from c_setDeadR (by unfold kSA; omega) hg (by omega)) (by omega) ?_
      exact kv_rv dX0_blow_63 rfl (by unfold kBw; rw [if_pos (show D / 8 % 3 = 0 by omega), k4])
theorem l_through {E : kEnv} {w : List (Nat × Nat)} {g : Nat → Int → Option Nat} {T s : Int → Int} {f0 : Nat → Int → Int} {z m : Int} (hg : kG g) (hT : mTO T) (hS0 : mSO T s) (h28 : 0 ≤ s 28 ∧ s 28 ≤ 99) (hz : 0 ≤ z ∧ z ≤ 9999) (hm : 1 ≤ m ∧ m ≤ 30) : ∀ (n : Nat) (k : Int) (f : Nat → Int → Int), (0 ≤ k ∧ k ≤ m) → (m - k).toNat < n → RF T f → Sim T f 37 (mStm T z k.toNat s) → kEq f0 f 37 → kW E 5 0 0 M_X0_goThroughStorm 2 [some (kA 36), some (kI z), some (kI m), some (kI k)] [] ((kMC ++ w), f, g) (fun r h' => r = none ∧ ∃ f2, h' = ((kMC ++ w), f2, g) ∧ (fun f2 => RF T f2 ∧ kEq f0 f2 37 ∧ Sim T f2 37 (mStm T z m.toNat s)) f2) := by
  intro n
  induction n with
  | zero => intro k f _ y; omega
  | succ n ih =>
    intro k f y0 y1 hR hI hq
    have n0 := hT.1
    have n1 := hT.2.1
    have hS := mSO_stm (z := z) hT hS0 h28 k.toNat (by omega)
    have e28 := mStm_28 (s := s) (z := z) hT k.toNat
    have e37 := hI.1
    have hdr := mDraw_rng (z := z) (k := k)
    have e1 := mStm_s (T := T) (s := s) (z := z) y0.1
    refine kw_iload_n dX0_goThroughStorm_2 rfl ?_
    refine kw_iload_n dX0_goThroughStorm_3 rfl ?_
    refine kw_icmp_ge (tgt := 38) dX0_goThroughStorm_4 (by decide) (fun h1 => ?_) (fun h1 => ?_)
    · exact kv_rvE dX0_goThroughStorm_38 rfl ⟨hR, hq, by rw [show m = k by omega]; exact hI⟩
    · refine kw_iload_n dX0_goThroughStorm_7 rfl ?_
      refine kw_if_le (tgt := 19) dX0_goThroughStorm_8 (by decide) (fun h2 => ?_) (fun h2 => ?_)
      · refine kw_aload_n dX0_goThroughStorm_19 rfl ?_
        refine kw_iload_n dX0_goThroughStorm_20 rfl ?_
        refine kw_iload_n dX0_goThroughStorm_21 rfl ?_
        refine kv_callS1 (M2 := M_X0_draw) (As := [kI (z), kI (k)]) dX0_goThroughStorm_22 ml_X0_70 q_X0_draw rfl (Nat.le_of_ble_eq_true rfl) (c_draw ⟨by omega, by omega⟩ ⟨by omega, by omega⟩) (by omega) ?_
        refine kv_callV0 (M2 := M_X0_blow) (As := [kI (mDraw z k)]) dX0_goThroughStorm_25 ml_X0_73 q_X0_blow rfl rfl rfl (Nat.le_of_ble_eq_true rfl) (c_blow (s := (mStm T z k.toNat s)) hg hT hR hI (by omega) ⟨by omega, by omega⟩) (by omega) ?_
        refine kw_aload_n dX0_goThroughStorm_28 rfl ?_
        refine kv_callV0E (M2 := M_X0_gatherToday) (As := []) dX0_goThroughStorm_29 ml_X0_50 q_X0_gatherToday rfl rfl rfl (Nat.le_of_ble_eq_true rfl) (c_gather (s := mBlow T (mStm T z k.toNat s) (mDraw z k)) hg hT (mSO_blow hT hS (by omega)) (RF_eq hR (by omega) kBw_eq) (Sim_blow hT hI (by omega)) (by rw [mBlow_at hT (by decide)]; first | omega | (rw [mPass_d]; omega))) (by omega) (fun f9 hf9 => ?_)
        obtain ⟨hR9, hI9, hq9⟩ := hf9
        refine kw_iinc dX0_goThroughStorm_32 (by decide) rfl ⟨by omega, by omega⟩ trivial (L2 := [some (kA (36)), some (kI (z)), some (kI (m)), some (kI (k + 1))]) rfl ?_
        refine kw_goto (tgt := 2) dX0_goThroughStorm_35 (by decide) ?_
        rw [if_pos (by omega)] at e1
        refine ih (k + 1) f9 ⟨by omega, by omega⟩ (by omega) hR9 (by rw [e1]; exact hI9) (kEq_tr hq (kEq_tr kBw_eq hq9))
      · refine kw_aload_n dX0_goThroughStorm_11 rfl ?_
        refine kv_getR (b := 37) dX0_goThroughStorm_12 kf_X0_12 rfl rfl rfl (hg (36, 1, 37) (by decide)) ?_
        refine kw_iconst dX0_goThroughStorm_15 ⟨by decide, by decide⟩ ?_
        refine kv_callV0 (M2 := M_X4_goBy) (As := [kI (1)]) dX0_goThroughStorm_16 ml_X0_56 q_X4_goBy rfl rfl rfl (Nat.le_of_ble_eq_true rfl) (c_goBy (by unfold kSA; omega) hg (by omega) (by omega)) (by omega) ?_
        refine kw_aload_n dX0_goThroughStorm_19 rfl ?_
        refine kw_iload_n dX0_goThroughStorm_20 rfl ?_
        refine kw_iload_n dX0_goThroughStorm_21 rfl ?_
        refine kv_callS1 (M2 := M_X0_draw) (As := [kI (z), kI (k)]) dX0_goThroughStorm_22 ml_X0_70 q_X0_draw rfl (Nat.le_of_ble_eq_true rfl) (c_draw ⟨by omega, by omega⟩ ⟨by omega, by omega⟩) (by omega) ?_
        refine kv_callV0 (M2 := M_X0_blow) (As := [kI (mDraw z k)]) dX0_goThroughStorm_25 ml_X0_73 q_X0_blow rfl rfl rfl (Nat.le_of_ble_eq_true rfl) (c_blow (s := (mPass (mStm T z k.toNat s))) hg hT (RF_eq hR (by omega) kGoBy_eq) (Sim_pass hT hI) (by rw [mPass_d]; omega) ⟨by omega, by omega⟩) (by omega) ?_
        refine kw_aload_n dX0_goThroughStorm_28 rfl ?_
        refine kv_callV0E (M2 := M_X0_gatherToday) (As := []) dX0_goThroughStorm_29 ml_X0_50 q_X0_gatherToday rfl rfl rfl (Nat.le_of_ble_eq_true rfl) (c_gather (s := mBlow T (mPass (mStm T z k.toNat s)) (mDraw z k)) hg hT (mSO_blow hT (mSO_pass hT hS) (by rw [mPass_d]; omega)) (RF_eq (RF_eq hR (by omega) kGoBy_eq) (by omega) kBw_eq) (Sim_blow hT (Sim_pass hT hI) (by rw [mPass_d]; omega)) (by rw [mBlow_at hT (by decide)]; first | omega | (rw [mPass_d]; omega))) (by omega) (fun f9 hf9 => ?_)
        obtain ⟨hR9, hI9, hq9⟩ := hf9
        refine kw_iinc dX0_goThroughStorm_32 (by decide) rfl ⟨by omega, by omega⟩ trivial (L2 := [some (kA (36)), some (kI (z)), some (kI (m)), some (kI (k + 1))]) rfl ?_
        refine kw_goto (tgt := 2) dX0_goThroughStorm_35 (by decide) ?_
        rw [if_neg (by omega)] at e1
        refine ih (k + 1) f9 ⟨by omega, by omega⟩ (by omega) hR9 (by rw [e1]; exact hI9) (kEq_tr hq (kEq_tr (kEq_tr kGoBy_eq kBw_eq) hq9))
theorem c_through {E : kEnv} {w : List (Nat × Nat)} {f : Nat → Int → Int} {g : Nat → Int → Option Nat} {T s : Int → Int} {z m : Int} (hg : kG g) (hT : mTO T) (hS : mSO T s) (hR : RF T f) (hI : Sim T f 37 s) (h28 : 0 ≤ s 28 ∧ s 28 ≤ 99) (hz : 0 ≤ z ∧ z ≤ 9999) (hm : 1 ≤ m ∧ m ≤ 30) : kFE E 5 M_X0_goThroughStorm [kA (36), kI (z), kI (m)] ((kMC ++ w), f, g) (none) (kMC ++ w) (fun f2 => RF T f2 ∧ kEq f f2 37 ∧ Sim T f2 37 (mStm T z m.toNat s)) g := by
  refine kFE_of (by decide) (by simp [k_one]) (Nat.le_of_ble_eq_true rfl) (L := [some (kA (36)), some (kI (z)), some (kI (m)), none]) rfl ?_
  refine kw_iconst dX0_goThroughStorm_0 ⟨by decide, by decide⟩ ?_
  refine kw_istore_n dX0_goThroughStorm_1 (by decide) trivial (L2 := [some (kA (36)), some (kI (z)), some (kI (m)), some (kI (0))]) rfl ?_
  exact l_through hg hT hS h28 hz hm _ 0 f ⟨by omega, by omega⟩ (Nat.lt_succ_self _) hR hI kEq_rf
theorem c_storm {E : kEnv} {w : List (Nat × Nat)} {f : Nat → Int → Int} {g : Nat → Int → Option Nat} {T s : Int → Int} {z m v : Int} (hg : kG g) (hT : mTO T) (hS : mSO T s) (hR : RF T f) (hI : Sim T f 10 s) (hD : ∀ b, 0 ≤ b → b < T 0 → f 11 b = s b) (h28 : 0 ≤ s 28 ∧ s 28 ≤ 99) : kFE E 6 M_X6_storm [kA (0), kI (z), kI (m), kI (v)] ((kMC ++ w), f, g) (some (kI (sStorm T s z m v))) (kMC ++ w) (fun f2 => RF T f2 ∧ kEq f f2 37) g := by
  refine kFE_of (by decide) (by simp [k_one]) (Nat.le_of_ble_eq_true rfl) (L := [some (kA (0)), some (kI (z)), some (kI (m)), some (kI (v))]) rfl ?_
  have hF := RF_FO hT hR
  have n0 := hT.1
  have n1 := hT.2.1
  have r0 := hR.1
  have r1 := hR.2.1
  have hSO := Sim_SO hT hS hR hI (by omega)
  have e28 := hI.1
  have e2 := hI.2.1
  have sg := hSO.2.1
  refine kw_iload_n dX6_storm_0 rfl ?_
  refine kw_iconst dX6_storm_1 ⟨by decide, by decide⟩ ?_
  refine kw_sipush dX6_storm_2 (by decide) (by decide) ?_
  refine kv_callS1 (M2 := M_X6_isWithin) (As := [kI (z), kI (0), kI (9999)]) dX6_storm_5 ml_X6_72 q_X6_isWithin rfl (Nat.le_of_ble_eq_true rfl) (c_isWithin) (by omega) ?_
  refine kv_ifeqB (tgt := 30) dX6_storm_8 (by decide) (fun h1 => ?_) (fun h1 => ?_)
  · refine kw_iconst dX6_storm_30 ⟨by decide, by decide⟩ ?_
    exact kv_riE dX6_storm_31 rfl (Eq.symm (by unfold sStorm; rw [if_neg (by omega)])) ⟨hR, kEq_rf⟩
  · refine kw_iload_n dX6_storm_11 rfl ?_
    refine kw_iconst dX6_storm_12 ⟨by decide, by decide⟩ ?_
    refine kw_bipush dX6_storm_13 (by decide) (by decide) ?_
    refine kv_callS1 (M2 := M_X6_isWithin) (As := [kI (m), kI (1), kI (30)]) dX6_storm_15 ml_X6_72 q_X6_isWithin rfl (Nat.le_of_ble_eq_true rfl) (c_isWithin) (by omega) ?_
    refine kv_ifeqB (tgt := 30) dX6_storm_18 (by decide) (fun h2 => ?_) (fun h2 => ?_)
    · refine kw_iconst dX6_storm_30 ⟨by decide, by decide⟩ ?_
      exact kv_riE dX6_storm_31 rfl (Eq.symm (by unfold sStorm; rw [if_neg (by omega)])) ⟨hR, kEq_rf⟩
    · refine kw_iload_n dX6_storm_21 rfl ?_
      refine kw_iconst dX6_storm_22 ⟨by decide, by decide⟩ ?_
      refine kw_iconst dX6_storm_23 ⟨by decide, by decide⟩ ?_
      refine kv_callS1 (M2 := M_X6_isWithin) (As := [kI (v), kI (0), kI (1)]) dX6_storm_24 ml_X6_72 q_X6_isWithin rfl (Nat.le_of_ble_eq_true rfl) (c_isWithin) (by omega) ?_
      refine kv_ifneB (tgt := 32) dX6_storm_27 (by decide) (fun h3 => ?_) (fun h3 => ?_)
      · refine kw_aload_n dX6_storm_32 rfl ?_
        refine kv_getR (b := 10) dX6_storm_33 kf_X6_26 rfl rfl rfl (hg (0, 2, 10) (by decide)) ?_
        refine kv_getI (kz := 1) dX6_storm_36 kf_X6_114 rfl rfl rfl rfl ?_
        refine kw_iload_n dX6_storm_39 rfl ?_
        refine kw_iadd dX6_storm_40 ⟨by omega, by omega⟩ ?_
        refine kw_iconst dX6_storm_41 ⟨by decide, by decide⟩ ?_
        refine kw_isub dX6_storm_42 ⟨by omega, by omega⟩ ?_
        refine kw_bipush dX6_storm_43 (by decide) (by decide) ?_
        refine kw_icmp_le (tgt := 51) dX6_storm_45 (by decide) (fun h4 => ?_) (fun h4 => ?_)
        · refine kw_aload_n dX6_storm_51 rfl ?_
          refine kv_getR (b := 36) dX6_storm_52 kf_X6_47 rfl rfl rfl (hg (0, 5, 36) (by decide)) ?_
          refine kw_aload_n dX6_storm_55 rfl ?_
          refine kv_getR (b := 10) dX6_storm_56 kf_X6_26 rfl rfl rfl (hg (0, 2, 10) (by decide)) ?_
          refine kv_callV0 (M2 := M_X0_begin) (As := [kA (10)]) dX6_storm_59 ml_X6_185 q_X0_begin rfl rfl rfl (Nat.le_of_ble_eq_true rfl) (c_begin hg) (by omega) ?_
          refine kw_aload_n dX6_storm_62 rfl ?_
          refine kv_getR (b := 36) dX6_storm_63 kf_X6_47 rfl rfl rfl (hg (0, 5, 36) (by decide)) ?_
          refine kw_iload_n dX6_storm_66 rfl ?_
          refine kw_iload_n dX6_storm_67 rfl ?_
          refine kv_callV0E (M2 := M_X0_goThroughStorm) (As := [kI (z), kI (m)]) dX6_storm_68 ml_X6_249 q_X0_goThroughStorm rfl rfl rfl (Nat.le_of_ble_eq_true rfl) (c_through (z := z) (m := m) hg hT hS (RF_eq hR (by omega) kBec_eq) (Sim_bec hT hI (by omega)) h28 ⟨by omega, by omega⟩ ⟨by omega, by omega⟩) (by omega) (fun f9 hf9 => ?_)
          obtain ⟨hR9, hq9, hI9⟩ := hf9
          have hS9 := mSO_stm (z := z) hT hS h28 m.toNat (by omega)
          have g9 := gsum_le hS9
          have g0 := gsum_le hS
          have q37 : f9 37 2 = gsum (mStm T z m.toNat s) := hI9.2.1
          have q10 : f9 10 2 = gsum s := by rw [hq9 10 (by omega) (by omega), kBec_eq 10 (by omega) (by omega)]; exact e2
          refine kw_iload_n dX6_storm_71 rfl ?_
          refine kw_if_ne (tgt := 90) dX6_storm_72 (by decide) (fun h5 => ?_) (fun h5 => ?_)
          · refine kw_aload_n dX6_storm_90 rfl ?_
            refine kv_getR (b := 4) dX6_storm_91 kf_X6_19 rfl rfl rfl (hg (0, 1, 4) (by decide)) ?_
            refine kw_aload_n dX6_storm_94 rfl ?_
            refine kv_getR (b := 36) dX6_storm_95 kf_X6_47 rfl rfl rfl (hg (0, 5, 36) (by decide)) ?_
            refine kv_getR (b := 37) dX6_storm_98 kf_X6_191 rfl rfl rfl (hg (36, 1, 37) (by decide)) ?_
            refine kv_getI (kz := 2) dX6_storm_101 kf_X6_221 rfl rfl rfl rfl ?_
            refine kw_aload_n dX6_storm_104 rfl ?_
            refine kv_getR (b := 10) dX6_storm_105 kf_X6_26 rfl rfl rfl (hg (0, 2, 10) (by decide)) ?_
            refine kv_getI (kz := 2) dX6_storm_108 kf_X6_221 rfl rfl rfl rfl ?_
            refine kw_iconst dX6_storm_111 ⟨by decide, by decide⟩ ?_
            refine kv_not dX6_storm_112 (by omega) (by omega) ?_
            refine kv_andn dX6_storm_113 (by omega) (by omega) (by omega) (by omega) ?_
            have hle : (f9 37 2).toNat &&& (255 - (f9 10 2).toNat) ≤ (f9 37 2).toNat := Nat.and_le_left
            refine kv_callV1 (M2 := M_X2_weightOf) (As := [kI ((((f9 37 2).toNat &&& (255 - (f9 10 2).toNat) : Nat) : Int))]) dX6_storm_114 ml_X6_224 q_X2_weightOf rfl rfl rfl (Nat.le_of_ble_eq_true rfl) (c_weightOf hg hT hR9 ⟨by omega, by omega⟩) (by omega) ?_
            exact kv_riE dX6_storm_117 rfl (Eq.symm (by unfold sStorm; rw [if_pos (by omega), if_pos (by omega), if_neg (by omega), q37, q10]; exact (sWt_diff hT hS hS9 (mMon_stm hT _) _ (Nat.le_refl _)).symm)) ⟨hR9, kEq_tr kBec_eq hq9⟩
          · refine kw_aload_n dX6_storm_75 rfl ?_
            refine kv_getR (b := 4) dX6_storm_76 kf_X6_19 rfl rfl rfl (hg (0, 1, 4) (by decide)) ?_
            refine kw_aload_n dX6_storm_79 rfl ?_
            refine kv_getR (b := 36) dX6_storm_80 kf_X6_47 rfl rfl rfl (hg (0, 5, 36) (by decide)) ?_
            refine kv_getR (b := 37) dX6_storm_83 kf_X6_191 rfl rfl rfl (hg (36, 1, 37) (by decide)) ?_
            refine kv_callV1 (M2 := M_X2_warmOnes) (As := [kA (37)]) dX6_storm_86 ml_X6_194 q_X2_warmOnes rfl rfl rfl (Nat.le_of_ble_eq_true rfl) (c_warmOnes (by unfold kSA; omega) hg hT hR9 hI9) (by omega) ?_
            exact kv_riE dX6_storm_89 rfl (Eq.symm (by unfold sStorm; rw [if_pos (by omega), if_pos (by omega), if_pos (by omega)])) ⟨hR9, kEq_tr kBec_eq hq9⟩
        · refine kw_bipush dX6_storm_48 (by decide) (by decide) ?_
          exact kv_riE dX6_storm_50 rfl (Eq.symm (by unfold sStorm; rw [if_pos (by omega), if_neg (by omega)])) ⟨hR, kEq_rf⟩
      · refine kw_iconst dX6_storm_30 ⟨by decide, by decide⟩ ?_
        exact kv_riE dX6_storm_31 rfl (Eq.symm (by unfold sStorm; rw [if_neg (by omega)])) ⟨hR, kEq_rf⟩
