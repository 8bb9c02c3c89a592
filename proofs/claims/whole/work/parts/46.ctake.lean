/-! the class: take, hook, ring -/
theorem c_canO {E : kEnv} {w : List (Nat × Nat)} {f : Nat → Int → Int} {g : Nat → Int → Option Nat} {T s : Int → Int} {i b : Int} (hg : kG g) (hT : mTO T) (hS : mSO T s) (hR : RF T f) (hI : Sim T f 10 s) (hD : ∀ b, 0 ≤ b → b < T 0 → f 11 b = s b) (h28 : 0 ≤ s 28 ∧ s 28 ≤ 99) (hi : 0 ≤ i ∧ i < T 1) (hb : 0 ≤ b ∧ b < T 0) : kF E 3 M_X2_canTake [kA 4, kA 10, kI i, kI b] ((kMC ++ w), f, g) (some (kI (if oCan T s i b = true then 1 else 0))) ((kMC ++ w), f, g) := by
  have n0 := hT.1
  have n1 := hT.2.1
  have r0 := hR.1
  have r1 := hR.2.1
  rw [show (if oCan T s i b = true then (1 : Int) else 0) = if rCan f 10 i b then 1 else 0 from k_ite (oCan_i.trans (Sim_can hT hS hR hI hi hb).symm)]
  exact c_canTake (by unfold kSA; omega) hg (RF_FO hT hR) (by omega) (by omega) (Sim_SO hT hS hR hI (by omega))
theorem c_caughtO {E : kEnv} {w : List (Nat × Nat)} {f : Nat → Int → Int} {g : Nat → Int → Option Nat} {T s : Int → Int} {i b : Int} (hg : kG g) (hT : mTO T) (hS : mSO T s) (hR : RF T f) (hI : Sim T f 10 s) (hD : ∀ b, 0 ≤ b → b < T 0 → f 11 b = s b) (h28 : 0 ≤ s 28 ∧ s 28 ≤ 99) (hi : 0 ≤ i ∧ i < T 1) (hb : 0 ≤ b ∧ b < T 0) : kF E 2 M_X2_isCaught [kA 4, kA 10, kI i, kI b] ((kMC ++ w), f, g) (some (kI (if oCaught T s i b = true then 1 else 0))) ((kMC ++ w), f, g) := by
  have n0 := hT.1
  have n1 := hT.2.1
  have r0 := hR.1
  have r1 := hR.2.1
  have k1 := hR.2.2.1
  have k2 := hR.2.2.2.1
  have k3 := hR.2.2.2.2.1
  have k4 := (hR.2.2.2.2.2.1 b hb.1 hb.2).1
  have k5 : f 11 (12 + i) = s (16 + i) := (hI.2.2.2.1 i hi.1 hi.2).2.1
  have k6 := hD b hb.1 hb.2
  have k7 := hI.1
  have e : rCaught f 10 i b ↔ oCaught T s i b = true := by
    rw [oCaught_i]
    unfold rCaught rFall
    simp only [Nat.reduceAdd]
    rw [k1, k2, k3, k4, k5, k6, k7]
    constructor
    · rintro ⟨a1, a2, a3, a4⟩; exact ⟨a4, a3, a1, a2⟩
    · rintro ⟨a1, a2, a3, a4⟩; exact ⟨a3, a4, a2, a1⟩
  rw [show (if oCaught T s i b = true then (1 : Int) else 0) = if rCaught f 10 i b then 1 else 0 from k_ite e.symm]
  exact c_isCaught (by unfold kSA; omega) hg (RF_FO hT hR) (by omega) (by omega) (Sim_SO hT hS hR hI (by omega))
theorem c_loseR {E : kEnv} {w : List (Nat × Nat)} {f : Nat → Int → Int} {g : Nat → Int → Option Nat} {a : Nat} {i : Int} (ha : kSA a) (hg : kG g) (hi : 0 ≤ i ∧ i < 4) : kF E 0 M_X4_loseStack [kA a, kI i] ((kMC ++ w), f, g) none ((kMC ++ w), k_u f (a + 1) (8 + i) 0, g) := by
  have h := c_loseStack (E := E) (w := w) (f := f) (g := g) (i := i) ha hg
  rw [if_pos hi] at h
  exact h
theorem c_setDeadR {E : kEnv} {w : List (Nat × Nat)} {f : Nat → Int → Int} {g : Nat → Int → Option Nat} {a : Nat} {b v : Int} (ha : kSA a) (hg : kG g) (hb : 0 ≤ b ∧ b < 8) : kF E 0 M_X4_setDeadFrom [kA a, kI b, kI v] ((kMC ++ w), f, g) none ((kMC ++ w), k_u f (a + 1) b v, g) := by
  have h := c_setDeadFrom (E := E) (w := w) (f := f) (g := g) (b := b) (d := v) ha hg
  rw [if_pos hb] at h
  exact h
def kTkP (f : Nat → Int → Int) (st : Int → Nat) (i b : Int) : Nat → Int → Int := kPick (kAd f st) 10 i b (kAd f st 7 b)
def kTk (T s : Int → Int) (f : Nat → Int → Int) (st : Int → Nat) (i b : Int) : Nat → Int → Int := if oCaught T s i b = true then k_u (kTkP f st i b) 11 (8 + i) 0 else kTkP f st i b
theorem c_take {E : kEnv} {w : List (Nat × Nat)} {f : Nat → Int → Int} {g : Nat → Int → Option Nat} {T s : Int → Int} {i b : Int} {st : Int → Nat} (hg : kG g) (hst : kPile g 13 8 st) (hm : 0 ≤ f 12 1 ∧ f 12 1 ≤ 8) (hP : ∀ i, 0 ≤ i → i < 8 → 14 ≤ st i ∧ st i ≤ 28) (hT : mTO T) (hS : mSO T s) (hR : RF T f) (hI : Sim T f 10 s) (hD : ∀ b, 0 ≤ b → b < T 0 → f 11 b = s b) (h28 : 0 ≤ s 28 ∧ s 28 ≤ 99) : kF E 4 M_X6_take [kA (0), kI (i), kI (b)] ((kMC ++ w), f, g) (some (kI (sTake T s i b))) ((kMC ++ w), (if ((0 ≤ i ∧ i ≤ T 1 - 1) ∧ (0 ≤ b ∧ b ≤ T 0 - 1)) ∧ oCan T s i b = true then kTk T s f st i b else f), (if ((0 ≤ i ∧ i ≤ T 1 - 1) ∧ (0 ≤ b ∧ b ≤ T 0 - 1)) ∧ oCan T s i b = true then kAg f g st else g)) := by
  refine kF_of (by decide) (by simp [k_one]) (Nat.le_of_ble_eq_true rfl) (L := [some (kA (0)), some (kI (i)), some (kI (b)), none]) rfl ?_
  have hF := RF_FO hT hR
  have n0 := hT.1
  have n1 := hT.2.1
  have r0 := hR.1
  have r1 := hR.2.1
  have hSO := Sim_SO hT hS hR hI (by omega)
  have e28 := hI.1
  have e2 := hI.2.1
  have sg := hSO.2.1
  have e10 : kAd f st 10 = f 10 := kAd_b hst hm (by omega) (fun i a b => by have := hP i a b; omega)
  have e11 : kAd f st 11 = f 11 := kAd_b hst hm (by omega) (fun i a b => by have := hP i a b; omega)
  have e7 : kAd f st 7 = f 7 := kAd_b hst hm (by omega) (fun i a b => by have := hP i a b; omega)
  have q10 := congrFun e10 1
  have q102 := congrFun e10 2
  refine kw_aload_n dX6_take_0 rfl ?_
  refine kv_getR (b := 4) dX6_take_1 kf_X6_19 rfl rfl rfl (hg (0, 1, 4) (by decide)) ?_
  refine kw_iload_n dX6_take_4 rfl ?_
  refine kv_callV1 (M2 := M_X2_hasTenant) (As := [kI (i)]) dX6_take_5 ml_X6_131 q_X2_hasTenant rfl rfl rfl (Nat.le_of_ble_eq_true rfl) (c_hasTenant hg) (by omega) ?_
  refine kv_ifeqB (tgt := 22) dX6_take_8 (by decide) (fun h1 => ?_) (fun h1 => ?_)
  · refine kw_iconst dX6_take_22 ⟨by decide, by decide⟩ ?_
    exact kv_ri dX6_take_23 rfl (Eq.symm (by unfold sTake; first | (rw [if_neg (by omega)]; done) | rw [if_pos (by omega), if_neg h3])) (by rw [if_neg (by first | exact fun z => h3 z.2 | exact fun z => absurd z.1 (by omega)), if_neg (by first | exact fun z => h3 z.2 | exact fun z => absurd z.1 (by omega))])
  · refine kw_aload_n dX6_take_11 rfl ?_
    refine kv_getR (b := 4) dX6_take_12 kf_X6_19 rfl rfl rfl (hg (0, 1, 4) (by decide)) ?_
    refine kw_iload_n dX6_take_15 rfl ?_
    refine kv_callV1 (M2 := M_X2_hasBough) (As := [kI (b)]) dX6_take_16 ml_X6_97 q_X2_hasBough rfl rfl rfl (Nat.le_of_ble_eq_true rfl) (c_hasBough hg) (by omega) ?_
    refine kv_ifneB (tgt := 24) dX6_take_19 (by decide) (fun h2 => ?_) (fun h2 => ?_)
    · refine kw_aload_n dX6_take_24 rfl ?_
      refine kv_getR (b := 4) dX6_take_25 kf_X6_19 rfl rfl rfl (hg (0, 1, 4) (by decide)) ?_
      refine kw_aload_n dX6_take_28 rfl ?_
      refine kv_getR (b := 10) dX6_take_29 kf_X6_26 rfl rfl rfl (hg (0, 2, 10) (by decide)) ?_
      refine kw_iload_n dX6_take_32 rfl ?_
      refine kw_iload_n dX6_take_33 rfl ?_
      refine kv_callV1 (M2 := M_X2_canTake) (As := [kA (10), kI (i), kI (b)]) dX6_take_34 ml_X6_153 q_X2_canTake rfl rfl rfl (Nat.le_of_ble_eq_true rfl) (c_canO hg hT hS hR hI hD h28 ⟨by omega, by omega⟩ ⟨by omega, by omega⟩) (by omega) ?_
      refine kv_ifneB (tgt := 43) dX6_take_37 (by decide) (fun h3 => ?_) (fun h3 => ?_)
      · refine kw_aload_n dX6_take_43 rfl ?_
        refine kv_getR (b := 4) dX6_take_44 kf_X6_19 rfl rfl rfl (hg (0, 1, 4) (by decide)) ?_
        refine kw_aload_n dX6_take_47 rfl ?_
        refine kv_getR (b := 10) dX6_take_48 kf_X6_26 rfl rfl rfl (hg (0, 2, 10) (by decide)) ?_
        refine kw_iload_n dX6_take_51 rfl ?_
        refine kw_iload_n dX6_take_52 rfl ?_
        refine kv_callV1 (M2 := M_X2_isCaught) (As := [kA (10), kI (i), kI (b)]) dX6_take_53 ml_X6_156 q_X2_isCaught rfl rfl rfl (Nat.le_of_ble_eq_true rfl) (c_caughtO hg hT hS hR hI hD h28 ⟨by omega, by omega⟩ ⟨by omega, by omega⟩) (by omega) ?_
        refine kw_istore_n dX6_take_56 (by decide) trivial (L2 := [some (kA (0)), some (kI (i)), some (kI (b)), some (kI (if oCaught T s i b = true then 1 else 0))]) rfl ?_
        refine kw_aload_n dX6_take_57 rfl ?_
        refine kv_getR (b := 12) dX6_take_58 kf_X6_35 rfl rfl rfl (hg (0, 3, 12) (by decide)) ?_
        refine kw_aload_n dX6_take_61 rfl ?_
        refine kv_getR (b := 10) dX6_take_62 kf_X6_26 rfl rfl rfl (hg (0, 2, 10) (by decide)) ?_
        refine kv_callV0 (M2 := M_X3_add) (As := [kA (10)]) dX6_take_65 ml_X6_159 q_X3_add rfl rfl rfl (Nat.le_of_ble_eq_true rfl) (c_padd hg hst hm) (by omega) ?_
        refine kw_aload_n dX6_take_68 rfl ?_
        refine kv_getR (b := 10) dX6_take_69 kf_X6_26 rfl rfl rfl ((kAg_G hg) (0, 2, 10) (by decide)) ?_
        refine kw_iload_n dX6_take_72 rfl ?_
        refine kw_iload_n dX6_take_73 rfl ?_
        refine kw_aload_n dX6_take_74 rfl ?_
        refine kv_getR (b := 4) dX6_take_75 kf_X6_19 rfl rfl rfl ((kAg_G hg) (0, 1, 4) (by decide)) ?_
        refine kw_iload_n dX6_take_78 rfl ?_
        refine kv_callV1 (M2 := M_X2_weight) (As := [kI (b)]) dX6_take_79 ml_X6_108 q_X2_weight rfl rfl rfl (Nat.le_of_ble_eq_true rfl) (show kF E 0 M_X2_weight [kA 4, kI b] ((kMC ++ w), kAd f st, kAg f g st) (some (kI (kAd f st 7 b))) ((kMC ++ w), kAd f st, kAg f g st) from c_weight (kAg_G hg) ⟨by omega, by omega⟩) (by omega) ?_
        have w7 := congrFun e7 b
        have w0 : kbit (kAd f st 10 2) b = 0 := by
          rw [q102, e2, gsum_bit hS ⟨by omega, by omega⟩]
          exact (oCan_i.mp h3).1
        have w1 := hR.2.2.2.2.2.1 b (by omega) (by omega)
        have w2 := hT.2.2.2.2.2.1 b (by omega) (by omega)
        have w3 : kAd f st (10 + 1) (8 + i) = f 11 (8 + i) := congrFun e11 (8 + i)
        have w4 : kAd f st (10 + 1) (16 + i) = f 11 (16 + i) := congrFun e11 (16 + i)
        have w5 := hI.2.2.2.1 i (by omega) (by omega)
        have w6 := hSO.2.2.2 i (by omega) (by omega)
        simp only [Nat.reduceAdd] at w5 w6
        refine kv_callV0 (M2 := M_X4_pick) (As := [kI (i), kI (b), kI (kAd f st 7 b)]) dX6_take_82 ml_X6_162 q_X4_pick rfl rfl rfl (Nat.le_of_ble_eq_true rfl) (show kF E 0 M_X4_pick [kA 10, kI i, kI b, kI (kAd f st 7 b)] ((kMC ++ w), kAd f st, kAg f g st) none ((kMC ++ w), kTkP f st i b, kAg f g st) from c_pick (by unfold kSA; omega) (kAg_G hg) (by omega) ⟨by omega, by omega⟩ ⟨by omega, by omega⟩ w0 (by omega) (by omega) (by omega)) (by omega) ?_
        have p1 : kTkP f st i b 11 (8 + i) = f 11 (8 + i) + T (21 + b) := by
          unfold kTkP kPick
          rw [k_u_ne2 (by omega), k_u_self]
          omega
        refine kw_iload_n dX6_take_85 rfl ?_
        refine kv_ifeqB (tgt := 97) dX6_take_86 (by decide) (fun h4 => ?_) (fun h4 => ?_)
        · refine kw_aload_n dX6_take_97 rfl ?_
          refine kv_getR (b := 10) dX6_take_98 kf_X6_26 rfl rfl rfl ((kAg_G hg) (0, 2, 10) (by decide)) ?_
          refine kw_iload_n dX6_take_101 rfl ?_
          refine kv_callV1 (M2 := M_X4_stack) (As := [kI (i)]) dX6_take_102 ml_X6_143 q_X4_stack rfl rfl rfl (Nat.le_of_ble_eq_true rfl) (show kF E 0 M_X4_stack [kA 10, kI i] ((kMC ++ w), kTkP f st i b, kAg f g st) (some (kI ((kTkP f st i b) 11 (8 + i)))) ((kMC ++ w), kTkP f st i b, kAg f g st) from c_stackR (by unfold kSA; omega) (kAg_G hg) (by omega)) (by omega) ?_
          refine kv_ri dX6_take_105 rfl (Eq.symm ?_) ?_
          · unfold sTake sTook
            rw [if_pos (by omega), if_pos h3, if_neg h4]
            omega
          · rw [if_pos ⟨by omega, h3⟩, if_pos ⟨by omega, h3⟩]
            unfold kTk
            rw [if_neg h4]
        · refine kw_aload_n dX6_take_89 rfl ?_
          refine kv_getR (b := 10) dX6_take_90 kf_X6_26 rfl rfl rfl ((kAg_G hg) (0, 2, 10) (by decide)) ?_
          refine kw_iload_n dX6_take_93 rfl ?_
          refine kv_callV0 (M2 := M_X4_loseStack) (As := [kI (i)]) dX6_take_94 ml_X6_166 q_X4_loseStack rfl rfl rfl (Nat.le_of_ble_eq_true rfl) (show kF E 0 M_X4_loseStack [kA 10, kI i] ((kMC ++ w), kTkP f st i b, kAg f g st) none ((kMC ++ w), k_u (kTkP f st i b) 11 (8 + i) 0, kAg f g st) from c_loseR (by unfold kSA; omega) (kAg_G hg) (by omega)) (by omega) ?_
          refine kw_aload_n dX6_take_97 rfl ?_
          refine kv_getR (b := 10) dX6_take_98 kf_X6_26 rfl rfl rfl ((kAg_G hg) (0, 2, 10) (by decide)) ?_
          refine kw_iload_n dX6_take_101 rfl ?_
          refine kv_callV1 (M2 := M_X4_stack) (As := [kI (i)]) dX6_take_102 ml_X6_143 q_X4_stack rfl rfl rfl (Nat.le_of_ble_eq_true rfl) (show kF E 0 M_X4_stack [kA 10, kI i] ((kMC ++ w), k_u (kTkP f st i b) 11 (8 + i) 0, kAg f g st) (some (kI ((k_u (kTkP f st i b) 11 (8 + i) 0) 11 (8 + i)))) ((kMC ++ w), k_u (kTkP f st i b) 11 (8 + i) 0, kAg f g st) from c_stackR (by unfold kSA; omega) (kAg_G hg) (by omega)) (by omega) ?_
          refine kv_ri dX6_take_105 rfl (Eq.symm ?_) ?_
          · unfold sTake sTook
            rw [if_pos (by omega), if_pos h3, if_pos h4]
            exact k_u_self.symm
          · rw [if_pos ⟨by omega, h3⟩, if_pos ⟨by omega, h3⟩]
            unfold kTk
            rw [if_pos h4]
      · refine kw_bipush dX6_take_40 (by decide) (by decide) ?_
        exact kv_ri dX6_take_42 rfl (Eq.symm (by unfold sTake; first | (rw [if_neg (by omega)]; done) | rw [if_pos (by omega), if_neg h3])) (by rw [if_neg (by first | exact fun z => h3 z.2 | exact fun z => absurd z.1 (by omega)), if_neg (by first | exact fun z => h3 z.2 | exact fun z => absurd z.1 (by omega))])
    · refine kw_iconst dX6_take_22 ⟨by decide, by decide⟩ ?_
      exact kv_ri dX6_take_23 rfl (Eq.symm (by unfold sTake; first | (rw [if_neg (by omega)]; done) | rw [if_pos (by omega), if_neg h3])) (by rw [if_neg (by first | exact fun z => h3 z.2 | exact fun z => absurd z.1 (by omega)), if_neg (by first | exact fun z => h3 z.2 | exact fun z => absurd z.1 (by omega))])
theorem c_hook {E : kEnv} {w : List (Nat × Nat)} {f : Nat → Int → Int} {g : Nat → Int → Option Nat} {T s : Int → Int} {i r : Int} {st : Int → Nat} (hg : kG g) (hst : kPile g 13 8 st) (hm : 0 ≤ f 12 1 ∧ f 12 1 ≤ 8) (hP : ∀ i, 0 ≤ i → i < 8 → 14 ≤ st i ∧ st i ≤ 28) (hT : mTO T) (hS : mSO T s) (hR : RF T f) (hI : Sim T f 10 s) (hD : ∀ b, 0 ≤ b → b < T 0 → f 11 b = s b) (h28 : 0 ≤ s 28 ∧ s 28 ≤ 99) : kF E 3 M_X6_hook [kA (0), kI (i), kI (r)] ((kMC ++ w), f, g) (some (kI (sHook T s i r))) ((kMC ++ w), (if (0 ≤ i ∧ i ≤ T 1 - 1) ∧ (1 ≤ r ∧ r ≤ 20) then k_u (kAd f st) 11 (12 + i) r else f), (if (0 ≤ i ∧ i ≤ T 1 - 1) ∧ (1 ≤ r ∧ r ≤ 20) then kAg f g st else g)) := by
  refine kF_of (by decide) (by simp [k_one]) (Nat.le_of_ble_eq_true rfl) (L := [some (kA (0)), some (kI (i)), some (kI (r)), none]) rfl ?_
  have hF := RF_FO hT hR
  have n0 := hT.1
  have n1 := hT.2.1
  have r0 := hR.1
  have r1 := hR.2.1
  have hSO := Sim_SO hT hS hR hI (by omega)
  have e28 := hI.1
  have e2 := hI.2.1
  have sg := hSO.2.1
  refine kw_aload_n dX6_hook_0 rfl ?_
  refine kv_getR (b := 4) dX6_hook_1 kf_X6_19 rfl rfl rfl (hg (0, 1, 4) (by decide)) ?_
  refine kw_iload_n dX6_hook_4 rfl ?_
  refine kv_callV1 (M2 := M_X2_hasTenant) (As := [kI (i)]) dX6_hook_5 ml_X6_131 q_X2_hasTenant rfl rfl rfl (Nat.le_of_ble_eq_true rfl) (c_hasTenant hg) (by omega) ?_
  refine kv_ifeqB (tgt := 21) dX6_hook_8 (by decide) (fun h1 => ?_) (fun h1 => ?_)
  · refine kw_iconst dX6_hook_21 ⟨by decide, by decide⟩ ?_
    exact kv_ri dX6_hook_22 rfl (Eq.symm (by unfold sHook; rw [if_neg (by omega)])) (by rw [if_neg (by omega), if_neg (by omega)])
  · refine kw_iload_n dX6_hook_11 rfl ?_
    refine kw_iconst dX6_hook_12 ⟨by decide, by decide⟩ ?_
    refine kw_bipush dX6_hook_13 (by decide) (by decide) ?_
    refine kv_callS1 (M2 := M_X6_isWithin) (As := [kI (r), kI (1), kI (20)]) dX6_hook_15 ml_X6_72 q_X6_isWithin rfl (Nat.le_of_ble_eq_true rfl) (c_isWithin) (by omega) ?_
    refine kv_ifneB (tgt := 23) dX6_hook_18 (by decide) (fun h2 => ?_) (fun h2 => ?_)
    · refine kw_aload_n dX6_hook_23 rfl ?_
      refine kv_getR (b := 10) dX6_hook_24 kf_X6_26 rfl rfl rfl (hg (0, 2, 10) (by decide)) ?_
      refine kw_iload_n dX6_hook_27 rfl ?_
      refine kv_callV1 (M2 := M_X4_reach) (As := [kI (i)]) dX6_hook_28 ml_X6_134 q_X4_reach rfl rfl rfl (Nat.le_of_ble_eq_true rfl) (show kF E 0 M_X4_reach [kA 10, kI i] ((kMC ++ w), f, g) (some (kI (f 11 (12 + i)))) ((kMC ++ w), f, g) from c_reachR (by unfold kSA; omega) hg (by omega)) (by omega) ?_
      refine kw_istore_n dX6_hook_31 (by decide) trivial (L2 := [some (kA (0)), some (kI (i)), some (kI (r)), some (kI (f 11 (12 + i)))]) rfl ?_
      refine kw_aload_n dX6_hook_32 rfl ?_
      refine kv_getR (b := 12) dX6_hook_33 kf_X6_35 rfl rfl rfl (hg (0, 3, 12) (by decide)) ?_
      refine kw_aload_n dX6_hook_36 rfl ?_
      refine kv_getR (b := 10) dX6_hook_37 kf_X6_26 rfl rfl rfl (hg (0, 2, 10) (by decide)) ?_
      refine kv_callV0 (M2 := M_X3_add) (As := [kA (10)]) dX6_hook_40 ml_X6_159 q_X3_add rfl rfl rfl (Nat.le_of_ble_eq_true rfl) (c_padd hg hst hm) (by omega) ?_
      refine kw_aload_n dX6_hook_43 rfl ?_
      refine kv_getR (b := 10) dX6_hook_44 kf_X6_26 rfl rfl rfl ((kAg_G hg) (0, 2, 10) (by decide)) ?_
      refine kw_iload_n dX6_hook_47 rfl ?_
      refine kw_iload_n dX6_hook_48 rfl ?_
      refine kv_callV0 (M2 := M_X4_setReach) (As := [kI (i), kI (r)]) dX6_hook_49 ml_X6_172 q_X4_setReach rfl rfl rfl (Nat.le_of_ble_eq_true rfl) (show kF E 0 M_X4_setReach [kA 10, kI i, kI r] ((kMC ++ w), kAd f st, kAg f g st) none ((kMC ++ w), k_u (kAd f st) 11 (12 + i) r, kAg f g st) from c_setReachR (by unfold kSA; omega) (kAg_G hg) (by omega)) (by omega) ?_
      refine kw_iload_n dX6_hook_52 rfl ?_
      have w5 : f 11 (12 + i) = s (16 + i) := (hI.2.2.2.1 i (by omega) (by omega)).2.1
      exact kv_ri dX6_hook_53 rfl (Eq.symm (by unfold sHook; rw [if_pos (by omega)]; exact w5.symm)) (by rw [if_pos (by omega), if_pos (by omega)])
    · refine kw_iconst dX6_hook_21 ⟨by decide, by decide⟩ ?_
      exact kv_ri dX6_hook_22 rfl (Eq.symm (by unfold sHook; rw [if_neg (by omega)])) (by rw [if_neg (by omega), if_neg (by omega)])
theorem c_ring {E : kEnv} {w : List (Nat × Nat)} {f : Nat → Int → Int} {g : Nat → Int → Option Nat} {T s : Int → Int} {b : Int} {st : Int → Nat} (hg : kG g) (hst : kPile g 13 8 st) (hm : 0 ≤ f 12 1 ∧ f 12 1 ≤ 8) (hP : ∀ i, 0 ≤ i → i < 8 → 14 ≤ st i ∧ st i ≤ 28) (hT : mTO T) (hS : mSO T s) (hR : RF T f) (hI : Sim T f 10 s) (hD : ∀ b, 0 ≤ b → b < T 0 → f 11 b = s b) (h28 : 0 ≤ s 28 ∧ s 28 ≤ 99) : kF E 3 M_X6_ring [kA (0), kI (b)] ((kMC ++ w), f, g) (some (kI (sRing T s b))) ((kMC ++ w), (if (0 ≤ b ∧ b ≤ T 0 - 1) ∧ ¬ (s b ≤ s 28 ∨ s (8 + b) = 1) then k_u (kAd f st) 11 b (s 28) else f), (if (0 ≤ b ∧ b ≤ T 0 - 1) ∧ ¬ (s b ≤ s 28 ∨ s (8 + b) = 1) then kAg f g st else g)) := by
  refine kF_of (by decide) (by simp [k_one]) (Nat.le_of_ble_eq_true rfl) (L := [some (kA (0)), some (kI (b)), none]) rfl ?_
  have hF := RF_FO hT hR
  have n0 := hT.1
  have n1 := hT.2.1
  have r0 := hR.1
  have r1 := hR.2.1
  have hSO := Sim_SO hT hS hR hI (by omega)
  have e28 := hI.1
  have e2 := hI.2.1
  have sg := hSO.2.1
  have e10 : kAd f st 10 = f 10 := kAd_b hst hm (by omega) (fun i a b => by have := hP i a b; omega)
  have e11 : kAd f st 11 = f 11 := kAd_b hst hm (by omega) (fun i a b => by have := hP i a b; omega)
  have e7 : kAd f st 7 = f 7 := kAd_b hst hm (by omega) (fun i a b => by have := hP i a b; omega)
  have q10 := congrFun e10 1
  have q102 := congrFun e10 2
  refine kw_aload_n dX6_ring_0 rfl ?_
  refine kv_getR (b := 4) dX6_ring_1 kf_X6_19 rfl rfl rfl (hg (0, 1, 4) (by decide)) ?_
  refine kw_iload_n dX6_ring_4 rfl ?_
  refine kv_callV1 (M2 := M_X2_hasBough) (As := [kI (b)]) dX6_ring_5 ml_X6_97 q_X2_hasBough rfl rfl rfl (Nat.le_of_ble_eq_true rfl) (c_hasBough hg) (by omega) ?_
  refine kv_ifneB (tgt := 13) dX6_ring_8 (by decide) (fun h1 => ?_) (fun h1 => ?_)
  · refine kw_aload_n dX6_ring_13 rfl ?_
    refine kv_getR (b := 10) dX6_ring_14 kf_X6_26 rfl rfl rfl (hg (0, 2, 10) (by decide)) ?_
    refine kw_iload_n dX6_ring_17 rfl ?_
    refine kv_callV1 (M2 := M_X4_isGone) (As := [kI (b)]) dX6_ring_18 ml_X6_128 q_X4_isGone rfl rfl rfl (Nat.le_of_ble_eq_true rfl) (show kF E 0 M_X4_isGone [kA 10, kI b] ((kMC ++ w), f, g) (some (kI (if kbit (f 10 2) b = 1 then 1 else 0))) ((kMC ++ w), f, g) from c_isGone (by unfold kSA; omega) hg (by omega) ⟨by omega, by omega⟩) (by omega) ?_
    refine kv_ifneB (tgt := 46) dX6_ring_21 (by decide) (fun h2 => ?_) (fun h2 => ?_)
    · refine kw_bipush dX6_ring_46 (by decide) (by decide) ?_
      have w3 : kbit (f 10 2) b = s (8 + b) := by rw [e2]; exact gsum_bit hS ⟨by omega, by omega⟩
      have w2 := hD b (by omega) (by omega)
      exact kv_ri dX6_ring_48 rfl (Eq.symm (by unfold sRing; rw [if_pos (by omega), if_pos (by omega)])) (by rw [if_neg (by omega), if_neg (by omega)])
    · refine kw_aload_n dX6_ring_24 rfl ?_
      refine kv_getR (b := 4) dX6_ring_25 kf_X6_19 rfl rfl rfl (hg (0, 1, 4) (by decide)) ?_
      refine kw_aload_n dX6_ring_28 rfl ?_
      refine kv_getR (b := 10) dX6_ring_29 kf_X6_26 rfl rfl rfl (hg (0, 2, 10) (by decide)) ?_
      refine kw_iload_n dX6_ring_32 rfl ?_
      refine kw_aload_n dX6_ring_33 rfl ?_
      refine kv_getR (b := 10) dX6_ring_34 kf_X6_26 rfl rfl rfl (hg (0, 2, 10) (by decide)) ?_
      refine kv_getI (kz := 1) dX6_ring_37 kf_X6_114 rfl rfl rfl rfl ?_
      refine kv_callV1 (M2 := M_X2_isDead) (As := [kA (10), kI (b), kI (f 10 1)]) dX6_ring_40 ml_X6_117 q_X2_isDead rfl rfl rfl (Nat.le_of_ble_eq_true rfl) (show kF E 1 M_X2_isDead [kA 4, kA 10, kI b, kI (f 10 1)] ((kMC ++ w), f, g) (some (kI (if f 11 b ≤ f 10 1 then 1 else 0))) ((kMC ++ w), f, g) from c_isDead (by unfold kSA; omega) hg (by omega)) (by omega) ?_
      refine kv_ifeqB (tgt := 49) dX6_ring_43 (by decide) (fun h3 => ?_) (fun h3 => ?_)
      · refine kw_aload_n dX6_ring_49 rfl ?_
        refine kv_getR (b := 10) dX6_ring_50 kf_X6_26 rfl rfl rfl (hg (0, 2, 10) (by decide)) ?_
        refine kw_iload_n dX6_ring_53 rfl ?_
        refine kv_callV1 (M2 := M_X4_deadFrom) (As := [kI (b)]) dX6_ring_54 ml_X6_111 q_X4_deadFrom rfl rfl rfl (Nat.le_of_ble_eq_true rfl) (show kF E 0 M_X4_deadFrom [kA 10, kI b] ((kMC ++ w), f, g) (some (kI (f 11 b))) ((kMC ++ w), f, g) from c_deadFromR (by unfold kSA; omega) hg (by omega)) (by omega) ?_
        refine kw_istore_n dX6_ring_57 (by decide) trivial (L2 := [some (kA (0)), some (kI (b)), some (kI (f 11 b))]) rfl ?_
        refine kw_aload_n dX6_ring_58 rfl ?_
        refine kv_getR (b := 12) dX6_ring_59 kf_X6_35 rfl rfl rfl (hg (0, 3, 12) (by decide)) ?_
        refine kw_aload_n dX6_ring_62 rfl ?_
        refine kv_getR (b := 10) dX6_ring_63 kf_X6_26 rfl rfl rfl (hg (0, 2, 10) (by decide)) ?_
        refine kv_callV0 (M2 := M_X3_add) (As := [kA (10)]) dX6_ring_66 ml_X6_159 q_X3_add rfl rfl rfl (Nat.le_of_ble_eq_true rfl) (c_padd hg hst hm) (by omega) ?_
        refine kw_aload_n dX6_ring_69 rfl ?_
        refine kv_getR (b := 10) dX6_ring_70 kf_X6_26 rfl rfl rfl ((kAg_G hg) (0, 2, 10) (by decide)) ?_
        refine kw_iload_n dX6_ring_73 rfl ?_
        refine kw_aload_n dX6_ring_74 rfl ?_
        refine kv_getR (b := 10) dX6_ring_75 kf_X6_26 rfl rfl rfl ((kAg_G hg) (0, 2, 10) (by decide)) ?_
        refine kv_getI (kz := 1) dX6_ring_78 kf_X6_114 rfl rfl rfl rfl ?_
        refine kv_callV0 (M2 := M_X4_setDeadFrom) (As := [kI (b), kI (((kAd f st)) 10 1)]) dX6_ring_81 ml_X6_176 q_X4_setDeadFrom rfl rfl rfl (Nat.le_of_ble_eq_true rfl) (show kF E 0 M_X4_setDeadFrom [kA 10, kI b, kI (kAd f st 10 1)] ((kMC ++ w), kAd f st, kAg f g st) none ((kMC ++ w), k_u (kAd f st) 11 b (kAd f st 10 1), kAg f g st) from c_setDeadR (by unfold kSA; omega) (kAg_G hg) (by omega)) (by omega) ?_
        refine kw_iload_n dX6_ring_84 rfl ?_
        have w3 : kbit (f 10 2) b = s (8 + b) := by rw [e2]; exact gsum_bit hS ⟨by omega, by omega⟩
        have w2 := hD b (by omega) (by omega)
        exact kv_ri dX6_ring_85 rfl (Eq.symm (by unfold sRing; rw [if_pos (by omega), if_neg (by omega)]; exact w2.symm)) (by rw [if_pos (by omega), if_pos (by omega), q10, e28])
      · refine kw_bipush dX6_ring_46 (by decide) (by decide) ?_
        have w3 : kbit (f 10 2) b = s (8 + b) := by rw [e2]; exact gsum_bit hS ⟨by omega, by omega⟩
        have w2 := hD b (by omega) (by omega)
        exact kv_ri dX6_ring_48 rfl (Eq.symm (by unfold sRing; rw [if_pos (by omega), if_pos (by omega)])) (by rw [if_neg (by omega), if_neg (by omega)])
  · refine kw_iconst dX6_ring_11 ⟨by decide, by decide⟩ ?_
    exact kv_ri dX6_ring_12 rfl (Eq.symm (by unfold sRing; rw [if_neg (by omega)])) (by rw [if_neg (by omega), if_neg (by omega)])
