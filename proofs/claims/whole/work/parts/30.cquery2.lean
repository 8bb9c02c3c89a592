/-! the class's calls with one loop that change nothing -/
theorem sEver_mono {T s : Int → Int} {b : Int} {n : Nat} (h : sEver T s b n = true) : ∀ k : Nat, sEver T s b (n + k) = true
  | 0 => h
  | k + 1 => by rw [← Nat.add_assoc, sEver, sEver_mono h k]; rfl
theorem sEver_s {T s : Int → Int} {b i : Int} (h : 0 ≤ i) : sEver T s b (i + 1).toNat = (sEver T s b i.toNat || decide (sFd T s i b ≠ -4)) := by
  rw [show (i + 1).toNat = i.toNat + 1 by omega, sEver, k_nat h]
theorem sEver_le {T s : Int → Int} {b i m : Int} (h : sEver T s b i.toNat = true) (hi : i ≤ m) : sEver T s b m.toNat = true := by
  rw [show m.toNat = i.toNat + (m.toNat - i.toNat) by omega]
  exact sEver_mono h _
theorem l_nobody {E : kEnv} {w : List (Nat × Nat)} {f : Nat → Int → Int} {g : Nat → Int → Option Nat} {T s : Int → Int} {b : Int} (hg : kG g) (hT : mTO T) (hS : mSO T s) (hR : RF T f) (hI : Sim T f 10 s) (hD : ∀ b, 0 ≤ b → b < T 0 → f 11 b = s b) (h28 : 0 ≤ s 28 ∧ s 28 ≤ 99) (hb : 0 ≤ b ∧ b < T 0) : ∀ (n : Nat) (i : Int), (0 ≤ i ∧ i ≤ T 1) → (T 1 - i).toNat < n → sEver T s b i.toNat = false → kW E 4 0 0 M_X2_nobodyEverTakes 2 [some (kA (4)), some (kA (10)), some (kI (b)), some (kI (i))] [] ((kMC ++ w), f, g) (fun r h' => r = some (kI (if sEver T s b (T 1).toNat = false then 1 else 0)) ∧ h' = ((kMC ++ w), f, g)) := by
  intro n
  induction n with
  | zero => intro i _ y; omega
  | succ n ih =>
    intro i y0 y1 z1
    have hF := RF_FO hT hR
    have n0 := hT.1
    have n1 := hT.2.1
    have r0 := hR.1
    have r1 := hR.2.1
    have hSO := Sim_SO hT hS hR hI (by omega)
    have e28 := hI.1
    have e2 := hI.2.1
    have sg := hSO.2.1
    refine kw_iload_n dX2_nobodyEverTakes_2 rfl ?_
    refine kw_aload_n dX2_nobodyEverTakes_3 rfl ?_
    refine kv_getI (kz := 6) dX2_nobodyEverTakes_4 kf_X2_31 rfl rfl rfl rfl ?_
    refine kw_icmp_ge (tgt := 30) dX2_nobodyEverTakes_7 (by decide) (fun h1 => ?_) (fun h1 => ?_)
    · refine kw_iconst dX2_nobodyEverTakes_30 ⟨by decide, by decide⟩ ?_
      exact kv_rb dX2_nobodyEverTakes_31 rfl (if_pos (by rw [← show i = T 1 by omega]; exact z1)).symm rfl
    · refine kw_aload_n dX2_nobodyEverTakes_10 rfl ?_
      refine kw_aload_n dX2_nobodyEverTakes_11 rfl ?_
      refine kw_iload_n dX2_nobodyEverTakes_12 rfl ?_
      refine kw_iload_n dX2_nobodyEverTakes_13 rfl ?_
      refine kv_callV1 (M2 := M_X2_firstDayFor) (As := [kA (10), kI (i), kI (b)]) dX2_nobodyEverTakes_14 ml_X2_138 q_X2_firstDayFor rfl rfl rfl (Nat.le_of_ble_eq_true rfl) (c_firstDayFor hg hT hS hR hI hD h28 ⟨by omega, by omega⟩ ⟨by omega, by omega⟩) (by omega) ?_
      refine kw_bipush dX2_nobodyEverTakes_17 (by decide) (by decide) ?_
      refine kw_icmp_eq (tgt := 24) dX2_nobodyEverTakes_19 (by decide) (fun h2 => ?_) (fun h2 => ?_)
      · refine kw_iinc dX2_nobodyEverTakes_24 (by decide) rfl ⟨by omega, by omega⟩ trivial (L2 := [some (kA (4)), some (kA (10)), some (kI (b)), some (kI (i + 1))]) rfl ?_
        refine kw_goto (tgt := 2) dX2_nobodyEverTakes_27 (by decide) ?_
        exact ih (i + 1) ⟨by omega, by omega⟩ (by omega) (by rw [sEver_s y0.1, z1, h2]; rfl)
      · refine kw_iconst dX2_nobodyEverTakes_22 ⟨by decide, by decide⟩ ?_
        exact kv_rb dX2_nobodyEverTakes_23 rfl (if_neg (by rw [sEver_le (i := i + 1) (m := T 1) (by rw [sEver_s y0.1, decide_eq_true h2, Bool.or_true]) (by omega)]; decide)).symm rfl
theorem c_nobody {E : kEnv} {w : List (Nat × Nat)} {f : Nat → Int → Int} {g : Nat → Int → Option Nat} {T s : Int → Int} {b : Int} (hg : kG g) (hT : mTO T) (hS : mSO T s) (hR : RF T f) (hI : Sim T f 10 s) (hD : ∀ b, 0 ≤ b → b < T 0 → f 11 b = s b) (h28 : 0 ≤ s 28 ∧ s 28 ≤ 99) (hb : 0 ≤ b ∧ b < T 0) : kF E 4 M_X2_nobodyEverTakes [kA (4), kA (10), kI (b)] ((kMC ++ w), f, g) (some (kI (if sEver T s b (T 1).toNat = false then 1 else 0))) ((kMC ++ w), f, g) := by
  refine kF_of (by decide) (by simp [k_one]) (Nat.le_of_ble_eq_true rfl) (L := [some (kA (4)), some (kA (10)), some (kI (b)), none]) rfl ?_
  have hF := RF_FO hT hR
  have n0 := hT.1
  have n1 := hT.2.1
  have r0 := hR.1
  have r1 := hR.2.1
  have hSO := Sim_SO hT hS hR hI (by omega)
  have e28 := hI.1
  have e2 := hI.2.1
  have sg := hSO.2.1
  refine kw_iconst dX2_nobodyEverTakes_0 ⟨by decide, by decide⟩ ?_
  refine kw_istore_n dX2_nobodyEverTakes_1 (by decide) trivial (L2 := [some (kA (4)), some (kA (10)), some (kI (b)), some (kI (0))]) rfl ?_
  exact l_nobody hg hT hS hR hI hD h28 hb _ 0 ⟨by omega, by omega⟩ (Nat.lt_succ_self _) rfl
theorem sWaste_s {T s : Int → Int} {i : Int} (h : 0 ≤ i) : sWaste T s (i + 1).toNat = sWaste T s i.toNat + (if s (8 + i) = 1 ∨ sEver T s i (T 1).toNat = true then 0 else T (21 + i)) := by
  rw [show (i + 1).toNat = i.toNat + 1 by omega, sWaste, k_nat h]
theorem sWaste_rng {T s : Int → Int} (hT : mTO T) : ∀ n : Nat, n ≤ (T 0).toNat → 0 ≤ sWaste T s n ∧ sWaste T s n ≤ 20 * n
  | 0, _ => by simp [sWaste]
  | n + 1, h => by
    have ih := sWaste_rng (s := s) hT n (by omega)
    have ht := (hT.2.2.2.2.2.1 n (by omega) (by omega)).2.2
    rw [sWaste]
    split <;> omega
theorem l_waste {E : kEnv} {w : List (Nat × Nat)} {f : Nat → Int → Int} {g : Nat → Int → Option Nat} {T s : Int → Int}  (hg : kG g) (hT : mTO T) (hS : mSO T s) (hR : RF T f) (hI : Sim T f 10 s) (hD : ∀ b, 0 ≤ b → b < T 0 → f 11 b = s b) (h28 : 0 ≤ s 28 ∧ s 28 ≤ 99) : ∀ (n : Nat) (b : Int), (0 ≤ b ∧ b ≤ T 0) → (T 0 - b).toNat < n → kW E 5 0 0 M_X6_waste 4 [some (kA (0)), some (kI (sWaste T s b.toNat)), some (kI (b))] [] ((kMC ++ w), f, g) (fun r h' => r = some (kI (sWaste T s (T 0).toNat)) ∧ h' = ((kMC ++ w), f, g)) := by
  intro n
  induction n with
  | zero => intro b _ y; omega
  | succ n ih =>
    intro b y0 y1
    have hF := RF_FO hT hR
    have n0 := hT.1
    have n1 := hT.2.1
    have r0 := hR.1
    have r1 := hR.2.1
    have hSO := Sim_SO hT hS hR hI (by omega)
    have e28 := hI.1
    have e2 := hI.2.1
    have sg := hSO.2.1
    have kb1 : ∀ _ : Unit, 0 ≤ b → b < T 0 → f 7 b = T (21 + b) := fun _ x y => (hR.2.2.2.2.2.1 b x y).2.2
    have kb3 : ∀ _ : Unit, 0 ≤ b → b < T 0 → kbit (f 10 2) b = s (8 + b) := fun _ x y => by rw [e2]; exact gsum_bit hS ⟨x, by omega⟩
    have kb4 : ∀ _ : Unit, 0 ≤ b → b < T 0 → s (8 + b) = 0 ∨ s (8 + b) = 1 := fun _ x y => (hS.1 b x (by omega)).1
    have qw := sWaste_rng (s := s) hT b.toNat (by omega)
    have ht : ∀ _ : Unit, 0 ≤ b → b < T 0 → 1 ≤ f 7 b ∧ f 7 b ≤ 20 := fun _ x y => (hF.2.2.2.2.2.1 b x (by omega)).2.2
    refine kw_iload_n dX6_waste_4 rfl ?_
    refine kw_aload_n dX6_waste_5 rfl ?_
    refine kv_getR (b := 4) dX6_waste_6 kf_X6_19 rfl rfl rfl (hg (0, 1, 4) (by decide)) ?_
    refine kv_getI (kz := 5) dX6_waste_9 kf_X6_94 rfl rfl rfl rfl ?_
    refine kw_icmp_ge (tgt := 58) dX6_waste_12 (by decide) (fun h1 => ?_) (fun h1 => ?_)
    · refine kw_iload_n dX6_waste_58 rfl ?_
      exact kv_ri dX6_waste_59 rfl (by rw [show b = T 0 by omega]) rfl
    · refine kw_aload_n dX6_waste_15 rfl ?_
      refine kv_getR (b := 10) dX6_waste_16 kf_X6_26 rfl rfl rfl (hg (0, 2, 10) (by decide)) ?_
      refine kw_iload_n dX6_waste_19 rfl ?_
      refine kv_callV1 (M2 := M_X4_isGone) (As := [kI (b)]) dX6_waste_20 ml_X6_128 q_X4_isGone rfl rfl rfl (Nat.le_of_ble_eq_true rfl) (c_isGone (by unfold kSA; omega) hg (by omega) (by omega)) (by omega) ?_
      refine kv_ifneB (tgt := 52) dX6_waste_23 (by decide) (fun h2 => ?_) (fun h2 => ?_)
      · refine kw_iinc dX6_waste_52 (by decide) rfl ⟨by omega, by omega⟩ trivial (L2 := [some (kA (0)), some (kI (sWaste T s b.toNat)), some (kI (b + 1))]) rfl ?_
        refine kw_goto (tgt := 4) dX6_waste_55 (by decide) ?_
        have e1 := sWaste_s (T := T) (s := s) y0.1
        rw [if_pos (by first | exact Or.inl (by have := kb3 () y0.1 (by omega); omega) | exact Or.inr (by simpa using h3)), Int.add_zero] at e1
        rw [← e1]
        exact ih (b + 1) ⟨by omega, by omega⟩ (by omega)
      · refine kw_aload_n dX6_waste_26 rfl ?_
        refine kv_getR (b := 4) dX6_waste_27 kf_X6_19 rfl rfl rfl (hg (0, 1, 4) (by decide)) ?_
        refine kw_aload_n dX6_waste_30 rfl ?_
        refine kv_getR (b := 10) dX6_waste_31 kf_X6_26 rfl rfl rfl (hg (0, 2, 10) (by decide)) ?_
        refine kw_iload_n dX6_waste_34 rfl ?_
        refine kv_callV1 (M2 := M_X2_nobodyEverTakes) (As := [kA (10), kI (b)]) dX6_waste_35 ml_X6_240 q_X2_nobodyEverTakes rfl rfl rfl (Nat.le_of_ble_eq_true rfl) (c_nobody hg hT hS hR hI hD h28 ⟨by omega, by omega⟩) (by omega) ?_
        refine kv_ifeqB (tgt := 52) dX6_waste_38 (by decide) (fun h3 => ?_) (fun h3 => ?_)
        · refine kw_iinc dX6_waste_52 (by decide) rfl ⟨by omega, by omega⟩ trivial (L2 := [some (kA (0)), some (kI (sWaste T s b.toNat)), some (kI (b + 1))]) rfl ?_
          refine kw_goto (tgt := 4) dX6_waste_55 (by decide) ?_
          have e1 := sWaste_s (T := T) (s := s) y0.1
          rw [if_pos (by first | exact Or.inl (by have := kb3 () y0.1 (by omega); omega) | exact Or.inr (by simpa using h3)), Int.add_zero] at e1
          rw [← e1]
          exact ih (b + 1) ⟨by omega, by omega⟩ (by omega)
        · refine kw_iload_n dX6_waste_41 rfl ?_
          refine kw_aload_n dX6_waste_42 rfl ?_
          refine kv_getR (b := 4) dX6_waste_43 kf_X6_19 rfl rfl rfl (hg (0, 1, 4) (by decide)) ?_
          refine kw_iload_n dX6_waste_46 rfl ?_
          refine kv_callV1 (M2 := M_X2_weight) (As := [kI (b)]) dX6_waste_47 ml_X6_108 q_X2_weight rfl rfl rfl (Nat.le_of_ble_eq_true rfl) (c_weight hg ⟨by omega, by omega⟩) (by omega) ?_
          have ht0 := ht () (by omega) (by omega)
          refine kw_iadd dX6_waste_50 ⟨by omega, by omega⟩ ?_
          refine kw_istore_n dX6_waste_51 (by decide) trivial (L2 := [some (kA (0)), some (kI ((sWaste T s b.toNat) + (f 7 b))), some (kI (b))]) rfl ?_
          refine kw_iinc dX6_waste_52 (by decide) rfl ⟨by omega, by omega⟩ trivial (L2 := [some (kA (0)), some (kI ((sWaste T s b.toNat) + (f 7 b))), some (kI (b + 1))]) rfl ?_
          refine kw_goto (tgt := 4) dX6_waste_55 (by decide) ?_
          have e1 := sWaste_s (T := T) (s := s) y0.1
          rw [if_neg (by rintro (z | z); exact h2 (by have := kb3 () y0.1 (by omega); omega); rw [h3] at z; cases z), ← kb1 () y0.1 (by omega)] at e1
          rw [← e1]
          exact ih (b + 1) ⟨by omega, by omega⟩ (by omega)
theorem c_waste {E : kEnv} {w : List (Nat × Nat)} {f : Nat → Int → Int} {g : Nat → Int → Option Nat} {T s : Int → Int}  (hg : kG g) (hT : mTO T) (hS : mSO T s) (hR : RF T f) (hI : Sim T f 10 s) (hD : ∀ b, 0 ≤ b → b < T 0 → f 11 b = s b) (h28 : 0 ≤ s 28 ∧ s 28 ≤ 99) : kF E 5 M_X6_waste [kA (0)] ((kMC ++ w), f, g) (some (kI (sWaste T s (T 0).toNat))) ((kMC ++ w), f, g) := by
  refine kF_of (by decide) (by simp [k_one]) (Nat.le_of_ble_eq_true rfl) (L := [some (kA (0)), none, none]) rfl ?_
  have hF := RF_FO hT hR
  have n0 := hT.1
  have n1 := hT.2.1
  have r0 := hR.1
  have r1 := hR.2.1
  have hSO := Sim_SO hT hS hR hI (by omega)
  have e28 := hI.1
  have e2 := hI.2.1
  have sg := hSO.2.1
  refine kw_iconst dX6_waste_0 ⟨by decide, by decide⟩ ?_
  refine kw_istore_n dX6_waste_1 (by decide) trivial (L2 := [some (kA (0)), some (kI (0)), none]) rfl ?_
  refine kw_iconst dX6_waste_2 ⟨by decide, by decide⟩ ?_
  refine kw_istore_n dX6_waste_3 (by decide) trivial (L2 := [some (kA (0)), some (kI (0)), some (kI (0))]) rfl ?_
  exact l_waste hg hT hS hR hI hD h28 _ 0 ⟨by omega, by omega⟩ (Nat.lt_succ_self _)
theorem sNeeds_s {T s : Int → Int} {i : Int} (h : 0 ≤ i) : sNeeds T s (i + 1).toNat = sNeeds T s i.toNat + (if mWarm T s i then 0 else T (33 + i) - s (20 + i)) := by
  rw [show (i + 1).toNat = i.toNat + 1 by omega, sNeeds, k_nat h]
theorem sNeeds_rng {T s : Int → Int} (hT : mTO T) (hS : mSO T s) : ∀ n : Nat, n ≤ (T 1).toNat → 0 ≤ sNeeds T s n ∧ sNeeds T s n ≤ 60 * n
  | 0, _ => by simp [sNeeds]
  | n + 1, h => by
    have ih := sNeeds_rng (s := s) hT hS n (by omega)
    have ht := (hT.2.2.2.2.2.2 n (by omega) (by omega)).2
    have hs := (hS.2.2 n (by omega) (by omega)).1
    rw [sNeeds]
    unfold mWarm
    split <;> omega
theorem l_needs {E : kEnv} {w : List (Nat × Nat)} {f : Nat → Int → Int} {g : Nat → Int → Option Nat} {T s : Int → Int}  (hg : kG g) (hT : mTO T) (hS : mSO T s) (hR : RF T f) (hI : Sim T f 10 s) (hD : ∀ b, 0 ≤ b → b < T 0 → f 11 b = s b) (h28 : 0 ≤ s 28 ∧ s 28 ≤ 99) : ∀ (n : Nat) (i : Int), (0 ≤ i ∧ i ≤ T 1) → (T 1 - i).toNat < n → kW E 3 0 0 M_X6_needs 4 [some (kA (0)), some (kI (sNeeds T s i.toNat)), some (kI (i))] [] ((kMC ++ w), f, g) (fun r h' => r = some (kI (sNeeds T s (T 1).toNat)) ∧ h' = ((kMC ++ w), f, g)) := by
  intro n
  induction n with
  | zero => intro i _ y; omega
  | succ n ih =>
    intro i y0 y1
    have hF := RF_FO hT hR
    have n0 := hT.1
    have n1 := hT.2.1
    have r0 := hR.1
    have r1 := hR.2.1
    have hSO := Sim_SO hT hS hR hI (by omega)
    have e28 := hI.1
    have e2 := hI.2.1
    have sg := hSO.2.1
    have ki1 : ∀ _ : Unit, 0 ≤ i → i < T 1 → f 9 i = T (33 + i) ∧ 1 ≤ f 9 i ∧ f 9 i ≤ 60 := fun _ x y => ⟨(hR.2.2.2.2.2.2 i x y).2, (hF.2.2.2.2.2.2 i x (by omega)).2⟩
    have ki2 : ∀ _ : Unit, 0 ≤ i → i < T 1 → f 11 (8 + i) = s (20 + i) ∧ 0 ≤ f 11 (8 + i) ∧ f 11 (8 + i) ≤ 400 := fun _ x y => ⟨(hI.2.2.2.1 i x y).1, (hSO.2.2.2 i x (by omega)).1⟩
    have qw := sNeeds_rng (s := s) hT hS i.toNat (by omega)
    refine kw_iload_n dX6_needs_4 rfl ?_
    refine kw_aload_n dX6_needs_5 rfl ?_
    refine kv_getR (b := 4) dX6_needs_6 kf_X6_19 rfl rfl rfl (hg (0, 1, 4) (by decide)) ?_
    refine kv_getI (kz := 6) dX6_needs_9 kf_X6_227 rfl rfl rfl rfl ?_
    refine kw_icmp_ge (tgt := 45) dX6_needs_12 (by decide) (fun h1 => ?_) (fun h1 => ?_)
    · refine kw_iload_n dX6_needs_45 rfl ?_
      exact kv_ri dX6_needs_46 rfl (by rw [show i = T 1 by omega]) rfl
    · refine kw_iload_n dX6_needs_15 rfl ?_
      refine kw_iconst dX6_needs_16 ⟨by decide, by decide⟩ ?_
      refine kw_aload_n dX6_needs_17 rfl ?_
      refine kv_getR (b := 4) dX6_needs_18 kf_X6_19 rfl rfl rfl (hg (0, 1, 4) (by decide)) ?_
      refine kw_iload_n dX6_needs_21 rfl ?_
      refine kv_callV1 (M2 := M_X2_hearth) (As := [kI (i)]) dX6_needs_22 ml_X6_140 q_X2_hearth rfl rfl rfl (Nat.le_of_ble_eq_true rfl) (c_hearth hg (by omega)) (by omega) ?_
      refine kw_aload_n dX6_needs_25 rfl ?_
      refine kv_getR (b := 10) dX6_needs_26 kf_X6_26 rfl rfl rfl (hg (0, 2, 10) (by decide)) ?_
      refine kw_iload_n dX6_needs_29 rfl ?_
      refine kv_callV1 (M2 := M_X4_stack) (As := [kI (i)]) dX6_needs_30 ml_X6_143 q_X4_stack rfl rfl rfl (Nat.le_of_ble_eq_true rfl) (show kF E 0 M_X4_stack [kA 10, kI i] ((kMC ++ w), f, g) (some (kI (f 11 (8 + i)))) ((kMC ++ w), f, g) from c_stackR (by unfold kSA; omega) hg (by omega)) (by omega) ?_
      have k1 := ki1 () (by omega) (by omega)
      have k2 := ki2 () (by omega) (by omega)
      refine kw_isub dX6_needs_33 ⟨by omega, by omega⟩ ?_
      refine kw_max dX6_needs_34 ml_X6_243 (Nat.le_of_ble_eq_true rfl) (by omega) ?_
      refine kw_iadd dX6_needs_37 ⟨by omega, by omega⟩ ?_
      refine kw_istore_n dX6_needs_38 (by decide) trivial (L2 := [some (kA (0)), some (kI ((sNeeds T s i.toNat) + (if 0 < (f 9 i) - (f 11 (8 + i)) then (f 9 i) - (f 11 (8 + i)) else 0))), some (kI (i))]) rfl ?_
      refine kw_iinc dX6_needs_39 (by decide) rfl ⟨by omega, by omega⟩ trivial (L2 := [some (kA (0)), some (kI ((sNeeds T s i.toNat) + (if 0 < (f 9 i) - (f 11 (8 + i)) then (f 9 i) - (f 11 (8 + i)) else 0))), some (kI (i + 1))]) rfl ?_
      refine kw_goto (tgt := 4) dX6_needs_42 (by decide) ?_
      have e1 := sNeeds_s (T := T) (s := s) y0.1
      rw [show (if mWarm T s i then (0 : Int) else T (33 + i) - s (20 + i)) = (if 0 < f 9 i - f 11 (8 + i) then f 9 i - f 11 (8 + i) else 0) by unfold mWarm; split <;> split <;> omega] at e1
      rw [← e1]
      exact ih (i + 1) ⟨by omega, by omega⟩ (by omega)
theorem c_needs {E : kEnv} {w : List (Nat × Nat)} {f : Nat → Int → Int} {g : Nat → Int → Option Nat} {T s : Int → Int}  (hg : kG g) (hT : mTO T) (hS : mSO T s) (hR : RF T f) (hI : Sim T f 10 s) (hD : ∀ b, 0 ≤ b → b < T 0 → f 11 b = s b) (h28 : 0 ≤ s 28 ∧ s 28 ≤ 99) : kF E 3 M_X6_needs [kA (0)] ((kMC ++ w), f, g) (some (kI (sNeeds T s (T 1).toNat))) ((kMC ++ w), f, g) := by
  refine kF_of (by decide) (by simp [k_one]) (Nat.le_of_ble_eq_true rfl) (L := [some (kA (0)), none, none]) rfl ?_
  have hF := RF_FO hT hR
  have n0 := hT.1
  have n1 := hT.2.1
  have r0 := hR.1
  have r1 := hR.2.1
  have hSO := Sim_SO hT hS hR hI (by omega)
  have e28 := hI.1
  have e2 := hI.2.1
  have sg := hSO.2.1
  refine kw_iconst dX6_needs_0 ⟨by decide, by decide⟩ ?_
  refine kw_istore_n dX6_needs_1 (by decide) trivial (L2 := [some (kA (0)), some (kI (0)), none]) rfl ?_
  refine kw_iconst dX6_needs_2 ⟨by decide, by decide⟩ ?_
  refine kw_istore_n dX6_needs_3 (by decide) trivial (L2 := [some (kA (0)), some (kI (0)), some (kI (0))]) rfl ?_
  exact l_needs hg hT hS hR hI hD h28 _ 0 ⟨by omega, by omega⟩ (Nat.lt_succ_self _)
theorem l_whose {E : kEnv} {w : List (Nat × Nat)} {f : Nat → Int → Int} {g : Nat → Int → Option Nat} {T s : Int → Int} {b d : Int} (hg : kG g) (hT : mTO T) (hS : mSO T s) (hR : RF T f) (hI : Sim T f 10 s) (hD : ∀ b, 0 ≤ b → b < T 0 → f 11 b = s b) (h28 : 0 ≤ s 28 ∧ s 28 ≤ 99) (hb : 0 ≤ b ∧ b < T 0) (hd : 0 ≤ d ∧ d ≤ 99) : ∀ (n : Nat) (i : Int), (0 ≤ i ∧ i ≤ T 1) → (T 1 - i).toNat < n → kW E 3 0 0 M_X6_whose 28 [some (kA (0)), some (kI (b)), some (kI (d)), some (kI (kBits (fun i => mCould T s i b d 0) i.toNat)), some (kI (i))] [] ((kMC ++ w), f, g) (fun r h' => r = some (kI (kBits (fun i => mCould T s i b d 0) (T 1).toNat)) ∧ h' = ((kMC ++ w), f, g)) := by
  intro n
  induction n with
  | zero => intro i _ y; omega
  | succ n ih =>
    intro i y0 y1
    have hF := RF_FO hT hR
    have n0 := hT.1
    have n1 := hT.2.1
    have r0 := hR.1
    have r1 := hR.2.1
    have hSO := Sim_SO hT hS hR hI (by omega)
    have e28 := hI.1
    have e2 := hI.2.1
    have sg := hSO.2.1
    have k49 := hF.2.2.2.2.1
    have kb1 := hR.2.2.2.2.2.1 b hb.1 hb.2
    have kb2 := hD b hb.1 hb.2
    have kb3 : kbit (f 10 2) b = s (8 + b) := by rw [e2]; exact gsum_bit hS ⟨hb.1, by omega⟩
    have kb4 := (hS.1 b hb.1 (by omega)).1
    have kb5 := hI.2.2.2.2 b hb.1 hb.2
    have kbc : -1000 ≤ f 11 b ∧ f 11 b ≤ 1000 := by have z : -100 ≤ f 11 b ∧ f 11 b ≤ 300 := kb5; omega
    have hl := kBits_lt (c := fun i => mCould T s i b d 0) i.toNat
    have hp := k_pow4 i.toNat (by omega)
    refine kw_iload dX6_whose_28 rfl ?_
    refine kw_aload_n dX6_whose_30 rfl ?_
    refine kv_getR (b := 4) dX6_whose_31 kf_X6_19 rfl rfl rfl (hg (0, 1, 4) (by decide)) ?_
    refine kv_getI (kz := 6) dX6_whose_34 kf_X6_227 rfl rfl rfl rfl ?_
    refine kw_icmp_ge (tgt := 72) dX6_whose_37 (by decide) (fun h1 => ?_) (fun h1 => ?_)
    · refine kw_iload_n dX6_whose_72 rfl ?_
      exact kv_ri dX6_whose_73 rfl (by rw [show i = T 1 by omega]) rfl
    · refine kw_aload_n dX6_whose_40 rfl ?_
      refine kv_getR (b := 4) dX6_whose_41 kf_X6_19 rfl rfl rfl (hg (0, 1, 4) (by decide)) ?_
      refine kw_aload_n dX6_whose_44 rfl ?_
      refine kv_getR (b := 10) dX6_whose_45 kf_X6_26 rfl rfl rfl (hg (0, 2, 10) (by decide)) ?_
      refine kw_iload dX6_whose_48 rfl ?_
      refine kw_iload_n dX6_whose_50 rfl ?_
      refine kw_iload_n dX6_whose_51 rfl ?_
      refine kw_iconst dX6_whose_52 ⟨by decide, by decide⟩ ?_
      refine kv_callV1 (M2 := M_X2_couldTake) (As := [kA (10), kI (i), kI (b), kI (d), kI (0)]) dX6_whose_53 ml_X6_230 q_X2_couldTake rfl rfl rfl (Nat.le_of_ble_eq_true rfl) (c_couldO hg hT hR ⟨by omega, by omega⟩ ⟨by omega, by omega⟩ kbc kb2 (hI.2.2.2.1 i (by omega) (by omega)).2.1 ⟨by omega, by omega⟩) (by omega) ?_
      refine kv_ifeqB (tgt := 66) dX6_whose_56 (by decide) (fun h2 => ?_) (fun h2 => ?_)
      · refine kw_iinc dX6_whose_66 (by decide) rfl ⟨by omega, by omega⟩ trivial (L2 := [some (kA (0)), some (kI (b)), some (kI (d)), some (kI (kBits (fun i => mCould T s i b d 0) i.toNat)), some (kI (i + 1))]) rfl ?_
        refine kw_goto (tgt := 28) dX6_whose_69 (by decide) ?_
        have e1 := kBits_s (c := fun i => mCould T s i b d 0) y0.1
        rw [if_neg (fun z => h2 (oCould_i.mpr z)), Int.add_zero] at e1
        rw [← e1]
        exact ih (i + 1) ⟨by omega, by omega⟩ (by omega)
      · refine kw_iload_n dX6_whose_59 rfl ?_
        refine kw_iconst dX6_whose_60 ⟨by decide, by decide⟩ ?_
        refine kw_iload dX6_whose_61 rfl ?_
        refine kv_shl1 dX6_whose_63 (by omega) (by omega) ?_
        refine kv_orb (b := i) dX6_whose_64 (by omega) (by omega) (by omega) (by omega) (by rw [← k_nat y0.1]; simp only [Int.toNat_natCast]; exact kBits_bit) ?_
        refine kw_istore_n dX6_whose_65 (by decide) trivial (L2 := [some (kA (0)), some (kI (b)), some (kI (d)), some (kI ((kBits (fun i => mCould T s i b d 0) i.toNat) + 2 ^ i.toNat)), some (kI (i))]) rfl ?_
        refine kw_iinc dX6_whose_66 (by decide) rfl ⟨by omega, by omega⟩ trivial (L2 := [some (kA (0)), some (kI (b)), some (kI (d)), some (kI ((kBits (fun i => mCould T s i b d 0) i.toNat) + 2 ^ i.toNat)), some (kI (i + 1))]) rfl ?_
        refine kw_goto (tgt := 28) dX6_whose_69 (by decide) ?_
        have e1 := kBits_s (c := fun i => mCould T s i b d 0) y0.1
        rw [if_pos (oCould_i.mp h2)] at e1
        rw [← e1]
        exact ih (i + 1) ⟨by omega, by omega⟩ (by omega)
theorem c_whose {E : kEnv} {w : List (Nat × Nat)} {f : Nat → Int → Int} {g : Nat → Int → Option Nat} {T s : Int → Int} {b d : Int} (hg : kG g) (hT : mTO T) (hS : mSO T s) (hR : RF T f) (hI : Sim T f 10 s) (hD : ∀ b, 0 ≤ b → b < T 0 → f 11 b = s b) (h28 : 0 ≤ s 28 ∧ s 28 ≤ 99) : kF E 3 M_X6_whose [kA (0), kI (b), kI (d)] ((kMC ++ w), f, g) (some (kI (sWhose T s b d))) ((kMC ++ w), f, g) := by
  refine kF_of (by decide) (by simp [k_one]) (Nat.le_of_ble_eq_true rfl) (L := [some (kA (0)), some (kI (b)), some (kI (d)), none, none]) rfl ?_
  have hF := RF_FO hT hR
  have n0 := hT.1
  have n1 := hT.2.1
  have r0 := hR.1
  have r1 := hR.2.1
  have hSO := Sim_SO hT hS hR hI (by omega)
  have e28 := hI.1
  have e2 := hI.2.1
  have sg := hSO.2.1
  refine kw_aload_n dX6_whose_0 rfl ?_
  refine kv_getR (b := 4) dX6_whose_1 kf_X6_19 rfl rfl rfl (hg (0, 1, 4) (by decide)) ?_
  refine kw_iload_n dX6_whose_4 rfl ?_
  refine kv_callV1 (M2 := M_X2_hasBough) (As := [kI (b)]) dX6_whose_5 ml_X6_97 q_X2_hasBough rfl rfl rfl (Nat.le_of_ble_eq_true rfl) (c_hasBough hg) (by omega) ?_
  refine kv_ifeqB (tgt := 21) dX6_whose_8 (by decide) (fun h1 => ?_) (fun h1 => ?_)
  · refine kw_iconst dX6_whose_21 ⟨by decide, by decide⟩ ?_
    exact kv_ri dX6_whose_22 rfl (Eq.symm (by unfold sWhose; rw [if_neg (by omega)])) rfl
  · refine kw_iload_n dX6_whose_11 rfl ?_
    refine kw_iconst dX6_whose_12 ⟨by decide, by decide⟩ ?_
    refine kw_bipush dX6_whose_13 (by decide) (by decide) ?_
    refine kv_callS1 (M2 := M_X6_isWithin) (As := [kI (d), kI (0), kI (99)]) dX6_whose_15 ml_X6_72 q_X6_isWithin rfl (Nat.le_of_ble_eq_true rfl) (c_isWithin) (by omega) ?_
    refine kv_ifneB (tgt := 23) dX6_whose_18 (by decide) (fun h2 => ?_) (fun h2 => ?_)
    · refine kw_iconst dX6_whose_23 ⟨by decide, by decide⟩ ?_
      refine kw_istore_n dX6_whose_24 (by decide) trivial (L2 := [some (kA (0)), some (kI (b)), some (kI (d)), some (kI (0)), none]) rfl ?_
      refine kw_iconst dX6_whose_25 ⟨by decide, by decide⟩ ?_
      refine kw_istore dX6_whose_26 (by decide) trivial (L2 := [some (kA (0)), some (kI (b)), some (kI (d)), some (kI (0)), some (kI (0))]) rfl ?_
      unfold sWhose
      rw [if_pos (by omega)]
      exact l_whose hg hT hS hR hI hD h28 (by omega) (by omega) _ 0 ⟨by omega, by omega⟩ (Nat.lt_succ_self _)
    · refine kw_iconst dX6_whose_21 ⟨by decide, by decide⟩ ?_
      exact kv_ri dX6_whose_22 rfl (Eq.symm (by unfold sWhose; rw [if_neg (by omega)])) rfl
