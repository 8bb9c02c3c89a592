/-! the model: fault, lay -/
theorem l_mall {E : kEnv} {s : Int → Int} {g : Nat → Int → Option Nat} {tx : Int → Int} {n : Int} {x : Int} {T2 s2 : Int → Int} {f0 : Nat → Int → Int} (hm : kGM g) : ∀ (F : Nat) (p : Int) (f : Nat → Int → Int) (o : Option kV), (0 ≤ p) → (n - p < F) → mTp (f 48) → mSp (f 48) (f 49) → kTm tx n f → f 45 10 = p → mKq f0 f → rA tx n F p (f 48) (f 49) = (x, T2, s2) → kW E 4 0 0 M_X7_readsAll 9 [some (kA 45), o] [] ((kMC ++ kMM), kst f 50 s, g) (fun r h' => r = some (kI x) ∧ ∃ F2, h' = ((kMC ++ kMM), F2, g) ∧ ∃ f2, F2 = kst f2 50 s ∧ mKq f0 f2 ∧ (x = -4 → f2 48 = T2 ∧ f2 49 = s2)) := by
  intro F
  induction F with
  | zero =>
    intro p f o y0 y1 hT hS hx h10 hE z1
    have hn := hx.1
    obtain ⟨rfl, z2⟩ := Prod.mk.inj z1
    obtain ⟨rfl, rfl⟩ := Prod.mk.inj z2
    refine kw_aload_n dX7_readsAll_9 rfl ?_
    refine kv_getI (kz := 10) dX7_readsAll_10 kf_X7_62 rfl rfl rfl (congrFun (kst_ne (by decide)) _) ?_
    refine kw_aload_n dX7_readsAll_13 rfl ?_
    refine kv_getI (kz := 1) dX7_readsAll_14 kf_X7_58 rfl rfl rfl (congrFun (kst_ne (by decide)) _) ?_
    refine kw_icmp_ge (tgt := 53) dX7_readsAll_17 (by decide) (kf := fun h1 => absurd h1 (by omega)) (kt := fun h1 => ?_)
    refine kw_bipush dX7_readsAll_53 (by decide) (by decide) ?_
    exact kw_iret dX7_readsAll_55 rfl rfl ⟨rfl, _, rfl, f, rfl, hE, fun _ => ⟨rfl, rfl⟩⟩
  | succ F ih =>
    intro p f o y0 y1 hT hS hx h10 hE z1
    have hn := hx.1
    refine kw_aload_n dX7_readsAll_9 rfl ?_
    refine kv_getI (kz := 10) dX7_readsAll_10 kf_X7_62 rfl rfl rfl (congrFun (kst_ne (by decide)) _) ?_
    refine kw_aload_n dX7_readsAll_13 rfl ?_
    refine kv_getI (kz := 1) dX7_readsAll_14 kf_X7_58 rfl rfl rfl (congrFun (kst_ne (by decide)) _) ?_
    refine kw_icmp_ge (tgt := 53) dX7_readsAll_17 (by decide) (fun h1 => ?_) (fun h1 => ?_)
    · refine kw_bipush dX7_readsAll_53 (by decide) (by decide) ?_
      rw [rA_end (by omega)] at z1
      obtain ⟨rfl, z2⟩ := Prod.mk.inj z1
      obtain ⟨rfl, rfl⟩ := Prod.mk.inj z2
      exact kw_iret dX7_readsAll_55 rfl rfl ⟨rfl, _, rfl, f, rfl, hE, fun _ => ⟨rfl, rfl⟩⟩
    · refine kw_aload_n dX7_readsAll_20 rfl ?_
      refine kv_getI (kz := 10) dX7_readsAll_21 kf_X7_62 rfl rfl rfl (congrFun (kst_ne (by decide)) _) ?_
      rw [h10]
      refine kw_istore_n dX7_readsAll_24 (by decide) trivial (L2 := [some (kA (45)), some (kI (p))]) rfl ?_
      refine kw_aload_n dX7_readsAll_25 rfl ?_
      refine kw_dup dX7_readsAll_26 trivial ?_
      refine kv_getI (kz := 10) dX7_readsAll_27 kf_X7_62 rfl rfl rfl (congrFun (kst_ne (by decide)) _) ?_
      refine kw_iconst dX7_readsAll_30 ⟨by decide, by decide⟩ ?_
      refine kw_iadd dX7_readsAll_31 ⟨by omega, by omega⟩ ?_
      refine kv_putI (kz := 10) dX7_readsAll_32 kp_X7_62 rfl rfl (fun h => by cases h) rfl ?_
      rw [kst_uc (by decide)]
      refine kw_aload_n dX7_readsAll_35 rfl ?_
      refine kw_aload_n dX7_readsAll_36 rfl ?_
      refine kv_getR (b := 46) dX7_readsAll_37 kf_X7_7 rfl rfl rfl (hm (45, 0, 46) (by decide)) ?_
      refine kw_iload_n dX7_readsAll_40 rfl ?_
      refine kv_iald dX7_readsAll_41 rfl (by omega) (by omega) (v := tx p) ?_ ?_
      · rw [kst_ne (by decide), k_u_off (by decide)]; exact hx.2 p y0 (by omega)
      refine kv_callV1E (M2 := M_X7_readsItem) (As := [kI (tx p)]) dX7_readsAll_42 ml_X7_77 q_X7_readsItem rfl rfl rfl (Nat.le_of_ble_eq_true rfl) (c_mitem hm (kTm_u hx) ⟨by omega, by omega⟩ (by rw [k_u_self, h10]) (by rw [k_u_off (by decide)]; exact hT)) (by omega) (fun f8 h8 => ?_)
      obtain ⟨f9, rfl, h9, h7⟩ := h8
      rw [k_u_off (by decide), k_u_off (by decide)] at h7
      rw [k_u_off (a := 45) (b := 48) (by decide)]
      refine kv_ifneB (tgt := 50) dX7_readsAll_45 (by decide) (fun h2 => ?_) (fun h2 => ?_)
      · refine kw_goto (tgt := 9) dX7_readsAll_50 (by decide) ?_
        obtain ⟨a1, a2, a3⟩ := h7 (by assumption)
        have hz := mTp_go (s := f 49) hT hS (show xG tx n p (f 48) = true by assumption)
        have nx := xN_gt (tx := tx) (n := n) (p := p)
        rw [rA_go (by omega) (by assumption)] at z1
        have hq := mKq_tr (mKq_a mKq_rf) h9
        exact ih _ _ _ (by omega) (by omega) (by rw [a1]; exact hz.1) (by rw [a1, a2]; exact hz.2) (kTm_q hx hq) a3 (mKq_tr hE hq) (by rw [a1, a2]; exact z1)
      · refine kw_iload_n dX7_readsAll_48 rfl ?_
        rw [rA_no (by omega) (by cases q : xG tx n p (f 48) <;> first | rfl | (exfalso; contradiction))] at z1
        obtain ⟨rfl, z2⟩ := Prod.mk.inj z1
        exact kw_iret dX7_readsAll_49 rfl rfl ⟨rfl, _, rfl, f9, rfl, mKq_tr hE (mKq_tr (mKq_a mKq_rf) h9), fun q => absurd q (by omega)⟩
theorem c_mall {E : kEnv} {f : Nat → Int → Int} {s : Int → Int} {g : Nat → Int → Option Nat} {tx : Int → Int} {n : Int} {F : Nat} (hm : kGM g) (hx : kTm tx n f) (hF : n < F) : kFE E 4 M_X7_readsAll [kA 45] ((kMC ++ kMM), kst f 50 s, g) (some (kI (rA tx n F 0 (bgT (f 48)) (bgS (f 49))).1)) (kMC ++ kMM) (fun F2 => ∃ f2, F2 = kst f2 50 s ∧ mKq f f2 ∧ ((rA tx n F 0 (bgT (f 48)) (bgS (f 49))).1 = -4 → f2 48 = (rA tx n F 0 (bgT (f 48)) (bgS (f 49))).2.1 ∧ f2 49 = (rA tx n F 0 (bgT (f 48)) (bgS (f 49))).2.2)) g := by
  refine kFE_of (by decide) (by simp [k_one]) (Nat.le_of_ble_eq_true rfl) (L := [some (kA 45), none]) rfl ?_
  refine kw_aload_n dX7_readsAll_0 rfl ?_
  refine kv_callV0 (M2 := M_X7_begins) (As := []) dX7_readsAll_1 ml_X7_40 q_X7_begins rfl rfl rfl (Nat.le_of_ble_eq_true rfl) (c_mbegins hm) (by omega) ?_
  refine kw_aload_n dX7_readsAll_4 rfl ?_
  refine kw_iconst dX7_readsAll_5 ⟨by decide, by decide⟩ ?_
  refine kv_putI (kz := 10) dX7_readsAll_6 kp_X7_62 rfl rfl (fun h => by cases h) rfl ?_
  rw [kst_uc (by decide)]
  have b1 : (k_u (kBg f) 45 10 0) 48 = bgT (f 48) := (k_u_off (by decide)).trans kBg_48
  have b2 : (k_u (kBg f) 45 10 0) 49 = bgS (f 49) := (k_u_off (by decide)).trans kBg_49
  have hq : mKq f (k_u (kBg f) 45 10 0) := mKq_a ⟨fun a _ u v => kBg_o ⟨u, v⟩, fun j _ => congrFun (kBg_o (by decide)) j⟩
  exact l_mall hm F 0 _ none (by omega) (by omega) (by rw [b1]; exact bgT_p) (by rw [b1, b2]; exact bgS_p) (kTm_q hx hq) k_u_self hq (by rw [b1, b2])
theorem c_mfault {E : kEnv} {f : Nat → Int → Int} {s : Int → Int} {g : Nat → Int → Option Nat} {tx : Int → Int} {n : Int} {F : Nat} (hm : kGM g) (hx : kTm tx n f) (hF : n < F) : kFE E 5 M_X7_fault [kA 45] ((kMC ++ kMM), kst f 50 s, g) (some (kI (rA tx n F 0 (bgT (f 48)) (bgS (f 49))).1)) (kMC ++ kMM) (fun F2 => ∃ f2, F2 = kst f2 50 s ∧ mKq f f2) g := by
  refine kFE_of (by decide) (by simp [k_one]) (Nat.le_of_ble_eq_true rfl) (L := [some (kA 45)]) rfl ?_
  refine kw_aload_n dX7_fault_0 rfl ?_
  refine kv_callV1E (M2 := M_X7_readsAll) (As := []) dX7_fault_1 ml_X7_80 q_X7_readsAll rfl rfl rfl (Nat.le_of_ble_eq_true rfl) (c_mall hm hx hF) (by omega) (fun f8 h8 => ?_)
  obtain ⟨f9, rfl, h9, h7⟩ := h8
  exact kw_iret dX7_fault_4 rfl rfl ⟨rfl, _, rfl, f9, rfl, h9⟩
/-- the first k of the row 48 put into the row 47 -/
def kCy (f : Nat → Int → Int) (k : Int) : Nat → Int → Int := fun b j => if b = 47 ∧ 0 ≤ j ∧ j < k then f 48 j else f b j
theorem kCy_0 {f : Nat → Int → Int} : kCy f 0 = f := by
  funext b j
  exact if_neg (by omega)
theorem kCy_o {f : Nat → Int → Int} {k : Int} {b : Nat} (h : b ≠ 47) : kCy f k b = f b := by
  funext j
  exact if_neg (fun z => h z.1)
theorem kCy_s {f : Nat → Int → Int} {k : Int} (h : 0 ≤ k) : k_u (kCy f k) 47 k (kCy f k 48 k) = kCy f (k + 1) := by
  rw [kCy_o (by decide)]
  funext b j
  unfold k_u kCy
  grind
theorem kCy_47 {f : Nat → Int → Int} {k : Int} : kCy f k 47 = kLt (f 48) (f 47) k := by
  funext j
  simp [kCy, kLt]
theorem l_ml1 {E : kEnv} {f : Nat → Int → Int} {s : Int → Int} {g : Nat → Int → Option Nat} {d : Nat} {Q : Option kV → kH → Prop} (hm : kGM g) (hx : kW E d 0 0 M_X7_lays 26 [some (kA 45), some (kI 37)] [] ((kMC ++ kMM), kst (kCy f 37) 50 s, g) Q) : ∀ (n : Nat) (k : Int), (0 ≤ k ∧ k ≤ 37) → (37 - k).toNat < n → kW E d 0 0 M_X7_lays 2 [some (kA 45), some (kI k)] [] ((kMC ++ kMM), kst (kCy f k) 50 s, g) Q := by
  intro n
  induction n with
  | zero => intro k _ q; omega
  | succ n ih =>
    intro k y0 y1
    refine kw_iload_n dX7_lays_2 rfl ?_
    refine kw_bipush dX7_lays_3 (by decide) (by decide) ?_
    refine kw_icmp_ge (tgt := 26) dX7_lays_5 (by decide) (fun h1 => ?_) (fun h1 => ?_)
    · have e1 : k = 37 := by omega
      subst e1
      exact hx
    · refine kw_aload_n dX7_lays_8 rfl ?_
      refine kv_getR (b := 47) dX7_lays_9 kf_X7_13 rfl rfl rfl (hm (45, 2, 47) (by decide)) ?_
      refine kw_iload_n dX7_lays_12 rfl ?_
      refine kw_aload_n dX7_lays_13 rfl ?_
      refine kv_getR (b := 48) dX7_lays_14 kf_X7_16 rfl rfl rfl (hm (45, 3, 48) (by decide)) ?_
      refine kw_iload_n dX7_lays_17 rfl ?_
      refine kv_iald dX7_lays_18 rfl (by omega) (by omega) (congrFun (kst_ne (by decide)) _) ?_
      refine kv_iast dX7_lays_19 rfl (by omega) (by omega) ?_
      rw [kst_uc (by decide)]
      refine kw_iinc dX7_lays_20 (by decide) rfl ⟨by omega, by omega⟩ trivial (L2 := [some (kA (45)), some (kI (k + 1))]) rfl ?_
      refine kw_goto (tgt := 2) dX7_lays_23 (by decide) ?_
      rw [kCy_s y0.1]
      exact ih (k + 1) ⟨by omega, by omega⟩ (by omega)
theorem l_ml2 {E : kEnv} {f : Nat → Int → Int} {s : Int → Int} {g : Nat → Int → Option Nat} {d : Nat} {Q : Option kV → kH → Prop} (hm : kGM g) (hx : kW E d 0 0 M_X7_lays 52 [some (kA 45), some (kI 29)] [] ((kMC ++ kMM), kst f 50 (kLt (f 49) s 29), g) Q) : ∀ (n : Nat) (k : Int), (0 ≤ k ∧ k ≤ 29) → (29 - k).toNat < n → kW E d 0 0 M_X7_lays 28 [some (kA 45), some (kI k)] [] ((kMC ++ kMM), kst f 50 (kLt (f 49) s k), g) Q := by
  intro n
  induction n with
  | zero => intro k _ q; omega
  | succ n ih =>
    intro k y0 y1
    refine kw_iload_n dX7_lays_28 rfl ?_
    refine kw_bipush dX7_lays_29 (by decide) (by decide) ?_
    refine kw_icmp_ge (tgt := 52) dX7_lays_31 (by decide) (fun h1 => ?_) (fun h1 => ?_)
    · have e1 : k = 29 := by omega
      subst e1
      exact hx
    · refine kw_aload_n dX7_lays_34 rfl ?_
      refine kv_getR (b := 50) dX7_lays_35 kf_X7_22 rfl rfl rfl (hm (45, 5, 50) (by decide)) ?_
      refine kw_iload_n dX7_lays_38 rfl ?_
      refine kw_aload_n dX7_lays_39 rfl ?_
      refine kv_getR (b := 49) dX7_lays_40 kf_X7_19 rfl rfl rfl (hm (45, 4, 49) (by decide)) ?_
      refine kw_iload_n dX7_lays_43 rfl ?_
      refine kv_iald dX7_lays_44 rfl (by omega) (by omega) (congrFun (kst_ne (by decide)) _) ?_
      refine kv_iast dX7_lays_45 rfl (by omega) (by omega) ?_
      rw [kst_u]
      refine kw_iinc dX7_lays_46 (by decide) rfl ⟨by omega, by omega⟩ trivial (L2 := [some (kA (45)), some (kI (k + 1))]) rfl ?_
      refine kw_goto (tgt := 28) dX7_lays_49 (by decide) ?_
      rw [kLt_s y0.1]
      exact ih (k + 1) ⟨by omega, by omega⟩ (by omega)
theorem c_mlays {E : kEnv} {f : Nat → Int → Int} {s : Int → Int} {g : Nat → Int → Option Nat}  (hm : kGM g)  : kF E 0 M_X7_lays [kA (45)] ((kMC ++ kMM), kst f 50 s, g) (none) ((kMC ++ kMM), kst (k_u (k_u (kCy f 37) 45 7 0) 45 9 0) 50 (kLt (f 49) s 29), g) := by
  refine kF_of (by decide) (by simp [k_one]) (Nat.le_of_ble_eq_true rfl) (L := [some (kA (45)), none]) rfl ?_
  refine kw_iconst dX7_lays_0 ⟨by decide, by decide⟩ ?_
  refine kw_istore_n dX7_lays_1 (by decide) trivial (L2 := [some (kA (45)), some (kI (0))]) rfl ?_
  have h := l_ml1 (E := E) (f := f) (s := s) (d := 0) hm (Q := (fun r h' => r = none ∧ h' = ((kMC ++ kMM), kst (k_u (k_u (kCy f 37) 45 7 0) 45 9 0) 50 (kLt (f 49) s 29), g))) ?_ _ 0 ⟨by omega, by omega⟩ (Nat.lt_succ_self _)
  · rw [kCy_0] at h
    exact h
  refine kw_iconst dX7_lays_26 ⟨by decide, by decide⟩ ?_
  refine kw_istore_n dX7_lays_27 (by decide) trivial (L2 := [some (kA (45)), some (kI (0))]) rfl ?_
  have h := l_ml2 (E := E) (f := kCy f 37) (s := s) (d := 0) hm (Q := (fun r h' => r = none ∧ h' = ((kMC ++ kMM), kst (k_u (k_u (kCy f 37) 45 7 0) 45 9 0) 50 (kLt (f 49) s 29), g))) ?_ _ 0 ⟨by omega, by omega⟩ (Nat.lt_succ_self _)
  · rw [kLt_0] at h
    exact h
  rw [show kCy f 37 49 = f 49 from kCy_o (by decide)]
  refine kw_aload_n dX7_lays_52 rfl ?_
  refine kw_iconst dX7_lays_53 ⟨by decide, by decide⟩ ?_
  refine kv_putI (kz := 7) dX7_lays_54 kp_X7_84 rfl rfl (fun h => by cases h) rfl ?_
  rw [kst_uc (by decide)]
  refine kw_aload_n dX7_lays_57 rfl ?_
  refine kw_iconst dX7_lays_58 ⟨by decide, by decide⟩ ?_
  refine kv_putI (kz := 9) dX7_lays_59 kp_X7_87 rfl rfl (fun h => by cases h) rfl ?_
  rw [kst_uc (by decide)]
  exact kv_rv dX7_lays_62 rfl rfl
def oLm (tx : Int → Int) (n : Int) (F : Nat) (T s : Int → Int) : Bool := decide ((rA tx n F 0 T s).1 = -4 ∧ 1 ≤ (rA tx n F 0 T s).2.1 0 ∧ 1 ≤ (rA tx n F 0 T s).2.1 1)
/-- what lay leaves behind in the model -/
def mLd (T2 s2 : Int → Int) (ok : Bool) (f : Nat → Int → Int) (s : Int → Int) (F2 : Nat → Int → Int) : Prop := (ok = true → ∃ f2, F2 = kst f2 50 (kLt s2 s 29) ∧ f2 47 = kLt T2 (f 47) 37 ∧ f2 45 7 = 0 ∧ f2 45 9 = 0 ∧ (∀ a : Nat, a ≠ 45 → a ≠ 47 → a ≠ 48 → a ≠ 49 → f2 a = f a) ∧ f2 45 1 = f 45 1) ∧ (¬ ok = true → ∃ f2, F2 = kst f2 50 s ∧ mKq f f2)
theorem c_mlay {E : kEnv} {f : Nat → Int → Int} {s : Int → Int} {g : Nat → Int → Option Nat} {tx : Int → Int} {n : Int} {F : Nat} (hm : kGM g) (hx : kTm tx n f) (hF : n < F) : kFE E 5 M_X7_lay [kA 45] ((kMC ++ kMM), kst f 50 s, g) (some (kI (if oLm tx n F (bgT (f 48)) (bgS (f 49)) = true then (rA tx n F 0 (bgT (f 48)) (bgS (f 49))).2.1 0 else -2))) (kMC ++ kMM) (mLd (rA tx n F 0 (bgT (f 48)) (bgS (f 49))).2.1 (rA tx n F 0 (bgT (f 48)) (bgS (f 49))).2.2 (oLm tx n F (bgT (f 48)) (bgS (f 49))) f s) g := by
  refine kFE_of (by decide) (by simp [k_one]) (Nat.le_of_ble_eq_true rfl) (L := [some (kA 45)]) rfl ?_
  refine kw_aload_n dX7_lay_0 rfl ?_
  refine kv_callV1E (M2 := M_X7_readsAll) (As := []) dX7_lay_1 ml_X7_80 q_X7_readsAll rfl rfl rfl (Nat.le_of_ble_eq_true rfl) (c_mall hm hx hF) (by omega) (fun f8 h8 => ?_)
  obtain ⟨f9, rfl, h9, h7⟩ := h8
  refine kw_bipush dX7_lay_4 (by decide) (by decide) ?_
  refine kw_icmp_ne (tgt := 27) dX7_lay_6 (by decide) (fun h1 => ?_) (fun h1 => ?_)
  · refine kw_bipush dX7_lay_27 (by decide) (by decide) ?_
    have ho : oLm tx n F (bgT (f 48)) (bgS (f 49)) = false := decide_eq_false (fun q => by first | (obtain ⟨y1, y2⟩ := h7 q.1; rw [← y1] at q; omega) | omega)
    exact kw_iret dX7_lay_29 rfl rfl ⟨by rw [ho]; rfl, _, rfl, fun q => by (rw [ho] at q; cases q), fun _ => ⟨f9, rfl, h9⟩⟩
  · refine kw_aload_n dX7_lay_9 rfl ?_
    refine kv_getR (b := 48) dX7_lay_10 kf_X7_16 rfl rfl rfl (hm (45, 3, 48) (by decide)) ?_
    refine kw_iconst dX7_lay_13 ⟨by decide, by decide⟩ ?_
    refine kv_iald dX7_lay_14 rfl (by omega) (by omega) (congrFun (kst_ne (by decide)) _) ?_
    refine kw_if_eq (tgt := 27) dX7_lay_15 (by decide) (fun h2 => ?_) (fun h2 => ?_)
    · refine kw_bipush dX7_lay_27 (by decide) (by decide) ?_
      have ho : oLm tx n F (bgT (f 48)) (bgS (f 49)) = false := decide_eq_false (fun q => by first | (obtain ⟨y1, y2⟩ := h7 q.1; rw [← y1] at q; omega) | omega)
      exact kw_iret dX7_lay_29 rfl rfl ⟨by rw [ho]; rfl, _, rfl, fun q => by (rw [ho] at q; cases q), fun _ => ⟨f9, rfl, h9⟩⟩
    · refine kw_aload_n dX7_lay_18 rfl ?_
      refine kv_getR (b := 48) dX7_lay_19 kf_X7_16 rfl rfl rfl (hm (45, 3, 48) (by decide)) ?_
      refine kw_iconst dX7_lay_22 ⟨by decide, by decide⟩ ?_
      refine kv_iald dX7_lay_23 rfl (by omega) (by omega) (congrFun (kst_ne (by decide)) _) ?_
      refine kw_if_ne (tgt := 30) dX7_lay_24 (by decide) (fun h3 => ?_) (fun h3 => ?_)
      · refine kw_aload_n dX7_lay_30 rfl ?_
        refine kv_callV0 (M2 := M_X7_lays) (As := []) dX7_lay_31 ml_X7_51 q_X7_lays rfl rfl rfl (Nat.le_of_ble_eq_true rfl) (c_mlays hm) (by omega) ?_
        refine kw_aload_n dX7_lay_34 rfl ?_
        refine kv_getR (b := 47) dX7_lay_35 kf_X7_13 rfl rfl rfl (hm (45, 2, 47) (by decide)) ?_
        refine kw_iconst dX7_lay_38 ⟨by decide, by decide⟩ ?_
        refine kv_iald dX7_lay_39 rfl (by decide) (by decide) rfl ?_
        obtain ⟨y1, y2⟩ := h7 (by omega)
        have t0 := (rA_ok (tx := tx) (n := n) F 0 (bgT (f 48)) (bgS (f 49)) bgT_p bgS_p).1
        have t1 := t0.1
        have t2 := t0.2.1
        have e48 := congrFun y1 0
        have e481 := congrFun y1 1
        have ho : oLm tx n F (bgT (f 48)) (bgS (f 49)) = true := decide_eq_true ⟨by omega, by omega, by omega⟩
        have k47 : kst (k_u (k_u (kCy f9 37) 45 7 0) 45 9 0) 50 (kLt (f9 49) s 29) 47 0 = (rA tx n F 0 (bgT (f 48)) (bgS (f 49))).2.1 0 := by
          rw [kst_ne (by decide), k_u_off (by decide), k_u_off (by decide), kCy_47, ← y1]
          exact if_pos (by omega)
        refine kw_iret dX7_lay_40 rfl rfl ⟨by rw [if_pos ho]; exact congrArg (fun z => some (kI z)) k47, _, rfl, fun _ => ⟨_, by rw [← y2], ?_, (k_u_ne2 (by decide)).trans k_u_self, k_u_self, fun a u1 u2 u3 u4 => ?_, ?_⟩, fun q => absurd ho q⟩
        · rw [k_u_off (by decide), k_u_off (by decide), kCy_47, y1, h9.1 47 (by decide) (by decide) (by decide)]
        · rw [k_u_off u1, k_u_off u1, kCy_o u2, h9.1 a u1 u3 u4]
        · rw [k_u_ne2 (by decide), k_u_ne2 (by decide), kCy_o (by decide)]; exact h9.2 1 (by decide)
      · refine kw_bipush dX7_lay_27 (by decide) (by decide) ?_
        have ho : oLm tx n F (bgT (f 48)) (bgS (f 49)) = false := decide_eq_false (fun q => by first | (obtain ⟨y1, y2⟩ := h7 q.1; rw [← y1] at q; omega) | omega)
        exact kw_iret dX7_lay_29 rfl rfl ⟨by rw [ho]; rfl, _, rfl, fun q => by (rw [ho] at q; cases q), fun _ => ⟨f9, rfl, h9⟩⟩
