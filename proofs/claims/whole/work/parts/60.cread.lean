/-! the class: Forest.read, lay -/
theorem l_read {E : kEnv} {w : List (Nat × Nat)} {g : Nat → Int → Option Nat} {tx : Int → Int} {n : Int} {T2 s2 : Int → Int} {f0 : Nat → Int → Int} (hg : kG g) : ∀ (F : Nat) (p : Int) (T s : Int → Int) (k : Int) (o : Option kV) (f : Nat → Int → Int), (0 ≤ k ∧ k ≤ p) → (n - p < F) → mTp T → mSp T s → kTx tx n f → RS T s f → kEo f0 f → rA tx n F p T s = (-4, T2, s2) → kW E 3 0 0 M_X2_read 36 [some (kA 4), some (kA 1), some (kA 10), some (kI p), some (kI k), o] [] ((kMC ++ w), f, g) (fun r h' => r = none ∧ ∃ f2, h' = ((kMC ++ w), f2, g) ∧ (RS T2 s2 f2 ∧ kEo f0 f2)) := by
  intro F
  induction F with
  | zero =>
    intro p T s k o f y0 y1 hT hS hx hR hE z1
    have hn := hx.1
    obtain ⟨-, z2⟩ := Prod.mk.inj z1
    obtain ⟨rfl, rfl⟩ := Prod.mk.inj z2
    refine kw_iload dX2_read_36 rfl ?_
    refine kw_sipush dX2_read_38 (by decide) (by decide) ?_
    refine kw_icmp_ge (tgt := 83) dX2_read_41 (by decide) (fun h1 => ?_) (fun h1 => ?_)
    · exact kv_rvE dX2_read_83 rfl ⟨hR, hE⟩
    · refine kw_iload_n dX2_read_44 rfl ?_
      refine kw_if_lt (tgt := 83) dX2_read_45 (by decide) (kt := fun h2 => absurd h2 (by omega)) (kf := fun h2 => ?_)
      refine kw_iload_n dX2_read_48 rfl ?_
      refine kw_aload_n dX2_read_49 rfl ?_
      refine kv_getI (kz := 2) dX2_read_50 kf_X2_50 rfl rfl rfl rfl ?_
      refine kw_icmp_ge (tgt := 83) dX2_read_53 (by decide) (kf := fun h3 => absurd h3 (by omega)) (kt := fun h3 => ?_)
      exact kv_rvE dX2_read_83 rfl ⟨hR, hE⟩
  | succ F ih =>
    intro p T s k o f y0 y1 hT hS hx hR hE z1
    have hn := hx.1
    have t0 := hT.1
    have t1 := hT.2.1
    refine kw_iload dX2_read_36 rfl ?_
    refine kw_sipush dX2_read_38 (by decide) (by decide) ?_
    refine kw_icmp_ge (tgt := 83) dX2_read_41 (by decide) (fun h1 => ?_) (fun h1 => ?_)
    · rw [rA_end (by omega)] at z1
      obtain ⟨-, z2⟩ := Prod.mk.inj z1
      obtain ⟨rfl, rfl⟩ := Prod.mk.inj z2
      exact kv_rvE dX2_read_83 rfl ⟨hR, hE⟩
    · refine kw_iload_n dX2_read_44 rfl ?_
      refine kw_if_lt (tgt := 83) dX2_read_45 (by decide) (kt := fun h2 => absurd h2 (by omega)) (kf := fun h2 => ?_)
      refine kw_iload_n dX2_read_48 rfl ?_
      refine kw_aload_n dX2_read_49 rfl ?_
      refine kv_getI (kz := 2) dX2_read_50 kf_X2_50 rfl rfl rfl rfl ?_
      refine kw_icmp_ge (tgt := 83) dX2_read_53 (by decide) (fun h3 => ?_) (fun h3 => ?_)
      · rw [rA_end (by omega)] at z1
        obtain ⟨-, z2⟩ := Prod.mk.inj z1
        obtain ⟨rfl, rfl⟩ := Prod.mk.inj z2
        exact kv_rvE dX2_read_83 rfl ⟨hR, hE⟩
      · have lp : xL tx n p = tx p := if_pos (by omega)
        have yp : yL tx n p = tx p := if_pos (by omega)
        have nx := xN_gt (tx := tx) (n := n) (p := p)
        have hG : xG tx n p T = true := by
          cases q : xG tx n p T
          · rw [rA_no (by omega) q] at z1
            have := congrArg Prod.fst z1
            simp only at this
            omega
          · rfl
        obtain ⟨a1, a2, a3⟩ := xG_i.mp hG
        have xr : xR tx n p = xN tx n p := if_pos a1
        rw [lp] at a2 a3
        refine kw_aload_n dX2_read_56 rfl ?_
        refine kw_iload_n dX2_read_57 rfl ?_
        refine kv_callV1E (M2 := M_X5_readItem) (As := [kI (p)]) dX2_read_58 ml_X2_53 q_X5_readItem rfl rfl rfl (Nat.le_of_ble_eq_true rfl) (c_readItem hg hx (by omega)) (by omega) (fun f9 h9 => ?_)
        have hx9 := kTx_3 hx h9.1
        have e45 : f9 4 5 = T 0 := (congrFun (h9.1 4 (by decide)) 5).trans hR.1.1
        have e46 : f9 4 6 = T 1 := (congrFun (h9.1 4 (by decide)) 6).trans hR.1.2.1
        rw [xr]
        refine kw_istore dX2_read_61 (by decide) trivial (L2 := [some (kA (4)), some (kA (1)), some (kA (10)), some (kI (p)), some (kI (k)), some (kI (xN tx n p))]) rfl ?_
        refine kw_aload_n dX2_read_63 rfl ?_
        refine kw_aload_n dX2_read_64 rfl ?_
        refine kw_iload_n dX2_read_65 rfl ?_
        refine kv_callV1 (M2 := M_X5_letter) (As := [kI (p)]) dX2_read_66 ml_X2_57 q_X5_letter rfl rfl rfl (Nat.le_of_ble_eq_true rfl) (c_letX hg hx9 (by omega)) (by omega) ?_
        rw [yp]
        refine kw_aload_n dX2_read_69 rfl ?_
        refine kw_aload_n dX2_read_70 rfl ?_
        refine kv_callV0 (M2 := M_X2_put) (As := [kI (tx p), kA (1), kA (10)]) dX2_read_71 ml_X2_61 q_X2_put rfl rfl rfl (Nat.le_of_ble_eq_true rfl) (c_put hg (by omega) (by omega)) (by omega) ?_
        refine kw_iload dX2_read_74 rfl ?_
        refine kw_istore_n dX2_read_76 (by decide) trivial (L2 := [some (kA (4)), some (kA (1)), some (kA (10)), some (kI (xN tx n p)), some (kI (k)), some (kI (xN tx n p))]) rfl ?_
        refine kw_iinc dX2_read_77 (by decide) rfl ⟨by omega, by omega⟩ trivial (L2 := [some (kA (4)), some (kA (1)), some (kA (10)), some (kI (xN tx n p)), some (kI (k + 1)), some (kI (xN tx n p))]) rfl ?_
        refine kw_goto (tgt := 36) dX2_read_80 (by decide) ?_
        rw [rA_go (by omega) hG] at z1
        have hz := mTp_go (s := s) hT hS hG
        exact ih _ _ _ _ _ _ ⟨by omega, by omega⟩ (by omega) hz.1 hz.2 (kTx_o hx9 kEo_p) (RS_go hT (RS_3 hR h9.1) (h9.2 a1) lp hG) (kEo_tr hE (kEo_tr (kEo_3 h9.1) kEo_p)) z1
theorem c_read {E : kEnv} {w : List (Nat × Nat)} {f : Nat → Int → Int} {g : Nat → Int → Option Nat} {tx : Int → Int} {n : Int} {T s T2 s2 : Int → Int} {F : Nat} (hg : kG g) (hx : kTx tx n f) (hF : n < F) (hT : mTp T) (hS : mSp T s) (h0 : T 0 = 0) (h1 : T 1 = 0) (h2 : T 2 = 20) (h3 : T 3 = 3) (h4 : T 4 = 10) (hz : rA tx n F 0 T s = (-4, T2, s2)) : kFE E 3 M_X2_read [kA 4, kA 1, kA 10] ((kMC ++ w), f, g) none ((kMC ++ w)) (fun f2 => RS T2 s2 f2 ∧ kEo f f2) g := by
  refine kFE_of (by decide) (by simp [k_one]) (Nat.le_of_ble_eq_true rfl) (L := [some (kA 4), some (kA 1), some (kA 10), none, none, none]) rfl ?_
  have hn := hx.1
  have hq : kEo f (kClr (k_u (k_u (k_u (k_u (k_u f 4 5 0) 4 6 0) 4 7 20) 4 8 3) 4 9 10) 10 20) := fun b hb => by
    have hb2 : b ≠ 4 ∧ b ≠ 10 ∧ b ≠ 11 := by omega
    funext j
    simp [kClr, k_u, hb2]
  refine kw_aload_n dX2_read_0 rfl ?_
  refine kw_iconst dX2_read_1 ⟨by decide, by decide⟩ ?_
  refine kv_putI (kz := 5) dX2_read_2 kp_X2_27 rfl rfl (fun h => by cases h) rfl ?_
  refine kw_aload_n dX2_read_5 rfl ?_
  refine kw_iconst dX2_read_6 ⟨by decide, by decide⟩ ?_
  refine kv_putI (kz := 6) dX2_read_7 kp_X2_31 rfl rfl (fun h => by cases h) rfl ?_
  refine kw_aload_n dX2_read_10 rfl ?_
  refine kw_bipush dX2_read_11 (by decide) (by decide) ?_
  refine kv_putI (kz := 7) dX2_read_13 kp_X2_34 rfl rfl (fun h => by cases h) rfl ?_
  refine kw_aload_n dX2_read_16 rfl ?_
  refine kw_iconst dX2_read_17 ⟨by decide, by decide⟩ ?_
  refine kv_putI (kz := 8) dX2_read_18 kp_X2_37 rfl rfl (fun h => by cases h) rfl ?_
  refine kw_aload_n dX2_read_21 rfl ?_
  refine kw_bipush dX2_read_22 (by decide) (by decide) ?_
  refine kv_putI (kz := 9) dX2_read_24 kp_X2_40 rfl rfl (fun h => by cases h) rfl ?_
  refine kw_aload_n dX2_read_27 rfl ?_
  refine kv_callV0 (M2 := M_X4_clear) (As := []) dX2_read_28 ml_X2_43 q_X4_clear rfl rfl rfl (Nat.le_of_ble_eq_true rfl) (c_clear (by unfold kSA; omega) hg) (by omega) ?_
  refine kw_iconst dX2_read_31 ⟨by decide, by decide⟩ ?_
  refine kw_istore_n dX2_read_32 (by decide) trivial (L2 := [some (kA (4)), some (kA (1)), some (kA (10)), some (kI (0)), none, none]) rfl ?_
  refine kw_iconst dX2_read_33 ⟨by decide, by decide⟩ ?_
  refine kw_istore dX2_read_34 (by decide) trivial (L2 := [some (kA (4)), some (kA (1)), some (kA (10)), some (kI (0)), some (kI (0)), none]) rfl ?_
  refine l_read (f0 := f) hg F 0 T s 0 none _ ⟨by omega, by omega⟩ (by omega) hT hS (kTx_o hx hq) ?_ hq hz
  refine ⟨⟨?_, ?_, ?_, ?_, ?_, fun b e0 e1 => by omega, fun i e0 e1 => by omega⟩, ?_, ?_, fun b e0 e1 => by omega, fun i e0 e1 => ⟨?_, ?_⟩, fun i e0 e1 => by omega⟩
  · rw [h0]; simp [kClr, k_u]
  · rw [h1]; simp [kClr, k_u]
  · rw [h2]; simp [kClr, k_u]
  · rw [h3]; simp [kClr, k_u]
  · rw [h4]; simp [kClr, k_u]
  · exact if_pos ⟨rfl, Or.inl rfl⟩
  · exact if_pos ⟨rfl, Or.inr rfl⟩
  · exact (if_neg (fun z => absurd z.1 (by decide))).trans (if_pos ⟨rfl, by omega, by omega⟩)
  · exact (if_neg (fun z => absurd z.1 (by decide))).trans (if_pos ⟨rfl, by omega, by omega⟩)
/-- what lay leaves behind in the class -/
def kLd (T2 s2 : Int → Int) (ok : Bool) (f f2 : Nat → Int → Int) : Prop := (ok = true → RS T2 s2 f2 ∧ f2 12 1 = 0 ∧ f2 30 1 = 0 ∧ ∀ b : Nat, b < 3 ∨ 11 < b → b ≠ 12 → b ≠ 30 → f2 b = f b) ∧ (¬ ok = true → k3 f f2)
theorem c_lay {E : kEnv} {w : List (Nat × Nat)} {f : Nat → Int → Int} {g : Nat → Int → Option Nat} {tx : Int → Int} {n : Int} {T s : Int → Int} {F : Nat} (hg : kG g) (hx : kTx tx n f) (hF : n < F) (hT : mTp T) (hS : mSp T s) (j0 : T 0 = 0) (j1 : T 1 = 0) (j2 : T 2 = 20) (j3 : T 3 = 3) (j4 : T 4 = 10) : kFE E 5 M_X6_lay [kA (0)] ((kMC ++ w), f, g) (some (kI (if oLd tx n F T s = true then (rA tx n F 0 T s).2.1 0 else -2))) (kMC ++ w) (kLd (rA tx n F 0 T s).2.1 (rA tx n F 0 T s).2.2 (oLd tx n F T s) f) g := by
  refine kFE_of (by decide) (by simp [k_one]) (Nat.le_of_ble_eq_true rfl) (L := [some (kA (0))]) rfl ?_
  refine kw_aload_n dX6_lay_0 rfl ?_
  refine kv_getR (b := 1) dX6_lay_1 kf_X6_10 rfl rfl rfl (hg (0, 0, 1) (by decide)) ?_
  refine kv_callV1E (M2 := M_X5_canBeLaid) (As := []) dX6_lay_4 ml_X6_88 q_X5_canBeLaid rfl rfl rfl (Nat.le_of_ble_eq_true rfl) (c_canLay hg hx hF hT hS j0 j1) (by omega) (fun f8 h8 => ?_)
  have hx8 := kTx_3 hx h8
  refine kv_ifneB (tgt := 13) dX6_lay_7 (by decide) (fun h1 => ?_) (fun h1 => ?_)
  · have ho : oLd tx n F T s = true := by assumption
    refine kw_aload_n dX6_lay_13 rfl ?_
    refine kv_getR (b := 4) dX6_lay_14 kf_X6_19 rfl rfl rfl (hg (0, 1, 4) (by decide)) ?_
    refine kw_aload_n dX6_lay_17 rfl ?_
    refine kv_getR (b := 1) dX6_lay_18 kf_X6_10 rfl rfl rfl (hg (0, 0, 1) (by decide)) ?_
    refine kw_aload_n dX6_lay_21 rfl ?_
    refine kv_getR (b := 10) dX6_lay_22 kf_X6_26 rfl rfl rfl (hg (0, 2, 10) (by decide)) ?_
    refine kv_callV0E (M2 := M_X2_read) (As := [kA (1), kA (10)]) dX6_lay_25 ml_X6_64 q_X2_read rfl rfl rfl (Nat.le_of_ble_eq_true rfl) (c_read hg hx8 hF hT hS j0 j1 j2 j3 j4 (show rA tx n F 0 T s = (-4, (rA tx n F 0 T s).2.1, (rA tx n F 0 T s).2.2) by rw [← (oLd_i.mp ho).1])) (by omega) (fun f9 h9 => ?_)
    have e45 : f9 4 5 = (rA tx n F 0 T s).2.1 0 := h9.1.1.1
    refine kw_aload_n dX6_lay_28 rfl ?_
    refine kv_getR (b := 12) dX6_lay_29 kf_X6_35 rfl rfl rfl (hg (0, 3, 12) (by decide)) ?_
    refine kv_callV0 (M2 := M_X3_clear) (As := []) dX6_lay_32 ml_X6_91 q_X3_clear rfl rfl rfl (Nat.le_of_ble_eq_true rfl) (c_clear_past hg) (by omega) ?_
    refine kw_aload_n dX6_lay_35 rfl ?_
    refine kv_getR (b := 30) dX6_lay_36 kf_X6_39 rfl rfl rfl (hg (0, 4, 30) (by decide)) ?_
    refine kv_callV0 (M2 := M_X3_clear) (As := []) dX6_lay_39 ml_X6_91 q_X3_clear rfl rfl rfl (Nat.le_of_ble_eq_true rfl) (c_clear_kept hg) (by omega) ?_
    refine kw_aload_n dX6_lay_42 rfl ?_
    refine kv_getR (b := 4) dX6_lay_43 kf_X6_19 rfl rfl rfl (hg (0, 1, 4) (by decide)) ?_
    refine kv_getI (kz := 5) dX6_lay_46 kf_X6_94 rfl rfl rfl ((k_u_ne2 (by decide)).trans (k_u_ne2 (by decide))) ?_
    have c1 : ∀ a : Nat, a ≠ 12 → a ≠ 30 → k_u (k_u f9 12 1 0) 30 1 0 a = f9 a := fun a u1 u2 => by funext j; rw [k_u_ne u2, k_u_ne u1]
    refine kv_riE dX6_lay_49 rfl ((by rw [if_pos ho]; exact e45)) ⟨fun _ => ⟨?_, (k_u_ne (by decide)).trans k_u_self, k_u_self, fun b b1 b2 b3 => ?_⟩, fun z => absurd ho z⟩
    · unfold RS RF
      rw [c1 4 (by decide) (by decide), c1 5 (by decide) (by decide), c1 6 (by decide) (by decide), c1 7 (by decide) (by decide), c1 8 (by decide) (by decide), c1 9 (by decide) (by decide), c1 10 (by decide) (by decide), c1 11 (by decide) (by decide)]
      exact h9.1
    · rw [c1 b b2 b3, h9.2 b b1, h8 b (by omega)]
  · refine kw_bipush dX6_lay_10 (by decide) (by decide) ?_
    exact kv_riE dX6_lay_12 rfl (if_neg (by assumption)).symm ⟨fun z => absurd z (by assumption), fun _ => h8⟩
