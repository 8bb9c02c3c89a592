/-! the model: letters, numbers -/
/-- the model's text is tx, n letters of it -/
def kTm (tx : Int → Int) (n : Int) (f : Nat → Int → Int) : Prop := (f 45 1 = n ∧ 0 ≤ n ∧ n ≤ 200) ∧ ∀ j, 0 ≤ j → j < n → f 46 j = tx j
theorem kTm_eq {tx : Int → Int} {n : Int} {f f2 : Nat → Int → Int} (h : kTm tx n f) (h1 : f2 45 1 = f 45 1) (h2 : f2 46 = f 46) : kTm tx n f2 := by
  unfold kTm
  rw [h1, h2]
  exact h
theorem kTm_u {tx : Int → Int} {n v : Int} {f : Nat → Int → Int} (h : kTm tx n f) : kTm tx n (k_u f 45 10 v) := kTm_eq h (k_u_ne2 (by decide)) (by funext j; exact k_u_ne (by decide))
theorem k_u_u {f : Nat → Int → Int} {a : Nat} {i v z : Int} : k_u (k_u f a i v) a i z = k_u f a i z := by
  funext b j
  unfold k_u
  split <;> rfl
theorem k_u_same {f : Nat → Int → Int} {a : Nat} {i v : Int} (h : f a i = v) : k_u f a i v = f := by
  funext b j
  unfold k_u
  split
  · rename_i q; rw [q.1, q.2, h]
  · rfl
theorem k_u_row {f : Nat → Int → Int} {a : Nat} {i v : Int} : k_u f a i v a = upi (f a) i v := by
  funext j
  simp [k_u, upi]
theorem k_u_off {f : Nat → Int → Int} {a b : Nat} {i v : Int} (h : b ≠ a) : k_u f a i v b = f b := by
  funext j
  exact k_u_ne h
def xA (tx : Int → Int) (n p : Int) : Int := if xF tx n p = true then xE tx n p else p
theorem xV_m {tx : Int → Int} {n p : Int} (h : xF tx n p = true) : (xF tx n (p + 1) = true ∧ xK tx n p = 2 ∧ xV tx n p = 10 * (xL tx n p - 48) + xL tx n (p + 1) - 48) ∨ (xF tx n (p + 1) = false ∧ xK tx n p = 1 ∧ xV tx n p = xL tx n p - 48) := by
  unfold xK xV
  rw [if_pos h]
  by_cases q : xF tx n (p + 1) = true
  · rw [if_pos q, if_pos q]; exact Or.inl ⟨q, rfl, rfl⟩
  · rw [if_neg q, if_neg q]; exact Or.inr ⟨by simpa using q, rfl, rfl⟩
theorem xF_n {tx : Int → Int} {n p : Int} : xF tx n p = false ↔ ¬ (48 ≤ xL tx n p ∧ xL tx n p ≤ 57) := by simp [xF]
theorem c_mfig {E : kEnv} {h : kH} {c : Int} : kF E 1 M_X7_isFigure [kI c] h (some (kI (if 48 ≤ c ∧ c ≤ 57 then 1 else 0))) h := by
  refine kF_of (by decide) (by simp [k_one]) (Nat.le_of_ble_eq_true rfl) (L := [some (kI c)]) rfl ?_
  refine kw_iload_n dX7_isFigure_0 rfl ?_
  refine kw_bipush dX7_isFigure_1 (by decide) (by decide) ?_
  refine kw_bipush dX7_isFigure_3 (by decide) (by decide) ?_
  refine kv_callS1 (M2 := M_X7_in) (As := [kI (c), kI (48), kI (57)]) dX7_isFigure_5 ml_X7_54 q_X7_in rfl (Nat.le_of_ble_eq_true rfl) (c_min) (by omega) ?_
  exact kv_rb dX7_isFigure_8 rfl (by first | rfl | omega | (split <;> omega) | ((repeat' split) <;> omega) | grind) (by first | rfl | rw [if_pos (by omega)] | rw [if_neg (by omega)] | grind)
theorem c_mletter {E : kEnv} {f : Nat → Int → Int} {s : Int → Int} {g : Nat → Int → Option Nat} {tx : Int → Int} {n : Int} {p : Int} (hm : kGM g) (hx : kTm tx n f) (hp : 0 ≤ p) : kF E 0 M_X7_letterAt [kA (45), kI (p)] ((kMC ++ kMM), kst f 50 s, g) (some (kI (xL tx n p))) ((kMC ++ kMM), kst f 50 s, g) := by
  refine kF_of (by decide) (by simp [k_one]) (Nat.le_of_ble_eq_true rfl) (L := [some (kA (45)), some (kI (p))]) rfl ?_
  have hn := hx.1
  refine kw_iload_n dX7_letterAt_0 rfl ?_
  refine kw_aload_n dX7_letterAt_1 rfl ?_
  refine kv_getI (kz := 1) dX7_letterAt_2 kf_X7_58 rfl rfl rfl (congrFun (kst_ne (by decide)) _) ?_
  refine kw_icmp_ge (tgt := 17) dX7_letterAt_5 (by decide) (fun h1 => ?_) (fun h1 => ?_)
  · refine kw_iconst dX7_letterAt_17 ⟨by decide, by decide⟩ ?_
    exact kv_ri dX7_letterAt_18 rfl (by unfold xL; first | (rw [if_neg (by omega)]; done) | (rw [if_pos (by omega)]; exact hx.2 p hp (by omega))) rfl
  · refine kw_aload_n dX7_letterAt_8 rfl ?_
    refine kv_getR (b := 46) dX7_letterAt_9 kf_X7_7 rfl rfl rfl (hm (45, 0, 46) (by decide)) ?_
    refine kw_iload_n dX7_letterAt_12 rfl ?_
    refine kv_iald dX7_letterAt_13 rfl (by omega) (by omega) (congrFun (kst_ne (by decide)) _) ?_
    refine kw_goto (tgt := 18) dX7_letterAt_14 (by decide) ?_
    exact kv_ri dX7_letterAt_18 rfl (by unfold xL; first | (rw [if_neg (by omega)]; done) | (rw [if_pos (by omega)]; exact hx.2 p hp (by omega))) rfl
theorem l_mnum {E : kEnv} {f : Nat → Int → Int} {s : Int → Int} {g : Nat → Int → Option Nat} {tx : Int → Int} {n : Int} {lo hi e v q : Int} {o : Option kV} (hm : kGM g) (hx : kTm tx n f) (hq : 0 ≤ q ∧ q ≤ 1000) : kW E 2 0 0 M_X7_number 82 [some (kA (45)), some (kI (lo)), some (kI (hi)), some (kI (e)), some (kI (v)), o] [] ((kMC ++ kMM), kst (k_u f 45 10 q) 50 s, g) (fun r h' => r = some (kI (if xL tx n q = e ∧ lo ≤ v ∧ v ≤ hi then v else -1)) ∧ h' = ((kMC ++ kMM), kst (k_u f 45 10 (q + 1)) 50 s, g)) := by
  refine kw_aload_n dX7_number_82 rfl ?_
  refine kw_aload_n dX7_number_83 rfl ?_
  refine kv_getI (kz := 10) dX7_number_84 kf_X7_62 rfl rfl rfl ((congrFun (kst_ne (by decide)) _).trans (k_u_self)) ?_
  refine kv_callV1 (M2 := M_X7_letterAt) (As := [kI (q)]) dX7_number_87 ml_X7_65 q_X7_letterAt rfl rfl rfl (Nat.le_of_ble_eq_true rfl) (c_mletter hm (kTm_u hx) (by omega)) (by omega) ?_
  refine kw_iload_n dX7_number_90 rfl ?_
  refine kw_icmp_ne (tgt := 108) dX7_number_91 (by decide) (fun h1 => ?_) (fun h1 => ?_)
  · refine kw_iconst dX7_number_108 ⟨by decide, by decide⟩ ?_
    refine kw_istore dX7_number_109 (by decide) trivial (L2 := [some (kA (45)), some (kI (lo)), some (kI (hi)), some (kI (e)), some (kI (v)), some (kI (0))]) rfl ?_
    refine kw_aload_n dX7_number_111 rfl ?_
    refine kw_dup dX7_number_112 trivial ?_
    refine kv_getI (kz := 10) dX7_number_113 kf_X7_62 rfl rfl rfl ((congrFun (kst_ne (by decide)) _).trans (k_u_self)) ?_
    refine kw_iconst dX7_number_116 ⟨by decide, by decide⟩ ?_
    refine kw_iadd dX7_number_117 ⟨by omega, by omega⟩ ?_
    refine kv_putI (kz := 10) dX7_number_118 kp_X7_62 rfl rfl (fun h => by cases h) rfl ?_
    rw [kst_uc (by decide)]
    refine kw_iload dX7_number_121 rfl ?_
    refine kw_if_eq (tgt := 131) dX7_number_123 (by decide) (kf := fun h => absurd (by decide) h) (kt := fun _ => ?_)
    refine kw_iconst dX7_number_131 ⟨by decide, by decide⟩ ?_
    exact kv_ri dX7_number_132 rfl (Eq.symm (by first | (rw [if_neg (by omega)]; done) | (rw [if_pos (by omega)]; done))) (by rw [k_u_u])
  · refine kw_iload dX7_number_94 rfl ?_
    refine kw_iload_n dX7_number_96 rfl ?_
    refine kw_iload_n dX7_number_97 rfl ?_
    refine kv_callS1 (M2 := M_X7_in) (As := [kI (v), kI (lo), kI (hi)]) dX7_number_98 ml_X7_54 q_X7_in rfl (Nat.le_of_ble_eq_true rfl) (c_min) (by omega) ?_
    refine kv_ifeqB (tgt := 108) dX7_number_101 (by decide) (fun h2 => ?_) (fun h2 => ?_)
    · refine kw_iconst dX7_number_108 ⟨by decide, by decide⟩ ?_
      refine kw_istore dX7_number_109 (by decide) trivial (L2 := [some (kA (45)), some (kI (lo)), some (kI (hi)), some (kI (e)), some (kI (v)), some (kI (0))]) rfl ?_
      refine kw_aload_n dX7_number_111 rfl ?_
      refine kw_dup dX7_number_112 trivial ?_
      refine kv_getI (kz := 10) dX7_number_113 kf_X7_62 rfl rfl rfl ((congrFun (kst_ne (by decide)) _).trans (k_u_self)) ?_
      refine kw_iconst dX7_number_116 ⟨by decide, by decide⟩ ?_
      refine kw_iadd dX7_number_117 ⟨by omega, by omega⟩ ?_
      refine kv_putI (kz := 10) dX7_number_118 kp_X7_62 rfl rfl (fun h => by cases h) rfl ?_
      rw [kst_uc (by decide)]
      refine kw_iload dX7_number_121 rfl ?_
      refine kw_if_eq (tgt := 131) dX7_number_123 (by decide) (kf := fun h => absurd (by decide) h) (kt := fun _ => ?_)
      refine kw_iconst dX7_number_131 ⟨by decide, by decide⟩ ?_
      exact kv_ri dX7_number_132 rfl (Eq.symm (by first | (rw [if_neg (by omega)]; done) | (rw [if_pos (by omega)]; done))) (by rw [k_u_u])
    · refine kw_iconst dX7_number_104 ⟨by decide, by decide⟩ ?_
      refine kw_goto (tgt := 109) dX7_number_105 (by decide) ?_
      refine kw_istore dX7_number_109 (by decide) trivial (L2 := [some (kA (45)), some (kI (lo)), some (kI (hi)), some (kI (e)), some (kI (v)), some (kI (1))]) rfl ?_
      refine kw_aload_n dX7_number_111 rfl ?_
      refine kw_dup dX7_number_112 trivial ?_
      refine kv_getI (kz := 10) dX7_number_113 kf_X7_62 rfl rfl rfl ((congrFun (kst_ne (by decide)) _).trans (k_u_self)) ?_
      refine kw_iconst dX7_number_116 ⟨by decide, by decide⟩ ?_
      refine kw_iadd dX7_number_117 ⟨by omega, by omega⟩ ?_
      refine kv_putI (kz := 10) dX7_number_118 kp_X7_62 rfl rfl (fun h => by cases h) rfl ?_
      rw [kst_uc (by decide)]
      refine kw_iload dX7_number_121 rfl ?_
      refine kw_if_eq (tgt := 131) dX7_number_123 (by decide) (kt := fun h => absurd h (by decide)) (kf := fun _ => ?_)
      refine kw_iload dX7_number_126 rfl ?_
      refine kw_goto (tgt := 132) dX7_number_128 (by decide) ?_
      exact kv_ri dX7_number_132 rfl (Eq.symm (by first | (rw [if_neg (by omega)]; done) | (rw [if_pos (by omega)]; done))) (by rw [k_u_u])
theorem xL_rng {tx : Int → Int} {n p : Int} {f : Nat → Int → Int} (hx : kTm tx n f) (hp : 0 ≤ p) : True := trivial
theorem c_mnum {E : kEnv} {f : Nat → Int → Int} {s : Int → Int} {g : Nat → Int → Option Nat} {tx : Int → Int} {n : Int} {p lo hi e : Int} (hm : kGM g) (hx : kTm tx n f) (hp : 0 ≤ p ∧ p ≤ 900) : kF E 2 M_X7_number [kA (45), kI (lo), kI (hi), kI (e)] ((kMC ++ kMM), kst (k_u f 45 10 p) 50 s, g) (some (kI (if xO tx n lo hi e p = true then xV tx n p else -1))) ((kMC ++ kMM), kst (k_u f 45 10 (xA tx n p)) 50 s, g) := by
  refine kF_of (by decide) (by simp [k_one]) (Nat.le_of_ble_eq_true rfl) (L := [some (kA (45)), some (kI (lo)), some (kI (hi)), some (kI (e)), none, none]) rfl ?_
  refine kw_aload_n dX7_number_0 rfl ?_
  refine kw_aload_n dX7_number_1 rfl ?_
  refine kv_getI (kz := 10) dX7_number_2 kf_X7_62 rfl rfl rfl ((congrFun (kst_ne (by decide)) _).trans (k_u_self)) ?_
  refine kv_callV1 (M2 := M_X7_letterAt) (As := [kI (p)]) dX7_number_5 ml_X7_65 q_X7_letterAt rfl rfl rfl (Nat.le_of_ble_eq_true rfl) (c_mletter hm (kTm_u hx) (by omega)) (by omega) ?_
  refine kv_callS1 (M2 := M_X7_isFigure) (As := [kI (xL tx n p)]) dX7_number_8 ml_X7_69 q_X7_isFigure rfl (Nat.le_of_ble_eq_true rfl) (c_mfig) (by omega) ?_
  refine kv_ifneB (tgt := 16) dX7_number_11 (by decide) (fun h1 => ?_) (fun h1 => ?_)
  · refine kw_aload_n dX7_number_16 rfl ?_
    refine kw_aload_n dX7_number_17 rfl ?_
    refine kv_getI (kz := 10) dX7_number_18 kf_X7_62 rfl rfl rfl ((congrFun (kst_ne (by decide)) _).trans (k_u_self)) ?_
    refine kv_callV1 (M2 := M_X7_letterAt) (As := [kI (p)]) dX7_number_21 ml_X7_65 q_X7_letterAt rfl rfl rfl (Nat.le_of_ble_eq_true rfl) (c_mletter hm (kTm_u hx) (by omega)) (by omega) ?_
    refine kw_bipush dX7_number_24 (by decide) (by decide) ?_
    have lb := xL_rng hx (p := p) hp.1
    have lb2 := xL_rng hx (p := p + 1) (by omega)
    refine kw_isub dX7_number_26 ⟨by omega, by omega⟩ ?_
    refine kw_istore dX7_number_27 (by decide) trivial (L2 := [some (kA (45)), some (kI (lo)), some (kI (hi)), some (kI (e)), some (kI ((xL tx n p) - 48)), none]) rfl ?_
    refine kw_aload_n dX7_number_29 rfl ?_
    refine kw_dup dX7_number_30 trivial ?_
    refine kv_getI (kz := 10) dX7_number_31 kf_X7_62 rfl rfl rfl ((congrFun (kst_ne (by decide)) _).trans (k_u_self)) ?_
    refine kw_iconst dX7_number_34 ⟨by decide, by decide⟩ ?_
    refine kw_iadd dX7_number_35 ⟨by omega, by omega⟩ ?_
    refine kv_putI (kz := 10) dX7_number_36 kp_X7_62 rfl rfl (fun h => by cases h) rfl ?_
    rw [kst_uc (by decide)]
    refine kw_aload_n dX7_number_39 rfl ?_
    refine kw_aload_n dX7_number_40 rfl ?_
    refine kv_getI (kz := 10) dX7_number_41 kf_X7_62 rfl rfl rfl ((congrFun (kst_ne (by decide)) _).trans (k_u_self)) ?_
    refine kv_callV1 (M2 := M_X7_letterAt) (As := [kI (p + 1)]) dX7_number_44 ml_X7_65 q_X7_letterAt rfl rfl rfl (Nat.le_of_ble_eq_true rfl) (c_mletter hm (kTm_u (kTm_u hx)) (by omega)) (by omega) ?_
    refine kv_callS1 (M2 := M_X7_isFigure) (As := [kI (xL tx n (p + 1))]) dX7_number_47 ml_X7_69 q_X7_isFigure rfl (Nat.le_of_ble_eq_true rfl) (c_mfig) (by omega) ?_
    refine kv_ifeqB (tgt := 82) dX7_number_50 (by decide) (fun h2 => ?_) (fun h2 => ?_)
    · have hf : xF tx n p = true := xF_i.mpr (by omega)
      have hv := xV_m hf
      have hf2 : xF tx n (p + 1) = false := xF_n.mpr (by assumption)
      rw [hf2] at hv
      simp only [Bool.true_eq_false, Bool.false_eq_true, false_and, or_false, false_or, true_and] at hv
      have rk := xK_rng (tx := tx) (n := n) (p := p)
      rw [k_u_u, show p + 1 = p + xK tx n p by omega, show (xL tx n p) - 48 = xV tx n p by omega]
      have h := l_mnum (E := E) (s := s) (lo := lo) (hi := hi) (e := e) (v := xV tx n p) (o := none) hm hx (q := p + xK tx n p) (by omega)
      rw [show (if xL tx n (p + xK tx n p) = e ∧ lo ≤ xV tx n p ∧ xV tx n p ≤ hi then xV tx n p else -1) = (if xO tx n lo hi e p = true then xV tx n p else -1) from by
        by_cases z : xL tx n (p + xK tx n p) = e ∧ lo ≤ xV tx n p ∧ xV tx n p ≤ hi
        · rw [if_pos z, if_pos (xO_i.mpr ⟨hf, z⟩)]
        · rw [if_neg z, if_neg (fun y => z (xO_i.mp y).2)], show p + xK tx n p + 1 = xA tx n p from (if_pos hf).symm] at h
      exact h
    · refine kw_bipush dX7_number_53 (by decide) (by decide) ?_
      refine kw_iload dX7_number_55 rfl ?_
      refine kw_imul dX7_number_57 ⟨by omega, by omega⟩ ?_
      refine kw_aload_n dX7_number_58 rfl ?_
      refine kw_aload_n dX7_number_59 rfl ?_
      refine kv_getI (kz := 10) dX7_number_60 kf_X7_62 rfl rfl rfl ((congrFun (kst_ne (by decide)) _).trans (k_u_self)) ?_
      refine kv_callV1 (M2 := M_X7_letterAt) (As := [kI (p + 1)]) dX7_number_63 ml_X7_65 q_X7_letterAt rfl rfl rfl (Nat.le_of_ble_eq_true rfl) (c_mletter hm (kTm_u (kTm_u hx)) (by omega)) (by omega) ?_
      refine kw_iadd dX7_number_66 ⟨by omega, by omega⟩ ?_
      refine kw_bipush dX7_number_67 (by decide) (by decide) ?_
      refine kw_isub dX7_number_69 ⟨by omega, by omega⟩ ?_
      refine kw_istore dX7_number_70 (by decide) trivial (L2 := [some (kA (45)), some (kI (lo)), some (kI (hi)), some (kI (e)), some (kI (((10 * ((xL tx n p) - 48)) + (xL tx n (p + 1))) - 48)), none]) rfl ?_
      refine kw_aload_n dX7_number_72 rfl ?_
      refine kw_dup dX7_number_73 trivial ?_
      refine kv_getI (kz := 10) dX7_number_74 kf_X7_62 rfl rfl rfl ((congrFun (kst_ne (by decide)) _).trans (k_u_self)) ?_
      refine kw_iconst dX7_number_77 ⟨by decide, by decide⟩ ?_
      refine kw_iadd dX7_number_78 ⟨by omega, by omega⟩ ?_
      refine kv_putI (kz := 10) dX7_number_79 kp_X7_62 rfl rfl (fun h => by cases h) rfl ?_
      rw [kst_uc (by decide)]
      have hf : xF tx n p = true := xF_i.mpr (by omega)
      have hv := xV_m hf
      have hf2 : xF tx n (p + 1) = true := xF_i.mpr (by omega)
      rw [hf2] at hv
      simp only [Bool.true_eq_false, Bool.false_eq_true, false_and, or_false, false_or, true_and] at hv
      have rk := xK_rng (tx := tx) (n := n) (p := p)
      rw [k_u_u, k_u_u, show (p + 1) + 1 = p + xK tx n p by omega, show ((10 * ((xL tx n p) - 48)) + (xL tx n (p + 1))) - 48 = xV tx n p by omega]
      have h := l_mnum (E := E) (s := s) (lo := lo) (hi := hi) (e := e) (v := xV tx n p) (o := none) hm hx (q := p + xK tx n p) (by omega)
      rw [show (if xL tx n (p + xK tx n p) = e ∧ lo ≤ xV tx n p ∧ xV tx n p ≤ hi then xV tx n p else -1) = (if xO tx n lo hi e p = true then xV tx n p else -1) from by
        by_cases z : xL tx n (p + xK tx n p) = e ∧ lo ≤ xV tx n p ∧ xV tx n p ≤ hi
        · rw [if_pos z, if_pos (xO_i.mpr ⟨hf, z⟩)]
        · rw [if_neg z, if_neg (fun y => z (xO_i.mp y).2)], show p + xK tx n p + 1 = xA tx n p from (if_pos hf).symm] at h
      exact h
  · refine kw_iconst dX7_number_14 ⟨by decide, by decide⟩ ?_
    have hf : xF tx n p = false := xF_n.mpr (by assumption)
    exact kv_ri dX7_number_15 rfl (if_neg (fun z => by have := (xO_i.mp z).1; rw [hf] at this; cases this)).symm (by rw [show xA tx n p = p from if_neg (by rw [hf]; decide)])
theorem c_mnum_t {E : kEnv} {f : Nat → Int → Int} {s : Int → Int} {g : Nat → Int → Option Nat} {tx : Int → Int} {n : Int} {p lo hi e : Int} (hm : kGM g) (hx : kTm tx n f) (hp : 0 ≤ p ∧ p ≤ 900) (h : xO tx n lo hi e p = true) : kF E 2 M_X7_number [kA 45, kI lo, kI hi, kI e] ((kMC ++ kMM), kst (k_u f 45 10 p) 50 s, g) (some (kI (xV tx n p))) ((kMC ++ kMM), kst (k_u f 45 10 (xE tx n p)) 50 s, g) := by
  have z := c_mnum (E := E) (s := s) (lo := lo) (hi := hi) (e := e) hm hx hp
  rw [if_pos h, show xA tx n p = xE tx n p from if_pos (xO_i.mp h).1] at z
  exact z
theorem c_mnum_f {E : kEnv} {f : Nat → Int → Int} {s : Int → Int} {g : Nat → Int → Option Nat} {tx : Int → Int} {n : Int} {p lo hi e : Int} (hm : kGM g) (hx : kTm tx n f) (hp : 0 ≤ p ∧ p ≤ 900) (h : xO tx n lo hi e p = false) : kF E 2 M_X7_number [kA 45, kI lo, kI hi, kI e] ((kMC ++ kMM), kst (k_u f 45 10 p) 50 s, g) (some (kI (-1))) ((kMC ++ kMM), kst (k_u f 45 10 (xA tx n p)) 50 s, g) := by
  have z := c_mnum (E := E) (s := s) (lo := lo) (hi := hi) (e := e) hm hx hp
  rw [if_neg (by rw [h]; decide)] at z
  exact z
