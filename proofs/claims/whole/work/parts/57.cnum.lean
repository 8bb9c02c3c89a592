/-! the class: letters, numbers, items -/
/-- the class's text is tx, n letters of it -/
def kTx (tx : Int → Int) (n : Int) (f : Nat → Int → Int) : Prop := (f 1 2 = n ∧ 0 ≤ n ∧ n ≤ 200) ∧ ∀ j, 0 ≤ j → j < n → f 2 j = tx j ∧ 32 ≤ tx j ∧ tx j ≤ 126
theorem kTx_eq {tx : Int → Int} {n : Int} {f f2 : Nat → Int → Int} (h : kTx tx n f) (h1 : f2 1 2 = f 1 2) (h2 : f2 2 = f 2) : kTx tx n f2 := by
  unfold kTx
  rw [h1, h2]
  exact h
theorem kTx_u {tx : Int → Int} {n : Int} {f : Nat → Int → Int} {a : Nat} {i v : Int} (h : kTx tx n f) (ha : 2 < a) : kTx tx n (k_u f a i v) := kTx_eq h (k_u_ne (by omega)) (by funext j; exact k_u_ne (by omega))
/-- other cells than the row of the numbers are the same -/
def k3 (f f2 : Nat → Int → Int) : Prop := ∀ b : Nat, b ≠ 3 → f2 b = f b
theorem k3_rf {f : Nat → Int → Int} : k3 f f := fun _ _ => rfl
theorem k3_tr {f f2 f3 : Nat → Int → Int} (h : k3 f f2) (h2 : k3 f2 f3) : k3 f f3 := fun b hb => (h2 b hb).trans (h b hb)
theorem k3_u {f f2 : Nat → Int → Int} {i v : Int} (h : k3 f f2) : k3 f (k_u f2 3 i v) := fun b hb => (show k_u f2 3 i v b = f2 b from by funext j; exact k_u_ne hb).trans (h b hb)
theorem kTx_3 {tx : Int → Int} {n : Int} {f f2 : Nat → Int → Int} (h : kTx tx n f) (h2 : k3 f f2) : kTx tx n f2 := kTx_eq h (congrFun (h2 1 (by decide)) 2) (h2 2 (by decide))
def yL (tx : Int → Int) (n p : Int) : Int := if p < n then tx p else 0
theorem yx {tx : Int → Int} {n p : Int} : (p < n ∧ yL tx n p = tx p ∧ xL tx n p = tx p) ∨ (n ≤ p ∧ yL tx n p = 0 ∧ xL tx n p = -1) := by
  unfold yL xL
  by_cases h : p < n
  · rw [if_pos h, if_pos h]; exact Or.inl ⟨h, rfl, rfl⟩
  · rw [if_neg h, if_neg h]; exact Or.inr ⟨by omega, rfl, rfl⟩
theorem xF_y {tx : Int → Int} {n p : Int} : xF tx n p = true ↔ 48 ≤ yL tx n p ∧ yL tx n p ≤ 57 := by
  have := yx (tx := tx) (n := n) (p := p)
  rw [xF_i]
  omega
theorem xK_e {tx : Int → Int} {n p : Int} : xK tx n p = if 48 ≤ yL tx n p ∧ yL tx n p ≤ 57 then (if 48 ≤ yL tx n (p + 1) ∧ yL tx n (p + 1) ≤ 57 then 2 else 1) else 0 := by
  unfold xK
  by_cases h : xF tx n p = true
  · rw [if_pos h, if_pos (xF_y.mp h)]
    by_cases h2 : xF tx n (p + 1) = true
    · rw [if_pos h2, if_pos (xF_y.mp h2)]
    · rw [if_neg h2, if_neg (fun z => h2 (xF_y.mpr z))]
  · rw [if_neg h, if_neg (fun z => h (xF_y.mpr z))]
theorem xK_0 {tx : Int → Int} {n p : Int} (h : xK tx n p = 0) : xF tx n p = false := by
  by_cases q : xF tx n p = true
  · unfold xK at h
    rw [if_pos q] at h
    split at h <;> omega
  · simpa using q
theorem xK_p {tx : Int → Int} {n p : Int} (h : xK tx n p ≠ 0) : xF tx n p = true := by
  by_cases q : xF tx n p = true
  · exact q
  · unfold xK at h
    rw [if_neg q] at h
    omega
theorem xV_e {tx : Int → Int} {n p : Int} (h : xF tx n p = true) : (xK tx n p = 2 ∧ xV tx n p = 10 * (yL tx n p - 48) + yL tx n (p + 1) - 48 ∧ xF tx n (p + 1) = true) ∨ (xK tx n p = 1 ∧ xV tx n p = yL tx n p - 48) := by
  have y1 := yx (tx := tx) (n := n) (p := p)
  have y2 := yx (tx := tx) (n := n) (p := p + 1)
  have l1 := xF_i.mp h
  unfold xK xV
  rw [if_pos h]
  by_cases q : xF tx n (p + 1) = true
  · have l2 := xF_i.mp q
    rw [if_pos q, if_pos q]
    refine Or.inl ⟨rfl, by omega, q⟩
  · rw [if_neg q, if_neg q]
    refine Or.inr ⟨rfl, by omega⟩
theorem xV_rng {tx : Int → Int} {n p : Int} (h : xF tx n p = true) : 0 ≤ xV tx n p ∧ xV tx n p ≤ 99 := by
  have l1 := xF_y.mp h
  rcases xV_e h with ⟨-, z, q⟩ | ⟨-, z⟩
  · have l2 := xF_y.mp q
    omega
  · omega
theorem c_letX {E : kEnv} {w : List (Nat × Nat)} {f : Nat → Int → Int} {g : Nat → Int → Option Nat} {tx : Int → Int} {n : Int} {p : Int} (hg : kG g) (hx : kTx tx n f) (hp : 0 ≤ p) : kF E 0 M_X5_letter [kA 1, kI p] ((kMC ++ w), f, g) (some (kI (yL tx n p))) ((kMC ++ w), f, g) := by
  have h := c_letter (E := E) (w := w) (f := f) (p := p) hg (fun _ a b => by have z := hx.2 p a (by have := hx.1.1; omega); rw [z.1]; exact z.2)
  have e : (if 0 ≤ p ∧ p < f 1 2 ∧ p < 200 then f 2 p else 0) = yL tx n p := by
    have h1 := hx.1
    unfold yL
    by_cases q : p < n
    · rw [if_pos q, if_pos (by omega)]; exact (hx.2 p hp q).1
    · rw [if_neg q, if_neg (by omega)]
  rw [e] at h
  exact h
theorem c_isFig {E : kEnv} {h : kH} {c : Int} : kF E 0 M_X5_isFigure [kI c] h (some (kI (if 48 ≤ c ∧ c ≤ 57 then 1 else 0))) h := by
  refine kF_of (by decide) (by simp [k_one]) (Nat.le_of_ble_eq_true rfl) (L := [some (kI c)]) rfl ?_
  refine kw_iload_n dX5_isFigure_0 rfl ?_
  refine kw_bipush dX5_isFigure_1 (by decide) (by decide) ?_
  refine kw_icmp_lt (tgt := 16) dX5_isFigure_3 (by decide) (fun h1 => ?_) (fun h1 => ?_)
  · refine kw_iconst dX5_isFigure_16 ⟨by decide, by decide⟩ ?_
    exact kv_rb dX5_isFigure_17 rfl (by first | rfl | omega | (split <;> omega) | ((repeat' split) <;> omega) | grind) (by first | rfl | rw [if_pos (by omega)] | rw [if_neg (by omega)] | grind)
  · refine kw_iload_n dX5_isFigure_6 rfl ?_
    refine kw_bipush dX5_isFigure_7 (by decide) (by decide) ?_
    refine kw_icmp_gt (tgt := 16) dX5_isFigure_9 (by decide) (fun h2 => ?_) (fun h2 => ?_)
    · refine kw_iconst dX5_isFigure_16 ⟨by decide, by decide⟩ ?_
      exact kv_rb dX5_isFigure_17 rfl (by first | rfl | omega | (split <;> omega) | ((repeat' split) <;> omega) | grind) (by first | rfl | rw [if_pos (by omega)] | rw [if_neg (by omega)] | grind)
    · refine kw_iconst dX5_isFigure_12 ⟨by decide, by decide⟩ ?_
      refine kw_goto (tgt := 17) dX5_isFigure_13 (by decide) ?_
      exact kv_rb dX5_isFigure_17 rfl (by first | rfl | omega | (split <;> omega) | ((repeat' split) <;> omega) | grind) (by first | rfl | rw [if_pos (by omega)] | rw [if_neg (by omega)] | grind)
def fLim (c : Int) : Int := if c = 116 then 4 else if c = 107 then 7 else if c = 102 then 9 else 0
def fMany (c : Int) : Int := if c = 98 then 4 else if c = 116 then 3 else if c = 107 then 2 else if c = 102 then 1 else 0
theorem c_firstLim {E : kEnv} {h : kH} {c : Int} : kF E 0 M_X5_firstLimit [kI c] h (some (kI (fLim c))) h := by
  refine kF_of (by decide) (by simp [k_one]) (Nat.le_of_ble_eq_true rfl) (L := [some (kI c)]) rfl ?_
  refine kw_iload_n dX5_firstLimit_0 rfl ?_
  rcases (show c = 102 ∨ c = 107 ∨ c = 116 ∨ (c ≠ 102 ∧ c ≠ 107 ∧ c ≠ 116) by omega) with h1 | h1 | h1 | h1
  · refine kw_look (off := 40) (tgt := 41) dX5_firstLimit_1 (by decide) (by rw [h1]; rfl) (by decide) ?_
    refine kw_bipush dX5_firstLimit_41 (by decide) (by decide) ?_
    exact kv_ri dX5_firstLimit_43 rfl (Eq.symm (by unfold fLim; (repeat rw [if_neg (by omega)]); try rw [if_pos (by omega)])) rfl
  · refine kw_look (off := 37) (tgt := 38) dX5_firstLimit_1 (by decide) (by rw [h1]; rfl) (by decide) ?_
    refine kw_bipush dX5_firstLimit_38 (by decide) (by decide) ?_
    exact kv_ri dX5_firstLimit_40 rfl (Eq.symm (by unfold fLim; (repeat rw [if_neg (by omega)]); try rw [if_pos (by omega)])) rfl
  · refine kw_look (off := 35) (tgt := 36) dX5_firstLimit_1 (by decide) (by rw [h1]; rfl) (by decide) ?_
    refine kw_iconst dX5_firstLimit_36 ⟨by decide, by decide⟩ ?_
    exact kv_ri dX5_firstLimit_37 rfl (Eq.symm (by unfold fLim; (repeat rw [if_neg (by omega)]); try rw [if_pos (by omega)])) rfl
  · refine kw_look (off := 43) (tgt := 44) dX5_firstLimit_1 (by decide) (by simp [Op.lookupswitch.offset, h1.1, h1.2.1, h1.2.2]; repeat rw [if_neg (by omega)]) (by decide) ?_
    refine kw_iconst dX5_firstLimit_44 ⟨by decide, by decide⟩ ?_
    exact kv_ri dX5_firstLimit_45 rfl (Eq.symm (by unfold fLim; (repeat rw [if_neg (by omega)]); try rw [if_pos (by omega)])) rfl
theorem c_howMany {E : kEnv} {h : kH} {c : Int} : kF E 0 M_X5_howManyNumbers [kI c] h (some (kI (fMany c))) h := by
  refine kF_of (by decide) (by simp [k_one]) (Nat.le_of_ble_eq_true rfl) (L := [some (kI c)]) rfl ?_
  refine kw_iload_n dX5_howManyNumbers_0 rfl ?_
  rcases (show c = 98 ∨ c = 102 ∨ c = 107 ∨ c = 116 ∨ (c ≠ 98 ∧ c ≠ 102 ∧ c ≠ 107 ∧ c ≠ 116) by omega) with h1 | h1 | h1 | h1 | h1
  · refine kw_look (off := 43) (tgt := 44) dX5_howManyNumbers_1 (by decide) (by rw [h1]; rfl) (by decide) ?_
    refine kw_iconst dX5_howManyNumbers_44 ⟨by decide, by decide⟩ ?_
    exact kv_ri dX5_howManyNumbers_45 rfl (Eq.symm (by unfold fMany; (repeat rw [if_neg (by omega)]); try rw [if_pos (by omega)])) rfl
  · refine kw_look (off := 49) (tgt := 50) dX5_howManyNumbers_1 (by decide) (by rw [h1]; rfl) (by decide) ?_
    refine kw_iconst dX5_howManyNumbers_50 ⟨by decide, by decide⟩ ?_
    exact kv_ri dX5_howManyNumbers_51 rfl (Eq.symm (by unfold fMany; (repeat rw [if_neg (by omega)]); try rw [if_pos (by omega)])) rfl
  · refine kw_look (off := 47) (tgt := 48) dX5_howManyNumbers_1 (by decide) (by rw [h1]; rfl) (by decide) ?_
    refine kw_iconst dX5_howManyNumbers_48 ⟨by decide, by decide⟩ ?_
    exact kv_ri dX5_howManyNumbers_49 rfl (Eq.symm (by unfold fMany; (repeat rw [if_neg (by omega)]); try rw [if_pos (by omega)])) rfl
  · refine kw_look (off := 45) (tgt := 46) dX5_howManyNumbers_1 (by decide) (by rw [h1]; rfl) (by decide) ?_
    refine kw_iconst dX5_howManyNumbers_46 ⟨by decide, by decide⟩ ?_
    exact kv_ri dX5_howManyNumbers_47 rfl (Eq.symm (by unfold fMany; (repeat rw [if_neg (by omega)]); try rw [if_pos (by omega)])) rfl
  · refine kw_look (off := 51) (tgt := 52) dX5_howManyNumbers_1 (by decide) (by simp [Op.lookupswitch.offset, h1.1, h1.2.1, h1.2.2.1, h1.2.2.2]; repeat rw [if_neg (by omega)]) (by decide) ?_
    refine kw_iconst dX5_howManyNumbers_52 ⟨by decide, by decide⟩ ?_
    exact kv_ri dX5_howManyNumbers_53 rfl (Eq.symm (by unfold fMany; (repeat rw [if_neg (by omega)]); try rw [if_pos (by omega)])) rfl
theorem c_figuresAt {E : kEnv} {w : List (Nat × Nat)} {f : Nat → Int → Int} {g : Nat → Int → Option Nat} {tx : Int → Int} {n : Int} {p : Int} (hg : kG g) (hx : kTx tx n f) (hp : 0 ≤ p ∧ p ≤ 1000) : kF E 1 M_X5_figuresAt [kA (1), kI (p)] ((kMC ++ w), f, g) (some (kI (xK tx n p))) ((kMC ++ w), f, g) := by
  refine kF_of (by decide) (by simp [k_one]) (Nat.le_of_ble_eq_true rfl) (L := [some (kA (1)), some (kI (p))]) rfl ?_
  refine kw_aload_n dX5_figuresAt_0 rfl ?_
  refine kw_iload_n dX5_figuresAt_1 rfl ?_
  refine kv_callV1 (M2 := M_X5_letter) (As := [kI (p)]) dX5_figuresAt_2 ml_X5_40 q_X5_letter rfl rfl rfl (Nat.le_of_ble_eq_true rfl) (c_letX hg hx (by omega)) (by omega) ?_
  have y1 := yx (tx := tx) (n := n) (p := p)
  refine kv_callS1 (M2 := M_X5_isFigure) (As := [kI (yL tx n p)]) dX5_figuresAt_5 ml_X5_74 q_X5_isFigure rfl (Nat.le_of_ble_eq_true rfl) (c_isFig) (by omega) ?_
  refine kv_ifneB (tgt := 13) dX5_figuresAt_8 (by decide) (fun h2 => ?_) (fun h2 => ?_)
  · refine kw_aload_n dX5_figuresAt_13 rfl ?_
    refine kw_iload_n dX5_figuresAt_14 rfl ?_
    refine kw_iconst dX5_figuresAt_15 ⟨by decide, by decide⟩ ?_
    refine kw_iadd dX5_figuresAt_16 ⟨by omega, by omega⟩ ?_
    refine kv_callV1 (M2 := M_X5_letter) (As := [kI (p + 1)]) dX5_figuresAt_17 ml_X5_40 q_X5_letter rfl rfl rfl (Nat.le_of_ble_eq_true rfl) (c_letX hg hx (by omega)) (by omega) ?_
    have y3 := yx (tx := tx) (n := n) (p := p + 1)
    refine kv_callS1 (M2 := M_X5_isFigure) (As := [kI (yL tx n (p + 1))]) dX5_figuresAt_20 ml_X5_74 q_X5_isFigure rfl (Nat.le_of_ble_eq_true rfl) (c_isFig) (by omega) ?_
    refine kv_ifeqB (tgt := 30) dX5_figuresAt_23 (by decide) (fun h4 => ?_) (fun h4 => ?_)
    · refine kw_iconst dX5_figuresAt_30 ⟨by decide, by decide⟩ ?_
      exact kv_ri dX5_figuresAt_31 rfl (Eq.symm (by rw [xK_e]; first | (rw [if_neg (by omega)]; done) | (rw [if_pos (by omega), if_pos (by omega)]; done) | (rw [if_pos (by omega), if_neg (by omega)]; done))) rfl
    · refine kw_iconst dX5_figuresAt_26 ⟨by decide, by decide⟩ ?_
      refine kw_goto (tgt := 31) dX5_figuresAt_27 (by decide) ?_
      exact kv_ri dX5_figuresAt_31 rfl (Eq.symm (by rw [xK_e]; first | (rw [if_neg (by omega)]; done) | (rw [if_pos (by omega), if_pos (by omega)]; done) | (rw [if_pos (by omega), if_neg (by omega)]; done))) rfl
  · refine kw_iconst dX5_figuresAt_11 ⟨by decide, by decide⟩ ?_
    exact kv_ri dX5_figuresAt_12 rfl (Eq.symm (by rw [xK_e]; first | (rw [if_neg (by omega)]; done) | (rw [if_pos (by omega), if_pos (by omega)]; done) | (rw [if_pos (by omega), if_neg (by omega)]; done))) rfl
theorem l_readNumber {E : kEnv} {w : List (Nat × Nat)} {f : Nat → Int → Int} {g : Nat → Int → Option Nat} {tx : Int → Int} {n : Int} {v p c k lim : Int} (hg : kG g) (hx : kTx tx n f) (hk : 0 ≤ k ∧ k < 4) (hl : 0 ≤ lim ∧ lim < 10) : kW E 1 0 0 M_X5_readNumber 33 [some (kA 1), some (kI p), some (kI c), some (kI k), some (kI lim), some (kI v)] [] ((kMC ++ w), f, g) (fun r h' => r = some (kI (if k_LEAST.getD lim.toNat 0 ≤ v ∧ v ≤ k_MOST.getD lim.toNat 0 then 1 else 0)) ∧ h' = ((kMC ++ w), k_u f 3 k v, g)) := by
  refine kw_iload_n dX5_readNumber_33 rfl ?_
  refine kw_if_lt (tgt := 54) dX5_readNumber_34 (by decide) (kt := fun h1 => absurd h1 (by omega)) (kf := fun h1 => ?_)
  refine kw_iload_n dX5_readNumber_37 rfl ?_
  refine kw_aload_n dX5_readNumber_38 rfl ?_
  refine kv_getR (b := 3) dX5_readNumber_39 kf_X5_15 rfl rfl rfl (hg (1, 1, 3) (by decide)) ?_
  refine kv_alen dX5_readNumber_42 rfl (by decide) ?_
  refine kw_icmp_ge (tgt := 54) dX5_readNumber_43 (by decide) (kt := fun h2 => absurd h2 (by omega)) (kf := fun h2 => ?_)
  refine kw_aload_n dX5_readNumber_46 rfl ?_
  refine kv_getR (b := 3) dX5_readNumber_47 kf_X5_15 rfl rfl rfl (hg (1, 1, 3) (by decide)) ?_
  refine kw_iload_n dX5_readNumber_50 rfl ?_
  refine kw_iload dX5_readNumber_51 rfl ?_
  refine kv_iast dX5_readNumber_53 rfl (by omega) (by omega) ?_
  refine kw_iload dX5_readNumber_54 rfl ?_
  refine kw_if_lt (tgt := 101) dX5_readNumber_56 (by decide) (kt := fun h3 => absurd h3 (by omega)) (kf := fun h3 => ?_)
  refine kw_iload dX5_readNumber_59 rfl ?_
  refine kw_gets0 dX5_readNumber_61 fl_X5_64 ?_
  refine kv_alenT0 dX5_readNumber_64 ?_
  refine kw_icmp_ge (tgt := 101) dX5_readNumber_65 (by decide) (kt := fun h4 => absurd h4 (by omega)) (kf := fun h4 => ?_)
  refine kw_iload dX5_readNumber_68 rfl ?_
  refine kw_gets1 dX5_readNumber_70 fl_X5_67 ?_
  refine kv_alenT1 dX5_readNumber_73 ?_
  refine kw_icmp_ge (tgt := 101) dX5_readNumber_74 (by decide) (kt := fun h5 => absurd h5 (by omega)) (kf := fun h5 => ?_)
  refine kw_iload dX5_readNumber_77 rfl ?_
  refine kw_gets0 dX5_readNumber_79 fl_X5_64 ?_
  refine kw_iload dX5_readNumber_82 rfl ?_
  refine kv_ialdT0 dX5_readNumber_84 (by omega) (by omega) ?_
  refine kw_gets1 dX5_readNumber_85 fl_X5_67 ?_
  refine kw_iload dX5_readNumber_88 rfl ?_
  refine kv_ialdT1 dX5_readNumber_90 (by omega) (by omega) ?_
  refine kv_callN1 (M2 := M_X6_isWithin) (As := [kI (v), kI (k_LEAST.getD (lim).toNat 0), kI (k_MOST.getD (lim).toNat 0)]) dX5_readNumber_91 (by decide +kernel) q_X6_isWithin rfl (Nat.le_of_ble_eq_true rfl) (c_isWithin) (by omega) ?_
  refine kv_ifeqB (tgt := 101) dX5_readNumber_94 (by decide) (fun h6 => ?_) (fun h6 => ?_)
  · refine kw_iconst dX5_readNumber_101 ⟨by decide, by decide⟩ ?_
    first
      | exact kv_rb dX5_readNumber_102 rfl (by first | rw [if_pos (by omega)] | rw [if_neg (by omega)]) rfl
      | (exfalso; omega)
  · refine kw_iconst dX5_readNumber_97 ⟨by decide, by decide⟩ ?_
    refine kw_goto (tgt := 102) dX5_readNumber_98 (by decide) ?_
    first
      | exact kv_rb dX5_readNumber_102 rfl (by first | rw [if_pos (by omega)] | rw [if_neg (by omega)]) rfl
      | (exfalso; omega)
theorem c_readNumber {E : kEnv} {w : List (Nat × Nat)} {f : Nat → Int → Int} {g : Nat → Int → Option Nat} {tx : Int → Int} {n : Int} {p c k lim : Int} (hg : kG g) (hx : kTx tx n f) (hp : 0 ≤ p ∧ p ≤ 1000) (hk : 0 ≤ k ∧ k < 4) (hl : 0 ≤ lim ∧ lim < 10) (hf : xF tx n p = true) (hc : c = xK tx n p) : kF E 1 M_X5_readNumber [kA (1), kI (p), kI (c), kI (k), kI (lim)] ((kMC ++ w), f, g) (some (kI (if k_LEAST.getD lim.toNat 0 ≤ xV tx n p ∧ xV tx n p ≤ k_MOST.getD lim.toNat 0 then 1 else 0))) ((kMC ++ w), k_u f 3 k (xV tx n p), g) := by
  refine kF_of (by decide) (by simp [k_one]) (Nat.le_of_ble_eq_true rfl) (L := [some (kA (1)), some (kI (p)), some (kI (c)), some (kI (k)), some (kI (lim)), none]) rfl ?_
  have hv := xV_e hf
  have hvr := xF_y.mp hf
  have hvs : xK tx n p = 2 → 48 ≤ yL tx n (p + 1) ∧ yL tx n (p + 1) ≤ 57 := fun q => by
    rcases hv with z | z
    · exact xF_y.mp z.2.2
    · omega
  have hn := hx.1
  refine kw_aload_n dX5_readNumber_0 rfl ?_
  refine kw_iload_n dX5_readNumber_1 rfl ?_
  refine kv_callV1 (M2 := M_X5_letter) (As := [kI (p)]) dX5_readNumber_2 ml_X5_40 q_X5_letter rfl rfl rfl (Nat.le_of_ble_eq_true rfl) (c_letX hg hx (by omega)) (by omega) ?_
  have y1 := yx (tx := tx) (n := n) (p := p)
  refine kw_bipush dX5_readNumber_5 (by decide) (by decide) ?_
  refine kw_isub dX5_readNumber_7 ⟨by omega, by omega⟩ ?_
  refine kw_istore dX5_readNumber_8 (by decide) trivial (L2 := [some (kA (1)), some (kI (p)), some (kI (c)), some (kI (k)), some (kI (lim)), some (kI ((yL tx n p) - 48))]) rfl ?_
  refine kw_iload_n dX5_readNumber_10 rfl ?_
  refine kw_iconst dX5_readNumber_11 ⟨by decide, by decide⟩ ?_
  refine kw_icmp_ne (tgt := 33) dX5_readNumber_12 (by decide) (fun h2 => ?_) (fun h2 => ?_)
  · rw [show (yL tx n p) - 48 = xV tx n p by omega]
    exact l_readNumber hg hx hk hl
  · refine kw_bipush dX5_readNumber_15 (by decide) (by decide) ?_
    refine kw_iload dX5_readNumber_17 rfl ?_
    refine kw_imul dX5_readNumber_19 ⟨by omega, by omega⟩ ?_
    refine kw_aload_n dX5_readNumber_20 rfl ?_
    refine kw_iload_n dX5_readNumber_21 rfl ?_
    refine kw_iconst dX5_readNumber_22 ⟨by decide, by decide⟩ ?_
    refine kw_iadd dX5_readNumber_23 ⟨by omega, by omega⟩ ?_
    refine kv_callV1 (M2 := M_X5_letter) (As := [kI (p + 1)]) dX5_readNumber_24 ml_X5_40 q_X5_letter rfl rfl rfl (Nat.le_of_ble_eq_true rfl) (c_letX hg hx (by omega)) (by omega) ?_
    have y3 := yx (tx := tx) (n := n) (p := p + 1)
    refine kw_iadd dX5_readNumber_27 ⟨by omega, by omega⟩ ?_
    refine kw_bipush dX5_readNumber_28 (by decide) (by decide) ?_
    refine kw_isub dX5_readNumber_30 ⟨by omega, by omega⟩ ?_
    refine kw_istore dX5_readNumber_31 (by decide) trivial (L2 := [some (kA (1)), some (kI (p)), some (kI (c)), some (kI (k)), some (kI (lim)), some (kI (((10 * ((yL tx n p) - 48)) + (yL tx n (p + 1))) - 48))]) rfl ?_
    rw [show ((10 * ((yL tx n p) - 48)) + (yL tx n (p + 1))) - 48 = xV tx n p by omega]
    exact l_readNumber hg hx hk hl
