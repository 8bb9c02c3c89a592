/-! the class: items; the first fault -/
def xR (tx : Int → Int) (n p : Int) : Int := if xI tx n p = true then xN tx n p else -1
/-- the numbers of the item at p stand in the row of numbers -/
def rQ (tx : Int → Int) (n p : Int) (f : Nat → Int → Int) : Prop := (tx p = 98 → f 3 0 = xV tx n (p + 1) ∧ f 3 1 = xV tx n (x2 tx n p) ∧ f 3 2 = xV tx n (x3 tx n p) ∧ f 3 3 = xV tx n (x4 tx n p)) ∧ (tx p = 116 → f 3 0 = xV tx n (p + 1) ∧ f 3 1 = xV tx n (x2 tx n p) ∧ f 3 2 = xV tx n (x3 tx n p)) ∧ (tx p = 107 → f 3 0 = xV tx n (p + 1) ∧ f 3 1 = xV tx n (x2 tx n p)) ∧ (tx p = 102 → f 3 0 = xV tx n (p + 1))
def rP (tx : Int → Int) (n p : Int) (f f2 : Nat → Int → Int) : Prop := k3 f f2 ∧ (xI tx n p = true → rQ tx n p f2)
theorem xO_f {tx : Int → Int} {n lo hi e p : Int} (h : ¬ (xF tx n p = true ∧ xL tx n (p + xK tx n p) = e ∧ lo ≤ xV tx n p ∧ xV tx n p ≤ hi)) : xO tx n lo hi e p = false := by
  cases q : xO tx n lo hi e p
  · rfl
  · exact absurd (xO_i.mp q) h
theorem l_ri1 {E : kEnv} {w : List (Nat × Nat)} {f : Nat → Int → Int} {g : Nat → Int → Option Nat} {tx : Int → Int} {n : Int} {p lim many a k lo hi e : Int} {o : Option kV} {Q : Option kV → kH → Prop} (hg : kG g) (hx : kTx tx n f) (ha : 0 ≤ a ∧ a ≤ 900) (hk : 0 ≤ k ∧ k < many ∧ many ≤ 4) (hl : 0 ≤ lim ∧ lim + k < 10) (he : (k = many - 1 ∧ e = 59) ∨ (k ≠ many - 1 ∧ e = 44)) (hlo : k_LEAST.getD (lim + k).toNat 0 = lo) (hhi : k_MOST.getD (lim + k).toNat 0 = hi)
    (kt : xO tx n lo hi e a = true → kW E 2 0 0 M_X5_readItem 26 [some (kA 1), some (kI p), some (kI lim), some (kI many), some (kI (xE tx n a)), some (kI (k + 1)), some (kI (xK tx n a))] [] ((kMC ++ w), k_u f 3 k (xV tx n a), g) Q)
    (kf : xO tx n lo hi e a = false → ∀ f2, k3 f f2 → Q (some (kI (-1))) ((kMC ++ w), f2, g)) : kW E 2 0 0 M_X5_readItem 26 [some (kA 1), some (kI p), some (kI lim), some (kI many), some (kI (a)), some (kI (k)), o] [] ((kMC ++ w), f, g) Q := by
  refine kw_iload dX5_readItem_26 rfl ?_
  refine kw_iload_n dX5_readItem_28 rfl ?_
  refine kw_icmp_ge (tgt := 106) dX5_readItem_29 (by decide) (kt := fun h1 => absurd h1 (by omega)) (kf := fun h1 => ?_)
  refine kw_aload_n dX5_readItem_32 rfl ?_
  refine kw_iload dX5_readItem_33 rfl ?_
  refine kv_callV1 (M2 := M_X5_figuresAt) (As := [kI (a)]) dX5_readItem_35 ml_X5_57 q_X5_figuresAt rfl rfl rfl (Nat.le_of_ble_eq_true rfl) (c_figuresAt hg hx (by omega)) (by omega) ?_
  have rk := xK_rng (tx := tx) (n := n) (p := a)
  refine kw_istore dX5_readItem_38 (by decide) trivial (L2 := [some (kA (1)), some (kI (p)), some (kI (lim)), some (kI (many)), some (kI (a)), some (kI (k)), some (kI (xK tx n a))]) rfl ?_
  refine kw_iload dX5_readItem_40 rfl ?_
  refine kw_if_eq (tgt := 62) dX5_readItem_42 (by decide) (fun h2 => ?_) (fun h2 => ?_)
  · refine kw_iconst dX5_readItem_62 ⟨by decide, by decide⟩ ?_
    exact kw_iret dX5_readItem_63 rfl rfl (kf (xO_f (fun z => by have := xK_0 (tx := tx) (n := n) (p := a) (by omega); rw [this] at z; exact absurd z.1 (by decide))) f k3_rf)
  · have hf : xF tx n a = true := xK_p (by omega)
    refine kw_aload_n dX5_readItem_45 rfl ?_
    refine kw_iload dX5_readItem_46 rfl ?_
    refine kw_iload dX5_readItem_48 rfl ?_
    refine kw_iload dX5_readItem_50 rfl ?_
    refine kw_iload_n dX5_readItem_52 rfl ?_
    refine kw_iload dX5_readItem_53 rfl ?_
    refine kw_iadd dX5_readItem_55 ⟨by omega, by omega⟩ ?_
    refine kv_callV1 (M2 := M_X5_readNumber) (As := [kI (a), kI (xK tx n a), kI (k), kI (lim + k)]) dX5_readItem_56 ml_X5_60 q_X5_readNumber rfl rfl rfl (Nat.le_of_ble_eq_true rfl) (c_readNumber hg hx (by omega) (by omega) (by omega) hf rfl) (by omega) ?_
    rw [hlo, hhi]
    have hx2 := kTx_u (a := 3) (i := k) (v := xV tx n a) hx (by decide)
    refine kv_ifneB (tgt := 64) dX5_readItem_59 (by decide) (fun h3 => ?_) (fun h3 => ?_)
    · refine kw_iload dX5_readItem_64 rfl ?_
      refine kw_iload dX5_readItem_66 rfl ?_
      refine kw_iadd dX5_readItem_68 ⟨by omega, by omega⟩ ?_
      refine kw_istore dX5_readItem_69 (by decide) trivial (L2 := [some (kA (1)), some (kI (p)), some (kI (lim)), some (kI (many)), some (kI (a + (xK tx n a))), some (kI (k)), some (kI (xK tx n a))]) rfl ?_
      refine kw_aload_n dX5_readItem_71 rfl ?_
      refine kw_iload dX5_readItem_72 rfl ?_
      refine kv_callV1 (M2 := M_X5_letter) (As := [kI (a + (xK tx n a))]) dX5_readItem_74 ml_X5_40 q_X5_letter rfl rfl rfl (Nat.le_of_ble_eq_true rfl) (c_letX hg hx2 (by omega)) (by omega) ?_
      have y4 := yx (tx := tx) (n := n) (p := a + (xK tx n a))
      refine kw_iload dX5_readItem_77 rfl ?_
      refine kw_iload_n dX5_readItem_79 rfl ?_
      refine kw_iconst dX5_readItem_80 ⟨by decide, by decide⟩ ?_
      refine kw_isub dX5_readItem_81 ⟨by omega, by omega⟩ ?_
      refine kw_icmp_ne (tgt := 90) dX5_readItem_82 (by decide) (fun h5 => ?_) (fun h5 => ?_)
      · refine kw_bipush dX5_readItem_90 (by decide) (by decide) ?_
        refine kw_icmp_eq (tgt := 97) dX5_readItem_92 (by decide) (fun h6 => ?_) (fun h6 => ?_)
        · refine kw_iinc dX5_readItem_97 (by decide) rfl ⟨by omega, by omega⟩ trivial (L2 := [some (kA (1)), some (kI (p)), some (kI (lim)), some (kI (many)), some (kI ((a + (xK tx n a)) + 1)), some (kI (k)), some (kI (xK tx n a))]) rfl ?_
          refine kw_iinc dX5_readItem_100 (by decide) rfl ⟨by omega, by omega⟩ trivial (L2 := [some (kA (1)), some (kI (p)), some (kI (lim)), some (kI (many)), some (kI ((a + (xK tx n a)) + 1)), some (kI (k + 1)), some (kI (xK tx n a))]) rfl ?_
          refine kw_goto (tgt := 26) dX5_readItem_103 (by decide) ?_
          exact kt (xO_i.mpr ⟨hf, by omega, by omega, by omega⟩)
        · refine kw_iconst dX5_readItem_95 ⟨by decide, by decide⟩ ?_
          exact kw_iret dX5_readItem_96 rfl rfl (kf (xO_f (fun z => by omega)) _ (k3_u k3_rf))
      · refine kw_bipush dX5_readItem_85 (by decide) (by decide) ?_
        refine kw_goto (tgt := 92) dX5_readItem_87 (by decide) ?_
        refine kw_icmp_eq (tgt := 97) dX5_readItem_92 (by decide) (fun h7 => ?_) (fun h7 => ?_)
        · refine kw_iinc dX5_readItem_97 (by decide) rfl ⟨by omega, by omega⟩ trivial (L2 := [some (kA (1)), some (kI (p)), some (kI (lim)), some (kI (many)), some (kI ((a + (xK tx n a)) + 1)), some (kI (k)), some (kI (xK tx n a))]) rfl ?_
          refine kw_iinc dX5_readItem_100 (by decide) rfl ⟨by omega, by omega⟩ trivial (L2 := [some (kA (1)), some (kI (p)), some (kI (lim)), some (kI (many)), some (kI ((a + (xK tx n a)) + 1)), some (kI (k + 1)), some (kI (xK tx n a))]) rfl ?_
          refine kw_goto (tgt := 26) dX5_readItem_103 (by decide) ?_
          exact kt (xO_i.mpr ⟨hf, by omega, by omega, by omega⟩)
        · refine kw_iconst dX5_readItem_95 ⟨by decide, by decide⟩ ?_
          exact kw_iret dX5_readItem_96 rfl rfl (kf (xO_f (fun z => by omega)) _ (k3_u k3_rf))
    · refine kw_iconst dX5_readItem_62 ⟨by decide, by decide⟩ ?_
      exact kw_iret dX5_readItem_63 rfl rfl (kf (xO_f (fun z => by omega)) _ (k3_u k3_rf))
theorem l_ri_b {E : kEnv} {w : List (Nat × Nat)} {f : Nat → Int → Int} {g : Nat → Int → Option Nat} {tx : Int → Int} {n : Int} {p : Int} (hg : kG g) (hx : kTx tx n f) (hp : 0 ≤ p ∧ p < n) (hc : tx p = 98) : kW E 2 0 0 M_X5_readItem 26 [some (kA 1), some (kI p), some (kI 0), some (kI 4), some (kI (p + 1)), some (kI 0), none] [] ((kMC ++ w), f, g) (fun r h' => r = some (kI (xR tx n p)) ∧ ∃ f2, h' = ((kMC ++ w), f2, g) ∧ rP tx n p f f2) := by
  have hn := hx.1
  have lp : xL tx n p = tx p := if_pos hp.2
  have g0 := xE_gt (tx := tx) (n := n) (p := (p + 1))
  have g1 := xE_gt (tx := tx) (n := n) (p := (xE tx n (p + 1)))
  have g2 := xE_gt (tx := tx) (n := n) (p := (xE tx n (xE tx n (p + 1))))
  have g3 := xE_gt (tx := tx) (n := n) (p := (xE tx n (xE tx n (xE tx n (p + 1)))))
  have hcc : xL tx n p = 98 := by rw [lp, hc]
  have ei : xI tx n p = (xO tx n 0 3 44 (p + 1) && xO tx n 1 20 44 (x2 tx n p) && xO tx n 1 20 44 (x3 tx n p) && xO tx n 0 60 59 (x4 tx n p)) := if_pos hcc
  have en : xN tx n p = xE tx n (x4 tx n p) := if_pos hcc
  refine l_ri1 (lo := 0) (hi := 3) (e := 44) hg hx (by omega) (by omega) (by omega) (by omega) rfl rfl (fun z0 => ?_) (fun z0 f2 y => ⟨by rw [show xR tx n p = -1 from if_neg (by rw [ei, z0]; simp)], f2, rfl, k3_tr k3_rf y, fun q => absurd q (by rw [ei, z0]; simp)⟩)
  refine l_ri1 (lo := 1) (hi := 20) (e := 44) hg (kTx_u hx (by decide)) (by omega) (by omega) (by omega) (by omega) rfl rfl (fun z1 => ?_) (fun z1 f2 y => ⟨by rw [show xR tx n p = -1 from if_neg (by rw [ei, z0, z1]; simp)], f2, rfl, k3_tr (k3_u k3_rf) y, fun q => absurd q (by rw [ei, z0, z1]; simp)⟩)
  refine l_ri1 (lo := 1) (hi := 20) (e := 44) hg (kTx_u (kTx_u hx (by decide)) (by decide)) (by omega) (by omega) (by omega) (by omega) rfl rfl (fun z2 => ?_) (fun z2 f2 y => ⟨by rw [show xR tx n p = -1 from if_neg (by rw [ei, z0, z1, z2]; simp)], f2, rfl, k3_tr (k3_u (k3_u k3_rf)) y, fun q => absurd q (by rw [ei, z0, z1, z2]; simp)⟩)
  refine l_ri1 (lo := 0) (hi := 60) (e := 59) hg (kTx_u (kTx_u (kTx_u hx (by decide)) (by decide)) (by decide)) (by omega) (by omega) (by omega) (by omega) rfl rfl (fun z3 => ?_) (fun z3 f2 y => ⟨by rw [show xR tx n p = -1 from if_neg (by rw [ei, z0, z1, z2, z3]; simp)], f2, rfl, k3_tr (k3_u (k3_u (k3_u k3_rf))) y, fun q => absurd q (by rw [ei, z0, z1, z2, z3]; simp)⟩)
  refine (show kW E 2 0 0 M_X5_readItem 26 [some (kA (1)), some (kI (p)), some (kI (0)), some (kI (4)), some (kI (xE tx n (x4 tx n p))), some (kI (4)), some (kI (xK tx n (x4 tx n p)))] [] ((kMC ++ w), k_u (k_u (k_u (k_u f 3 0 ((xV tx n (p + 1)))) 3 1 ((xV tx n (x2 tx n p)))) 3 2 ((xV tx n (x3 tx n p)))) 3 3 ((xV tx n (x4 tx n p))), g) (fun r h' => r = some (kI (xR tx n p)) ∧ ∃ f2, h' = ((kMC ++ w), f2, g) ∧ rP tx n p f f2) from ?_)
  refine kw_iload dX5_readItem_26 rfl ?_
  refine kw_iload_n dX5_readItem_28 rfl ?_
  refine kw_icmp_ge (tgt := 106) dX5_readItem_29 (by decide) (kf := fun h => absurd (by decide) h) (kt := fun _ => ?_)
  refine kw_iload_n dX5_readItem_106 rfl ?_
  refine kw_if_ne (tgt := 114) dX5_readItem_107 (by decide) (kf := fun h => absurd (by decide) h) (kt := fun _ => ?_)
  refine kw_iload dX5_readItem_114 rfl ?_
  refine kw_iret dX5_readItem_116 rfl rfl ⟨by rw [show xR tx n p = xN tx n p from if_pos (by rw [ei, z0, z1, z2, z3]; rfl), en], _, rfl, (k3_u (k3_u (k3_u (k3_u k3_rf)))), fun _ => ?_⟩
  exact ⟨fun _ => ⟨((k_u_ne2 (by decide)).trans ((k_u_ne2 (by decide)).trans ((k_u_ne2 (by decide)).trans (k_u_self)))), ((k_u_ne2 (by decide)).trans ((k_u_ne2 (by decide)).trans (k_u_self))), ((k_u_ne2 (by decide)).trans (k_u_self)), (k_u_self)⟩, fun z => absurd z (by omega), fun z => absurd z (by omega), fun z => absurd z (by omega)⟩
theorem l_ri_t {E : kEnv} {w : List (Nat × Nat)} {f : Nat → Int → Int} {g : Nat → Int → Option Nat} {tx : Int → Int} {n : Int} {p : Int} (hg : kG g) (hx : kTx tx n f) (hp : 0 ≤ p ∧ p < n) (hc : tx p = 116) : kW E 2 0 0 M_X5_readItem 26 [some (kA 1), some (kI p), some (kI 4), some (kI 3), some (kI (p + 1)), some (kI 0), none] [] ((kMC ++ w), f, g) (fun r h' => r = some (kI (xR tx n p)) ∧ ∃ f2, h' = ((kMC ++ w), f2, g) ∧ rP tx n p f f2) := by
  have hn := hx.1
  have lp : xL tx n p = tx p := if_pos hp.2
  have g0 := xE_gt (tx := tx) (n := n) (p := (p + 1))
  have g1 := xE_gt (tx := tx) (n := n) (p := (xE tx n (p + 1)))
  have g2 := xE_gt (tx := tx) (n := n) (p := (xE tx n (xE tx n (p + 1))))
  have hcc : xL tx n p = 116 := by rw [lp, hc]
  have ei : xI tx n p = (xO tx n 1 20 44 (p + 1) && xO tx n 1 40 44 (x2 tx n p) && xO tx n 1 60 59 (x3 tx n p)) := (if_neg (by omega)).trans (if_pos hcc)
  have en : xN tx n p = x4 tx n p := (if_neg (by omega)).trans (if_pos hcc)
  refine l_ri1 (lo := 1) (hi := 20) (e := 44) hg hx (by omega) (by omega) (by omega) (by omega) rfl rfl (fun z0 => ?_) (fun z0 f2 y => ⟨by rw [show xR tx n p = -1 from if_neg (by rw [ei, z0]; simp)], f2, rfl, k3_tr k3_rf y, fun q => absurd q (by rw [ei, z0]; simp)⟩)
  refine l_ri1 (lo := 1) (hi := 40) (e := 44) hg (kTx_u hx (by decide)) (by omega) (by omega) (by omega) (by omega) rfl rfl (fun z1 => ?_) (fun z1 f2 y => ⟨by rw [show xR tx n p = -1 from if_neg (by rw [ei, z0, z1]; simp)], f2, rfl, k3_tr (k3_u k3_rf) y, fun q => absurd q (by rw [ei, z0, z1]; simp)⟩)
  refine l_ri1 (lo := 1) (hi := 60) (e := 59) hg (kTx_u (kTx_u hx (by decide)) (by decide)) (by omega) (by omega) (by omega) (by omega) rfl rfl (fun z2 => ?_) (fun z2 f2 y => ⟨by rw [show xR tx n p = -1 from if_neg (by rw [ei, z0, z1, z2]; simp)], f2, rfl, k3_tr (k3_u (k3_u k3_rf)) y, fun q => absurd q (by rw [ei, z0, z1, z2]; simp)⟩)
  refine (show kW E 2 0 0 M_X5_readItem 26 [some (kA (1)), some (kI (p)), some (kI (4)), some (kI (3)), some (kI (x4 tx n p)), some (kI (3)), some (kI (xK tx n (x3 tx n p)))] [] ((kMC ++ w), k_u (k_u (k_u f 3 0 ((xV tx n (p + 1)))) 3 1 ((xV tx n (x2 tx n p)))) 3 2 ((xV tx n (x3 tx n p))), g) (fun r h' => r = some (kI (xR tx n p)) ∧ ∃ f2, h' = ((kMC ++ w), f2, g) ∧ rP tx n p f f2) from ?_)
  refine kw_iload dX5_readItem_26 rfl ?_
  refine kw_iload_n dX5_readItem_28 rfl ?_
  refine kw_icmp_ge (tgt := 106) dX5_readItem_29 (by decide) (kf := fun h => absurd (by decide) h) (kt := fun _ => ?_)
  refine kw_iload_n dX5_readItem_106 rfl ?_
  refine kw_if_ne (tgt := 114) dX5_readItem_107 (by decide) (kf := fun h => absurd (by decide) h) (kt := fun _ => ?_)
  refine kw_iload dX5_readItem_114 rfl ?_
  refine kw_iret dX5_readItem_116 rfl rfl ⟨by rw [show xR tx n p = xN tx n p from if_pos (by rw [ei, z0, z1, z2]; rfl), en], _, rfl, (k3_u (k3_u (k3_u k3_rf))), fun _ => ?_⟩
  exact ⟨fun z => absurd z (by omega), fun _ => ⟨((k_u_ne2 (by decide)).trans ((k_u_ne2 (by decide)).trans (k_u_self))), ((k_u_ne2 (by decide)).trans (k_u_self)), (k_u_self)⟩, fun z => absurd z (by omega), fun z => absurd z (by omega)⟩
theorem l_ri_k {E : kEnv} {w : List (Nat × Nat)} {f : Nat → Int → Int} {g : Nat → Int → Option Nat} {tx : Int → Int} {n : Int} {p : Int} (hg : kG g) (hx : kTx tx n f) (hp : 0 ≤ p ∧ p < n) (hc : tx p = 107) : kW E 2 0 0 M_X5_readItem 26 [some (kA 1), some (kI p), some (kI 7), some (kI 2), some (kI (p + 1)), some (kI 0), none] [] ((kMC ++ w), f, g) (fun r h' => r = some (kI (xR tx n p)) ∧ ∃ f2, h' = ((kMC ++ w), f2, g) ∧ rP tx n p f f2) := by
  have hn := hx.1
  have lp : xL tx n p = tx p := if_pos hp.2
  have g0 := xE_gt (tx := tx) (n := n) (p := (p + 1))
  have g1 := xE_gt (tx := tx) (n := n) (p := (xE tx n (p + 1)))
  have hcc : xL tx n p = 107 := by rw [lp, hc]
  have ei : xI tx n p = (xO tx n 1 20 44 (p + 1) && xO tx n 1 9 59 (x2 tx n p)) := (if_neg (by omega)).trans ((if_neg (by omega)).trans (if_pos hcc))
  have en : xN tx n p = x3 tx n p := (if_neg (by omega)).trans ((if_neg (by omega)).trans (if_pos hcc))
  refine l_ri1 (lo := 1) (hi := 20) (e := 44) hg hx (by omega) (by omega) (by omega) (by omega) rfl rfl (fun z0 => ?_) (fun z0 f2 y => ⟨by rw [show xR tx n p = -1 from if_neg (by rw [ei, z0]; simp)], f2, rfl, k3_tr k3_rf y, fun q => absurd q (by rw [ei, z0]; simp)⟩)
  refine l_ri1 (lo := 1) (hi := 9) (e := 59) hg (kTx_u hx (by decide)) (by omega) (by omega) (by omega) (by omega) rfl rfl (fun z1 => ?_) (fun z1 f2 y => ⟨by rw [show xR tx n p = -1 from if_neg (by rw [ei, z0, z1]; simp)], f2, rfl, k3_tr (k3_u k3_rf) y, fun q => absurd q (by rw [ei, z0, z1]; simp)⟩)
  refine (show kW E 2 0 0 M_X5_readItem 26 [some (kA (1)), some (kI (p)), some (kI (7)), some (kI (2)), some (kI (x3 tx n p)), some (kI (2)), some (kI (xK tx n (x2 tx n p)))] [] ((kMC ++ w), k_u (k_u f 3 0 ((xV tx n (p + 1)))) 3 1 ((xV tx n (x2 tx n p))), g) (fun r h' => r = some (kI (xR tx n p)) ∧ ∃ f2, h' = ((kMC ++ w), f2, g) ∧ rP tx n p f f2) from ?_)
  refine kw_iload dX5_readItem_26 rfl ?_
  refine kw_iload_n dX5_readItem_28 rfl ?_
  refine kw_icmp_ge (tgt := 106) dX5_readItem_29 (by decide) (kf := fun h => absurd (by decide) h) (kt := fun _ => ?_)
  refine kw_iload_n dX5_readItem_106 rfl ?_
  refine kw_if_ne (tgt := 114) dX5_readItem_107 (by decide) (kf := fun h => absurd (by decide) h) (kt := fun _ => ?_)
  refine kw_iload dX5_readItem_114 rfl ?_
  refine kw_iret dX5_readItem_116 rfl rfl ⟨by rw [show xR tx n p = xN tx n p from if_pos (by rw [ei, z0, z1]; rfl), en], _, rfl, (k3_u (k3_u k3_rf)), fun _ => ?_⟩
  exact ⟨fun z => absurd z (by omega), fun z => absurd z (by omega), fun _ => ⟨((k_u_ne2 (by decide)).trans (k_u_self)), (k_u_self)⟩, fun z => absurd z (by omega)⟩
theorem l_ri_f {E : kEnv} {w : List (Nat × Nat)} {f : Nat → Int → Int} {g : Nat → Int → Option Nat} {tx : Int → Int} {n : Int} {p : Int} (hg : kG g) (hx : kTx tx n f) (hp : 0 ≤ p ∧ p < n) (hc : tx p = 102) : kW E 2 0 0 M_X5_readItem 26 [some (kA 1), some (kI p), some (kI 9), some (kI 1), some (kI (p + 1)), some (kI 0), none] [] ((kMC ++ w), f, g) (fun r h' => r = some (kI (xR tx n p)) ∧ ∃ f2, h' = ((kMC ++ w), f2, g) ∧ rP tx n p f f2) := by
  have hn := hx.1
  have lp : xL tx n p = tx p := if_pos hp.2
  have g0 := xE_gt (tx := tx) (n := n) (p := (p + 1))
  have hcc : xL tx n p = 102 := by rw [lp, hc]
  have ei : xI tx n p = (xO tx n 1 30 59 (p + 1)) := (if_neg (by omega)).trans ((if_neg (by omega)).trans ((if_neg (by omega)).trans (if_pos hcc)))
  have en : xN tx n p = x2 tx n p := (if_neg (by omega)).trans ((if_neg (by omega)).trans (if_neg (by omega)))
  refine l_ri1 (lo := 1) (hi := 30) (e := 59) hg hx (by omega) (by omega) (by omega) (by omega) rfl rfl (fun z0 => ?_) (fun z0 f2 y => ⟨by rw [show xR tx n p = -1 from if_neg (by rw [ei, z0]; simp)], f2, rfl, k3_tr k3_rf y, fun q => absurd q (by rw [ei, z0]; simp)⟩)
  refine (show kW E 2 0 0 M_X5_readItem 26 [some (kA (1)), some (kI (p)), some (kI (9)), some (kI (1)), some (kI (x2 tx n p)), some (kI (1)), some (kI (xK tx n (p + 1)))] [] ((kMC ++ w), k_u f 3 0 ((xV tx n (p + 1))), g) (fun r h' => r = some (kI (xR tx n p)) ∧ ∃ f2, h' = ((kMC ++ w), f2, g) ∧ rP tx n p f f2) from ?_)
  refine kw_iload dX5_readItem_26 rfl ?_
  refine kw_iload_n dX5_readItem_28 rfl ?_
  refine kw_icmp_ge (tgt := 106) dX5_readItem_29 (by decide) (kf := fun h => absurd (by decide) h) (kt := fun _ => ?_)
  refine kw_iload_n dX5_readItem_106 rfl ?_
  refine kw_if_ne (tgt := 114) dX5_readItem_107 (by decide) (kf := fun h => absurd (by decide) h) (kt := fun _ => ?_)
  refine kw_iload dX5_readItem_114 rfl ?_
  refine kw_iret dX5_readItem_116 rfl rfl ⟨by rw [show xR tx n p = xN tx n p from if_pos (by rw [ei, z0]), en], _, rfl, (k3_u k3_rf), fun _ => ?_⟩
  exact ⟨fun z => absurd z (by omega), fun z => absurd z (by omega), fun z => absurd z (by omega), fun _ => (k_u_self)⟩
theorem c_readItem {E : kEnv} {w : List (Nat × Nat)} {f : Nat → Int → Int} {g : Nat → Int → Option Nat} {tx : Int → Int} {n : Int} {p : Int} (hg : kG g) (hx : kTx tx n f) (hp : 0 ≤ p ∧ p < n) : kFE E 2 M_X5_readItem [kA 1, kI p] ((kMC ++ w), f, g) (some (kI (xR tx n p))) ((kMC ++ w)) (rP tx n p f) g := by
  refine kFE_of (by decide) (by simp [k_one]) (Nat.le_of_ble_eq_true rfl) (L := [some (kA 1), some (kI p), none, none, none, none, none]) rfl ?_
  have hn := hx.1
  have yp : yL tx n p = tx p := if_pos hp.2
  have lp : xL tx n p = tx p := if_pos hp.2
  refine kw_aload_n dX5_readItem_0 rfl ?_
  refine kw_iload_n dX5_readItem_1 rfl ?_
  refine kv_callV1 (M2 := M_X5_letter) (As := [kI (p)]) dX5_readItem_2 ml_X5_40 q_X5_letter rfl rfl rfl (Nat.le_of_ble_eq_true rfl) (c_letX hg hx (by omega)) (by omega) ?_
  refine kv_callS1 (M2 := M_X5_firstLimit) (As := [kI (yL tx n p)]) dX5_readItem_5 ml_X5_50 q_X5_firstLimit rfl (Nat.le_of_ble_eq_true rfl) (c_firstLim) (by omega) ?_
  refine kw_istore_n dX5_readItem_8 (by decide) trivial (L2 := [some (kA (1)), some (kI (p)), some (kI (fLim (yL tx n p))), none, none, none, none]) rfl ?_
  refine kw_aload_n dX5_readItem_9 rfl ?_
  refine kw_iload_n dX5_readItem_10 rfl ?_
  refine kv_callV1 (M2 := M_X5_letter) (As := [kI (p)]) dX5_readItem_11 ml_X5_40 q_X5_letter rfl rfl rfl (Nat.le_of_ble_eq_true rfl) (c_letX hg hx (by omega)) (by omega) ?_
  refine kv_callS1 (M2 := M_X5_howManyNumbers) (As := [kI (yL tx n p)]) dX5_readItem_14 ml_X5_54 q_X5_howManyNumbers rfl (Nat.le_of_ble_eq_true rfl) (c_howMany) (by omega) ?_
  refine kw_istore_n dX5_readItem_17 (by decide) trivial (L2 := [some (kA (1)), some (kI (p)), some (kI (fLim (yL tx n p))), some (kI (fMany (yL tx n p))), none, none, none]) rfl ?_
  refine kw_iload_n dX5_readItem_18 rfl ?_
  refine kw_iconst dX5_readItem_19 ⟨by decide, by decide⟩ ?_
  refine kw_iadd dX5_readItem_20 ⟨by omega, by omega⟩ ?_
  refine kw_istore dX5_readItem_21 (by decide) trivial (L2 := [some (kA (1)), some (kI (p)), some (kI (fLim (yL tx n p))), some (kI (fMany (yL tx n p))), some (kI (p + 1)), none, none]) rfl ?_
  refine kw_iconst dX5_readItem_23 ⟨by decide, by decide⟩ ?_
  refine kw_istore dX5_readItem_24 (by decide) trivial (L2 := [some (kA (1)), some (kI (p)), some (kI (fLim (yL tx n p))), some (kI (fMany (yL tx n p))), some (kI (p + 1)), some (kI (0)), none]) rfl ?_
  rw [yp]
  by_cases c1 : tx p = 98
  · rw [c1]; exact l_ri_b hg hx hp c1
  by_cases c2 : tx p = 116
  · rw [c2]; exact l_ri_t hg hx hp c2
  by_cases c3 : tx p = 107
  · rw [c3]; exact l_ri_k hg hx hp c3
  by_cases c4 : tx p = 102
  · rw [c4]; exact l_ri_f hg hx hp c4
  have e1 : fMany (tx p) = 0 := by unfold fMany; rw [if_neg c1, if_neg c2, if_neg c3, if_neg c4]
  have e2 : xI tx n p = false := by unfold xI; rw [lp, if_neg c1, if_neg c2, if_neg c3, if_neg c4]
  rw [e1]
  refine kw_iload dX5_readItem_26 rfl ?_
  refine kw_iload_n dX5_readItem_28 rfl ?_
  refine kw_icmp_ge (tgt := 106) dX5_readItem_29 (by decide) (kf := fun h => absurd (by decide) h) (kt := fun _ => ?_)
  refine kw_iload_n dX5_readItem_106 rfl ?_
  refine kw_if_ne (tgt := 114) dX5_readItem_107 (by decide) (kt := fun h => absurd h (by decide)) (kf := fun _ => ?_)
  refine kw_iconst dX5_readItem_110 ⟨by decide, by decide⟩ ?_
  refine kw_goto (tgt := 116) dX5_readItem_111 (by decide) ?_
  exact kw_iret dX5_readItem_116 rfl rfl ⟨by rw [show xR tx n p = -1 from if_neg (by rw [e2]; decide)], _, rfl, k3_rf, fun z => by rw [e2] at z; cases z⟩
theorem l_fault {E : kEnv} {w : List (Nat × Nat)} {g : Nat → Int → Option Nat} {tx : Int → Int} {n : Int} {x : Int} {f0 : Nat → Int → Int} (hg : kG g) : ∀ (F : Nat) (p : Int) (T s : Int → Int) (bo te k : Int) (o : Option kV) (f : Nat → Int → Int), (0 ≤ k ∧ k ≤ p) → (n - p < F) → mTp T → mSp T s → bo = T 0 → te = T 1 → kTx tx n f → k3 f0 f → x = (rA tx n F p T s).1 → kW E 3 0 0 M_X5_firstFault 9 [some (kA 1), some (kI bo), some (kI te), some (kI p), some (kI k), o] [] ((kMC ++ w), f, g) (fun r h' => r = some (kI x) ∧ ∃ f2, h' = ((kMC ++ w), f2, g) ∧ k3 f0 f2) := by
  intro F
  induction F with
  | zero =>
    intro p T s bo te k o f y0 y1 hT hS hb ht hx hE z1
    have hn := hx.1
    have z1 : x = -4 := z1
    refine kw_iload dX5_firstFault_9 rfl ?_
    refine kw_sipush dX5_firstFault_11 (by decide) (by decide) ?_
    refine kw_icmp_ge (tgt := 88) dX5_firstFault_14 (by decide) (fun h1 => ?_) (fun h1 => ?_)
    · refine kw_bipush dX5_firstFault_88 (by decide) (by decide) ?_
      exact kv_riE dX5_firstFault_90 rfl z1.symm hE
    · refine kw_iload_n dX5_firstFault_17 rfl ?_
      refine kw_aload_n dX5_firstFault_18 rfl ?_
      refine kv_getI (kz := 2) dX5_firstFault_19 kf_X5_19 rfl rfl rfl rfl ?_
      refine kw_icmp_ge (tgt := 88) dX5_firstFault_22 (by decide) (kf := fun h2 => absurd h2 (by omega)) (kt := fun h2 => ?_)
      refine kw_bipush dX5_firstFault_88 (by decide) (by decide) ?_
      exact kv_riE dX5_firstFault_90 rfl z1.symm hE
  | succ F ih =>
    intro p T s bo te k o f y0 y1 hT hS hb ht hx hE z1
    have hn := hx.1
    have t0 := hT.1
    have t1 := hT.2.1
    refine kw_iload dX5_firstFault_9 rfl ?_
    refine kw_sipush dX5_firstFault_11 (by decide) (by decide) ?_
    refine kw_icmp_ge (tgt := 88) dX5_firstFault_14 (by decide) (fun h1 => ?_) (fun h1 => ?_)
    · refine kw_bipush dX5_firstFault_88 (by decide) (by decide) ?_
      rw [show rA tx n (F + 1) p T s = (-4, T, s) from rA_end (by omega)] at z1
      exact kv_riE dX5_firstFault_90 rfl z1.symm hE
    · refine kw_iload_n dX5_firstFault_17 rfl ?_
      refine kw_aload_n dX5_firstFault_18 rfl ?_
      refine kv_getI (kz := 2) dX5_firstFault_19 kf_X5_19 rfl rfl rfl rfl ?_
      refine kw_icmp_ge (tgt := 88) dX5_firstFault_22 (by decide) (fun h2 => ?_) (fun h2 => ?_)
      · refine kw_bipush dX5_firstFault_88 (by decide) (by decide) ?_
        rw [show rA tx n (F + 1) p T s = (-4, T, s) from rA_end (by omega)] at z1
        exact kv_riE dX5_firstFault_90 rfl z1.symm hE
      · have lp : xL tx n p = tx p := if_pos (by omega)
        have yp : yL tx n p = tx p := if_pos (by omega)
        have nx := xN_gt (tx := tx) (n := n) (p := p)
        have xr : xR tx n p = xN tx n p ∨ xR tx n p = -1 := by unfold xR; split <;> simp
        refine kw_aload_n dX5_firstFault_25 rfl ?_
        refine kw_iload_n dX5_firstFault_26 rfl ?_
        refine kv_callV1E (M2 := M_X5_readItem) (As := [kI (p)]) dX5_firstFault_27 ml_X5_36 q_X5_readItem rfl rfl rfl (Nat.le_of_ble_eq_true rfl) (c_readItem hg hx (by omega)) (by omega) (fun f9 h9 => ?_)
        have hx := kTx_3 hx h9.1
        have hE := k3_tr hE h9.1
        refine kw_istore dX5_firstFault_30 (by decide) trivial (L2 := [some (kA (1)), some (kI (bo)), some (kI (te)), some (kI (p)), some (kI (k)), some (kI (xR tx n p))]) rfl ?_
        refine kw_aload_n dX5_firstFault_32 rfl ?_
        refine kw_iload_n dX5_firstFault_33 rfl ?_
        refine kv_callV1 (M2 := M_X5_letter) (As := [kI (p)]) dX5_firstFault_34 ml_X5_40 q_X5_letter rfl rfl rfl (Nat.le_of_ble_eq_true rfl) (c_letX hg hx (by omega)) (by omega) ?_
        refine kw_bipush dX5_firstFault_37 (by decide) (by decide) ?_
        refine kw_icmp_ne (tgt := 48) dX5_firstFault_39 (by decide) (fun h3 => ?_) (fun h3 => ?_)
        · refine kw_aload_n dX5_firstFault_48 rfl ?_
          refine kw_iload_n dX5_firstFault_49 rfl ?_
          refine kv_callV1 (M2 := M_X5_letter) (As := [kI (p)]) dX5_firstFault_50 ml_X5_40 q_X5_letter rfl rfl rfl (Nat.le_of_ble_eq_true rfl) (c_letX hg hx (by omega)) (by omega) ?_
          refine kw_bipush dX5_firstFault_53 (by decide) (by decide) ?_
          refine kw_icmp_ne (tgt := 61) dX5_firstFault_55 (by decide) (fun h4 => ?_) (fun h4 => ?_)
          · refine kw_iload dX5_firstFault_61 rfl ?_
            refine kw_if_lt (tgt := 77) dX5_firstFault_63 (by decide) (fun h5 => ?_) (fun h5 => ?_)
            · refine kw_iload_n dX5_firstFault_77 rfl ?_
              have hG : xG tx n p T = false := by
                cases q : xG tx n p T
                · rfl
                · obtain ⟨a1, a2, a3⟩ := xG_i.mp q
                  have a4 : xR tx n p = xN tx n p := if_pos a1
                  exfalso
                  omega
              rw [rA_no (by omega) hG] at z1
              exact kv_riE dX5_firstFault_78 rfl z1.symm hE
            · refine kw_iload_n dX5_firstFault_66 rfl ?_
              refine kw_bipush dX5_firstFault_67 (by decide) (by decide) ?_
              refine kw_icmp_gt (tgt := 77) dX5_firstFault_69 (by decide) (fun h6 => ?_) (fun h6 => ?_)
              · refine kw_iload_n dX5_firstFault_77 rfl ?_
                have hG : xG tx n p T = false := by
                  cases q : xG tx n p T
                  · rfl
                  · obtain ⟨a1, a2, a3⟩ := xG_i.mp q
                    have a4 : xR tx n p = xN tx n p := if_pos a1
                    exfalso
                    omega
                rw [rA_no (by omega) hG] at z1
                exact kv_riE dX5_firstFault_78 rfl z1.symm hE
              · refine kw_iload_n dX5_firstFault_72 rfl ?_
                refine kw_iconst dX5_firstFault_73 ⟨by decide, by decide⟩ ?_
                refine kw_icmp_le (tgt := 79) dX5_firstFault_74 (by decide) (fun h7 => ?_) (fun h7 => ?_)
                · refine kw_iload dX5_firstFault_79 rfl ?_
                  refine kw_istore_n dX5_firstFault_81 (by decide) trivial (L2 := [some (kA (1)), some (kI (bo)), some (kI (te)), some (kI (xR tx n p)), some (kI (k)), some (kI (xR tx n p))]) rfl ?_
                  refine kw_iinc dX5_firstFault_82 (by decide) rfl ⟨by omega, by omega⟩ trivial (L2 := [some (kA (1)), some (kI (bo)), some (kI (te)), some (kI (xR tx n p)), some (kI (k + 1)), some (kI (xR tx n p))]) rfl ?_
                  refine kw_goto (tgt := 9) dX5_firstFault_85 (by decide) ?_
                  have a1 : xI tx n p = true := by
                    cases q : xI tx n p
                    · have : xR tx n p = -1 := if_neg (by rw [q]; decide)
                      exfalso
                      omega
                    · rfl
                  have hG : xG tx n p T = true := xG_i.mpr ⟨a1, fun q => by omega, fun q => by omega⟩
                  have a4 : xR tx n p = xN tx n p := if_pos a1
                  have hz := mTp_go (s := s) hT hS hG
                  have hi := iT_0 (tx := tx) (n := n) (p := p) hT
                  rw [lp] at hi
                  rw [rA_go (by omega) hG] at z1
                  rw [a4]
                  refine ih _ _ _ _ _ _ _ _ (by omega) (by omega) hz.1 hz.2 ?_ ?_ hx hE z1
                  · rw [hi.1]; first | (rw [if_pos (by omega)]; omega) | (rw [if_neg (by omega)]; omega)
                  · rw [hi.2]; first | (rw [if_pos (by omega)]; omega) | (rw [if_neg (by omega)]; omega)
                · refine kw_iload_n dX5_firstFault_77 rfl ?_
                  have hG : xG tx n p T = false := by
                    cases q : xG tx n p T
                    · rfl
                    · obtain ⟨a1, a2, a3⟩ := xG_i.mp q
                      have a4 : xR tx n p = xN tx n p := if_pos a1
                      exfalso
                      omega
                  rw [rA_no (by omega) hG] at z1
                  exact kv_riE dX5_firstFault_78 rfl z1.symm hE
          · refine kw_iinc dX5_firstFault_58 (by decide) rfl ⟨by omega, by omega⟩ trivial (L2 := [some (kA (1)), some (kI (bo)), some (kI (te + 1)), some (kI (p)), some (kI (k)), some (kI (xR tx n p))]) rfl ?_
            refine kw_iload dX5_firstFault_61 rfl ?_
            refine kw_if_lt (tgt := 77) dX5_firstFault_63 (by decide) (fun h8 => ?_) (fun h8 => ?_)
            · refine kw_iload_n dX5_firstFault_77 rfl ?_
              have hG : xG tx n p T = false := by
                cases q : xG tx n p T
                · rfl
                · obtain ⟨a1, a2, a3⟩ := xG_i.mp q
                  have a4 : xR tx n p = xN tx n p := if_pos a1
                  exfalso
                  omega
              rw [rA_no (by omega) hG] at z1
              exact kv_riE dX5_firstFault_78 rfl z1.symm hE
            · refine kw_iload_n dX5_firstFault_66 rfl ?_
              refine kw_bipush dX5_firstFault_67 (by decide) (by decide) ?_
              refine kw_icmp_gt (tgt := 77) dX5_firstFault_69 (by decide) (fun h9 => ?_) (fun h9 => ?_)
              · refine kw_iload_n dX5_firstFault_77 rfl ?_
                have hG : xG tx n p T = false := by
                  cases q : xG tx n p T
                  · rfl
                  · obtain ⟨a1, a2, a3⟩ := xG_i.mp q
                    have a4 : xR tx n p = xN tx n p := if_pos a1
                    exfalso
                    omega
                rw [rA_no (by omega) hG] at z1
                exact kv_riE dX5_firstFault_78 rfl z1.symm hE
              · refine kw_iload_n dX5_firstFault_72 rfl ?_
                refine kw_iconst dX5_firstFault_73 ⟨by decide, by decide⟩ ?_
                refine kw_icmp_le (tgt := 79) dX5_firstFault_74 (by decide) (fun h10 => ?_) (fun h10 => ?_)
                · refine kw_iload dX5_firstFault_79 rfl ?_
                  refine kw_istore_n dX5_firstFault_81 (by decide) trivial (L2 := [some (kA (1)), some (kI (bo)), some (kI (te + 1)), some (kI (xR tx n p)), some (kI (k)), some (kI (xR tx n p))]) rfl ?_
                  refine kw_iinc dX5_firstFault_82 (by decide) rfl ⟨by omega, by omega⟩ trivial (L2 := [some (kA (1)), some (kI (bo)), some (kI (te + 1)), some (kI (xR tx n p)), some (kI (k + 1)), some (kI (xR tx n p))]) rfl ?_
                  refine kw_goto (tgt := 9) dX5_firstFault_85 (by decide) ?_
                  have a1 : xI tx n p = true := by
                    cases q : xI tx n p
                    · have : xR tx n p = -1 := if_neg (by rw [q]; decide)
                      exfalso
                      omega
                    · rfl
                  have hG : xG tx n p T = true := xG_i.mpr ⟨a1, fun q => by omega, fun q => by omega⟩
                  have a4 : xR tx n p = xN tx n p := if_pos a1
                  have hz := mTp_go (s := s) hT hS hG
                  have hi := iT_0 (tx := tx) (n := n) (p := p) hT
                  rw [lp] at hi
                  rw [rA_go (by omega) hG] at z1
                  rw [a4]
                  refine ih _ _ _ _ _ _ _ _ (by omega) (by omega) hz.1 hz.2 ?_ ?_ hx hE z1
                  · rw [hi.1]; first | (rw [if_pos (by omega)]; omega) | (rw [if_neg (by omega)]; omega)
                  · rw [hi.2]; first | (rw [if_pos (by omega)]; omega) | (rw [if_neg (by omega)]; omega)
                · refine kw_iload_n dX5_firstFault_77 rfl ?_
                  have hG : xG tx n p T = false := by
                    cases q : xG tx n p T
                    · rfl
                    · obtain ⟨a1, a2, a3⟩ := xG_i.mp q
                      have a4 : xR tx n p = xN tx n p := if_pos a1
                      exfalso
                      omega
                  rw [rA_no (by omega) hG] at z1
                  exact kv_riE dX5_firstFault_78 rfl z1.symm hE
        · refine kw_iinc dX5_firstFault_42 (by decide) rfl ⟨by omega, by omega⟩ trivial (L2 := [some (kA (1)), some (kI (bo + 1)), some (kI (te)), some (kI (p)), some (kI (k)), some (kI (xR tx n p))]) rfl ?_
          refine kw_goto (tgt := 61) dX5_firstFault_45 (by decide) ?_
          refine kw_iload dX5_firstFault_61 rfl ?_
          refine kw_if_lt (tgt := 77) dX5_firstFault_63 (by decide) (fun h11 => ?_) (fun h11 => ?_)
          · refine kw_iload_n dX5_firstFault_77 rfl ?_
            have hG : xG tx n p T = false := by
              cases q : xG tx n p T
              · rfl
              · obtain ⟨a1, a2, a3⟩ := xG_i.mp q
                have a4 : xR tx n p = xN tx n p := if_pos a1
                exfalso
                omega
            rw [rA_no (by omega) hG] at z1
            exact kv_riE dX5_firstFault_78 rfl z1.symm hE
          · refine kw_iload_n dX5_firstFault_66 rfl ?_
            refine kw_bipush dX5_firstFault_67 (by decide) (by decide) ?_
            refine kw_icmp_gt (tgt := 77) dX5_firstFault_69 (by decide) (fun h12 => ?_) (fun h12 => ?_)
            · refine kw_iload_n dX5_firstFault_77 rfl ?_
              have hG : xG tx n p T = false := by
                cases q : xG tx n p T
                · rfl
                · obtain ⟨a1, a2, a3⟩ := xG_i.mp q
                  have a4 : xR tx n p = xN tx n p := if_pos a1
                  exfalso
                  omega
              rw [rA_no (by omega) hG] at z1
              exact kv_riE dX5_firstFault_78 rfl z1.symm hE
            · refine kw_iload_n dX5_firstFault_72 rfl ?_
              refine kw_iconst dX5_firstFault_73 ⟨by decide, by decide⟩ ?_
              refine kw_icmp_le (tgt := 79) dX5_firstFault_74 (by decide) (fun h13 => ?_) (fun h13 => ?_)
              · refine kw_iload dX5_firstFault_79 rfl ?_
                refine kw_istore_n dX5_firstFault_81 (by decide) trivial (L2 := [some (kA (1)), some (kI (bo + 1)), some (kI (te)), some (kI (xR tx n p)), some (kI (k)), some (kI (xR tx n p))]) rfl ?_
                refine kw_iinc dX5_firstFault_82 (by decide) rfl ⟨by omega, by omega⟩ trivial (L2 := [some (kA (1)), some (kI (bo + 1)), some (kI (te)), some (kI (xR tx n p)), some (kI (k + 1)), some (kI (xR tx n p))]) rfl ?_
                refine kw_goto (tgt := 9) dX5_firstFault_85 (by decide) ?_
                have a1 : xI tx n p = true := by
                  cases q : xI tx n p
                  · have : xR tx n p = -1 := if_neg (by rw [q]; decide)
                    exfalso
                    omega
                  · rfl
                have hG : xG tx n p T = true := xG_i.mpr ⟨a1, fun q => by omega, fun q => by omega⟩
                have a4 : xR tx n p = xN tx n p := if_pos a1
                have hz := mTp_go (s := s) hT hS hG
                have hi := iT_0 (tx := tx) (n := n) (p := p) hT
                rw [lp] at hi
                rw [rA_go (by omega) hG] at z1
                rw [a4]
                refine ih _ _ _ _ _ _ _ _ (by omega) (by omega) hz.1 hz.2 ?_ ?_ hx hE z1
                · rw [hi.1]; first | (rw [if_pos (by omega)]; omega) | (rw [if_neg (by omega)]; omega)
                · rw [hi.2]; first | (rw [if_pos (by omega)]; omega) | (rw [if_neg (by omega)]; omega)
              · refine kw_iload_n dX5_firstFault_77 rfl ?_
                have hG : xG tx n p T = false := by
                  cases q : xG tx n p T
                  · rfl
                  · obtain ⟨a1, a2, a3⟩ := xG_i.mp q
                    have a4 : xR tx n p = xN tx n p := if_pos a1
                    exfalso
                    omega
                rw [rA_no (by omega) hG] at z1
                exact kv_riE dX5_firstFault_78 rfl z1.symm hE
theorem c_fault0 {E : kEnv} {w : List (Nat × Nat)} {f : Nat → Int → Int} {g : Nat → Int → Option Nat} {tx : Int → Int} {n : Int} {T s : Int → Int} {F : Nat} (hg : kG g) (hx : kTx tx n f) (hF : n < F) (hT : mTp T) (hS : mSp T s) (h0 : T 0 = 0) (h1 : T 1 = 0) : kFE E 3 M_X5_firstFault [kA 1] ((kMC ++ w), f, g) (some (kI (rA tx n F 0 T s).1)) ((kMC ++ w)) (k3 f) g := by
  refine kFE_of (by decide) (by simp [k_one]) (Nat.le_of_ble_eq_true rfl) (L := [some (kA 1), none, none, none, none, none]) rfl ?_
  refine kw_iconst dX5_firstFault_0 ⟨by decide, by decide⟩ ?_
  refine kw_istore_n dX5_firstFault_1 (by decide) trivial (L2 := [some (kA (1)), some (kI (0)), none, none, none, none]) rfl ?_
  refine kw_iconst dX5_firstFault_2 ⟨by decide, by decide⟩ ?_
  refine kw_istore_n dX5_firstFault_3 (by decide) trivial (L2 := [some (kA (1)), some (kI (0)), some (kI (0)), none, none, none]) rfl ?_
  refine kw_iconst dX5_firstFault_4 ⟨by decide, by decide⟩ ?_
  refine kw_istore_n dX5_firstFault_5 (by decide) trivial (L2 := [some (kA (1)), some (kI (0)), some (kI (0)), some (kI (0)), none, none]) rfl ?_
  refine kw_iconst dX5_firstFault_6 ⟨by decide, by decide⟩ ?_
  refine kw_istore dX5_firstFault_7 (by decide) trivial (L2 := [some (kA (1)), some (kI (0)), some (kI (0)), some (kI (0)), some (kI (0)), none]) rfl ?_
  exact l_fault hg F 0 T s 0 0 0 none f ⟨by omega, by omega⟩ (by omega) hT hS h0.symm h1.symm hx k3_rf rfl
