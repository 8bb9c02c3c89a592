/-! the model: sticks -/
theorem sBt_s {s : Int → Int} {x i : Int} (h : 0 ≤ i) : sBt s x (i + 1).toNat = (sBt s x i.toNat && (decide (kbit x i ≠ 1) || decide (s (8 + i) = 1))) := by
  rw [show (i + 1).toNat = i.toNat + 1 by omega, sBt, k_nat h]
theorem sBt_0 {s : Int → Int} {x i y : Int} (h : 0 ≤ i) (hy : y = if sBt s x i.toNat = true then 1 else 0) (q : y = 0) : (0 : Int) = if sBt s x (i + 1).toNat = true then 1 else 0 := by
  rw [sBt_s h]
  by_cases z : sBt s x i.toNat = true
  · rw [if_pos z] at hy; omega
  · rw [if_neg (fun c => z (Bool.and_eq_true_iff.mp c).1)]
theorem sBt_1 {s : Int → Int} {x i y : Int} (h : 0 ≤ i) (hy : y = if sBt s x i.toNat = true then 1 else 0) (q : ¬ y = 0) (p : kbit x i ≠ 1 ∨ s (8 + i) = 1) : (1 : Int) = if sBt s x (i + 1).toNat = true then 1 else 0 := by
  rw [sBt_s h]
  by_cases z : sBt s x i.toNat = true
  · rw [z, Bool.true_and, if_pos (by simpa using p)]
  · rw [if_neg z] at hy; omega
theorem sBt_2 {s : Int → Int} {x i : Int} (h : 0 ≤ i) (p : kbit x i = 1) (p2 : ¬ s (8 + i) = 1) : (0 : Int) = if sBt s x (i + 1).toNat = true then 1 else 0 := by
  rw [sBt_s h, if_neg (by simp [p, p2])]
theorem oStk_y {T s : Int → Int} {w x y : Int} (hy : y = if sBt s x (T 0).toNat = true then 1 else 0) : oStk T s w x = true ↔ ¬ y = 0 ∧ sWt T x (T 0).toNat = w := by
  unfold oStk
  rw [Bool.and_eq_true, decide_eq_true_iff]
  by_cases z : sBt s x (T 0).toNat = true
  · rw [if_pos z] at hy; exact ⟨fun q => ⟨by omega, q.2⟩, fun q => ⟨z, q.2⟩⟩
  · rw [if_neg z] at hy; exact ⟨fun q => absurd q.1 z, fun q => absurd hy q.1⟩
theorem l_msticks1 {E : kEnv} {f : Nat → Int → Int} {s : Int → Int} {g : Nat → Int → Option Nat} {d : Nat} {w v N fo x : Int} {Q : Option kV → kH → Prop} (hm : kGM g) (hT : mTO (f 47)) (hS : mSO (f 47) s) (h28 : 0 ≤ s 28 ∧ s 28 ≤ 99) (h0 : 0 ≤ x ∧ x < 256) (hx : ∀ (y : Int) (o : Option kV), y = (if sBt s x (f 47 0).toNat = true then 1 else 0) → kW E d 0 0 M_X7_sticks 143 [some (kA 45), some (kI w), some (kI v), some (kI N), some (kI fo), some (kI x), some (kI (sWt (f 47) x (f 47 0).toNat)), some (kI y), some (kI (f 47 0)), o] [] ((kMC ++ kMM), kst f 50 s, g) Q) : ∀ (n : Nat) (b y : Int) (o : Option kV), (0 ≤ b ∧ b ≤ f 47 0) → (f 47 0 - b).toNat < n → y = (if sBt s x (b).toNat = true then 1 else 0) → kW E d 0 0 M_X7_sticks 53 [some (kA 45), some (kI w), some (kI v), some (kI N), some (kI fo), some (kI x), some (kI (sWt (f 47) x b.toNat)), some (kI y), some (kI b), o] [] ((kMC ++ kMM), kst f 50 s, g) Q := by
  intro n
  induction n with
  | zero => intro b y o _ z; omega
  | succ n ih =>
    intro b y o y0 y1 z1
    have n0 := hT.1
    have n1 := hT.2.1
    have qw := sWt_rng (x := x) hT b.toNat (by omega)
    have z := k_divb (b := b) h0.1 h0.2
    have z2 := z.2
    have ht : ∀ _ : Unit, 0 ≤ b → b < f 47 0 → 1 ≤ f 47 (21 + b) ∧ f 47 (21 + b) ≤ 20 := fun _ x y => (hT.2.2.2.2.2.1 b x y).2.2
    refine kw_iload dX7_sticks_53 rfl ?_
    refine kw_aload_n dX7_sticks_55 rfl ?_
    refine kv_getR (b := 47) dX7_sticks_56 kf_X7_13 rfl rfl rfl (hm (45, 2, 47) (by decide)) ?_
    refine kw_iconst dX7_sticks_59 ⟨by decide, by decide⟩ ?_
    refine kv_iald dX7_sticks_60 rfl (by omega) (by omega) (congrFun (kst_ne (by decide)) _) ?_
    refine kw_icmp_ge (tgt := 143) dX7_sticks_61 (by decide) (fun h1 => ?_) (fun h1 => ?_)
    · have e1 : b = f 47 0 := by omega
      subst e1
      exact hx y o z1
    · refine kw_iload dX7_sticks_64 rfl ?_
      refine kw_iload dX7_sticks_66 rfl ?_
      refine kv_shr dX7_sticks_68 (by omega) (by omega) (by omega) (by omega) ?_
      refine kw_iconst dX7_sticks_69 ⟨by decide, by decide⟩ ?_
      refine kv_and1 dX7_sticks_70 (by omega) (by omega) ?_
      refine kw_iconst dX7_sticks_71 ⟨by decide, by decide⟩ ?_
      refine kw_icmp_ne (tgt := 79) dX7_sticks_72 (by decide) (fun h2 => ?_) (fun h2 => ?_)
      · refine kw_iconst dX7_sticks_79 ⟨by decide, by decide⟩ ?_
        refine kw_istore dX7_sticks_80 (by decide) trivial (L2 := [some (kA (45)), some (kI (w)), some (kI (v)), some (kI (N)), some (kI (fo)), some (kI (x)), some (kI (sWt (f 47) x b.toNat)), some (kI (y)), some (kI (b)), some (kI (0))]) rfl ?_
        refine kw_iload dX7_sticks_82 rfl ?_
        refine kw_if_eq (tgt := 110) dX7_sticks_84 (by decide) (fun h3 => ?_) (fun h3 => ?_)
        · refine kw_iconst dX7_sticks_110 ⟨by decide, by decide⟩ ?_
          refine kw_istore dX7_sticks_111 (by decide) trivial (L2 := [some (kA (45)), some (kI (w)), some (kI (v)), some (kI (N)), some (kI (fo)), some (kI (x)), some (kI (sWt (f 47) x b.toNat)), some (kI (0)), some (kI (b)), some (kI (0))]) rfl ?_
          refine kw_iload dX7_sticks_113 rfl ?_
          refine kw_iload dX7_sticks_115 rfl ?_
          refine kw_if_eq (tgt := 133) dX7_sticks_117 (by decide) (kf := fun h => absurd (by decide) h) (kt := fun _ => ?_)
          refine kw_iconst dX7_sticks_133 ⟨by decide, by decide⟩ ?_
          have ht0 := ht () y0.1 (by omega)
          refine kw_iadd dX7_sticks_134 ⟨by omega, by omega⟩ ?_
          refine kw_istore dX7_sticks_135 (by decide) trivial (L2 := [some (kA (45)), some (kI (w)), some (kI (v)), some (kI (N)), some (kI (fo)), some (kI (x)), some (kI ((sWt (f 47) x b.toNat) + 0)), some (kI (0)), some (kI (b)), some (kI (0))]) rfl ?_
          refine kw_iinc dX7_sticks_137 (by decide) rfl ⟨by omega, by omega⟩ trivial (L2 := [some (kA (45)), some (kI (w)), some (kI (v)), some (kI (N)), some (kI (fo)), some (kI (x)), some (kI ((sWt (f 47) x b.toNat) + 0)), some (kI (0)), some (kI (b + 1)), some (kI (0))]) rfl ?_
          refine kw_goto (tgt := 53) dX7_sticks_140 (by decide) ?_
          have e1 := sWt_s (T := f 47) (x := x) y0.1
          rw [if_neg (by unfold kbit; omega)] at e1
          rw [← e1]
          refine ih (b + 1) _ _ ⟨by omega, by omega⟩ (by omega) ?_
          first
            | exact sBt_0 y0.1 z1 (by omega)
            | exact sBt_1 y0.1 z1 (by omega) (by unfold kbit; omega)
            | exact sBt_2 (s := s) (x := x) y0.1 (by unfold kbit; omega) (by omega)
        · refine kw_iload dX7_sticks_87 rfl ?_
          refine kw_if_eq (tgt := 106) dX7_sticks_89 (by decide) (kf := fun h => absurd (by decide) h) (kt := fun _ => ?_)
          refine kw_iconst dX7_sticks_106 ⟨by decide, by decide⟩ ?_
          refine kw_goto (tgt := 111) dX7_sticks_107 (by decide) ?_
          refine kw_istore dX7_sticks_111 (by decide) trivial (L2 := [some (kA (45)), some (kI (w)), some (kI (v)), some (kI (N)), some (kI (fo)), some (kI (x)), some (kI (sWt (f 47) x b.toNat)), some (kI (1)), some (kI (b)), some (kI (0))]) rfl ?_
          refine kw_iload dX7_sticks_113 rfl ?_
          refine kw_iload dX7_sticks_115 rfl ?_
          refine kw_if_eq (tgt := 133) dX7_sticks_117 (by decide) (kf := fun h => absurd (by decide) h) (kt := fun _ => ?_)
          refine kw_iconst dX7_sticks_133 ⟨by decide, by decide⟩ ?_
          have ht0 := ht () y0.1 (by omega)
          refine kw_iadd dX7_sticks_134 ⟨by omega, by omega⟩ ?_
          refine kw_istore dX7_sticks_135 (by decide) trivial (L2 := [some (kA (45)), some (kI (w)), some (kI (v)), some (kI (N)), some (kI (fo)), some (kI (x)), some (kI ((sWt (f 47) x b.toNat) + 0)), some (kI (1)), some (kI (b)), some (kI (0))]) rfl ?_
          refine kw_iinc dX7_sticks_137 (by decide) rfl ⟨by omega, by omega⟩ trivial (L2 := [some (kA (45)), some (kI (w)), some (kI (v)), some (kI (N)), some (kI (fo)), some (kI (x)), some (kI ((sWt (f 47) x b.toNat) + 0)), some (kI (1)), some (kI (b + 1)), some (kI (0))]) rfl ?_
          refine kw_goto (tgt := 53) dX7_sticks_140 (by decide) ?_
          have e1 := sWt_s (T := f 47) (x := x) y0.1
          rw [if_neg (by unfold kbit; omega)] at e1
          rw [← e1]
          refine ih (b + 1) _ _ ⟨by omega, by omega⟩ (by omega) ?_
          first
            | exact sBt_0 y0.1 z1 (by omega)
            | exact sBt_1 y0.1 z1 (by omega) (by unfold kbit; omega)
            | exact sBt_2 (s := s) (x := x) y0.1 (by unfold kbit; omega) (by omega)
      · refine kw_iconst dX7_sticks_75 ⟨by decide, by decide⟩ ?_
        refine kw_goto (tgt := 80) dX7_sticks_76 (by decide) ?_
        refine kw_istore dX7_sticks_80 (by decide) trivial (L2 := [some (kA (45)), some (kI (w)), some (kI (v)), some (kI (N)), some (kI (fo)), some (kI (x)), some (kI (sWt (f 47) x b.toNat)), some (kI (y)), some (kI (b)), some (kI (1))]) rfl ?_
        refine kw_iload dX7_sticks_82 rfl ?_
        refine kw_if_eq (tgt := 110) dX7_sticks_84 (by decide) (fun h4 => ?_) (fun h4 => ?_)
        · refine kw_iconst dX7_sticks_110 ⟨by decide, by decide⟩ ?_
          refine kw_istore dX7_sticks_111 (by decide) trivial (L2 := [some (kA (45)), some (kI (w)), some (kI (v)), some (kI (N)), some (kI (fo)), some (kI (x)), some (kI (sWt (f 47) x b.toNat)), some (kI (0)), some (kI (b)), some (kI (1))]) rfl ?_
          refine kw_iload dX7_sticks_113 rfl ?_
          refine kw_iload dX7_sticks_115 rfl ?_
          refine kw_if_eq (tgt := 133) dX7_sticks_117 (by decide) (kt := fun h => absurd h (by decide)) (kf := fun _ => ?_)
          refine kw_aload_n dX7_sticks_120 rfl ?_
          refine kv_getR (b := 47) dX7_sticks_121 kf_X7_13 rfl rfl rfl (hm (45, 2, 47) (by decide)) ?_
          refine kw_bipush dX7_sticks_124 (by decide) (by decide) ?_
          refine kw_iload dX7_sticks_126 rfl ?_
          refine kw_iadd dX7_sticks_128 ⟨by omega, by omega⟩ ?_
          refine kv_iald dX7_sticks_129 rfl (by omega) (by omega) (congrFun (kst_ne (by decide)) _) ?_
          refine kw_goto (tgt := 134) dX7_sticks_130 (by decide) ?_
          have ht0 := ht () y0.1 (by omega)
          refine kw_iadd dX7_sticks_134 ⟨by omega, by omega⟩ ?_
          refine kw_istore dX7_sticks_135 (by decide) trivial (L2 := [some (kA (45)), some (kI (w)), some (kI (v)), some (kI (N)), some (kI (fo)), some (kI (x)), some (kI ((sWt (f 47) x b.toNat) + (f 47 (21 + b)))), some (kI (0)), some (kI (b)), some (kI (1))]) rfl ?_
          refine kw_iinc dX7_sticks_137 (by decide) rfl ⟨by omega, by omega⟩ trivial (L2 := [some (kA (45)), some (kI (w)), some (kI (v)), some (kI (N)), some (kI (fo)), some (kI (x)), some (kI ((sWt (f 47) x b.toNat) + (f 47 (21 + b)))), some (kI (0)), some (kI (b + 1)), some (kI (1))]) rfl ?_
          refine kw_goto (tgt := 53) dX7_sticks_140 (by decide) ?_
          have e1 := sWt_s (T := f 47) (x := x) y0.1
          rw [if_pos (by unfold kbit; omega)] at e1
          rw [← e1]
          refine ih (b + 1) _ _ ⟨by omega, by omega⟩ (by omega) ?_
          first
            | exact sBt_0 y0.1 z1 (by omega)
            | exact sBt_1 y0.1 z1 (by omega) (by unfold kbit; omega)
            | exact sBt_2 (s := s) (x := x) y0.1 (by unfold kbit; omega) (by omega)
        · refine kw_iload dX7_sticks_87 rfl ?_
          refine kw_if_eq (tgt := 106) dX7_sticks_89 (by decide) (kt := fun h => absurd h (by decide)) (kf := fun _ => ?_)
          refine kw_aload_n dX7_sticks_92 rfl ?_
          refine kv_getR (b := 50) dX7_sticks_93 kf_X7_22 rfl rfl rfl (hm (45, 5, 50) (by decide)) ?_
          refine kw_bipush dX7_sticks_96 (by decide) (by decide) ?_
          refine kw_iload dX7_sticks_98 rfl ?_
          refine kw_iadd dX7_sticks_100 ⟨by omega, by omega⟩ ?_
          refine kv_iald dX7_sticks_101 rfl (by omega) (by omega) (congrFun kst_self _) ?_
          refine kw_iconst dX7_sticks_102 ⟨by decide, by decide⟩ ?_
          refine kw_icmp_ne (tgt := 110) dX7_sticks_103 (by decide) (fun h5 => ?_) (fun h5 => ?_)
          · refine kw_iconst dX7_sticks_110 ⟨by decide, by decide⟩ ?_
            refine kw_istore dX7_sticks_111 (by decide) trivial (L2 := [some (kA (45)), some (kI (w)), some (kI (v)), some (kI (N)), some (kI (fo)), some (kI (x)), some (kI (sWt (f 47) x b.toNat)), some (kI (0)), some (kI (b)), some (kI (1))]) rfl ?_
            refine kw_iload dX7_sticks_113 rfl ?_
            refine kw_iload dX7_sticks_115 rfl ?_
            refine kw_if_eq (tgt := 133) dX7_sticks_117 (by decide) (kt := fun h => absurd h (by decide)) (kf := fun _ => ?_)
            refine kw_aload_n dX7_sticks_120 rfl ?_
            refine kv_getR (b := 47) dX7_sticks_121 kf_X7_13 rfl rfl rfl (hm (45, 2, 47) (by decide)) ?_
            refine kw_bipush dX7_sticks_124 (by decide) (by decide) ?_
            refine kw_iload dX7_sticks_126 rfl ?_
            refine kw_iadd dX7_sticks_128 ⟨by omega, by omega⟩ ?_
            refine kv_iald dX7_sticks_129 rfl (by omega) (by omega) (congrFun (kst_ne (by decide)) _) ?_
            refine kw_goto (tgt := 134) dX7_sticks_130 (by decide) ?_
            have ht0 := ht () y0.1 (by omega)
            refine kw_iadd dX7_sticks_134 ⟨by omega, by omega⟩ ?_
            refine kw_istore dX7_sticks_135 (by decide) trivial (L2 := [some (kA (45)), some (kI (w)), some (kI (v)), some (kI (N)), some (kI (fo)), some (kI (x)), some (kI ((sWt (f 47) x b.toNat) + (f 47 (21 + b)))), some (kI (0)), some (kI (b)), some (kI (1))]) rfl ?_
            refine kw_iinc dX7_sticks_137 (by decide) rfl ⟨by omega, by omega⟩ trivial (L2 := [some (kA (45)), some (kI (w)), some (kI (v)), some (kI (N)), some (kI (fo)), some (kI (x)), some (kI ((sWt (f 47) x b.toNat) + (f 47 (21 + b)))), some (kI (0)), some (kI (b + 1)), some (kI (1))]) rfl ?_
            refine kw_goto (tgt := 53) dX7_sticks_140 (by decide) ?_
            have e1 := sWt_s (T := f 47) (x := x) y0.1
            rw [if_pos (by unfold kbit; omega)] at e1
            rw [← e1]
            refine ih (b + 1) _ _ ⟨by omega, by omega⟩ (by omega) ?_
            first
              | exact sBt_0 y0.1 z1 (by omega)
              | exact sBt_1 y0.1 z1 (by omega) (by unfold kbit; omega)
              | exact sBt_2 (s := s) (x := x) y0.1 (by unfold kbit; omega) (by omega)
          · refine kw_iconst dX7_sticks_106 ⟨by decide, by decide⟩ ?_
            refine kw_goto (tgt := 111) dX7_sticks_107 (by decide) ?_
            refine kw_istore dX7_sticks_111 (by decide) trivial (L2 := [some (kA (45)), some (kI (w)), some (kI (v)), some (kI (N)), some (kI (fo)), some (kI (x)), some (kI (sWt (f 47) x b.toNat)), some (kI (1)), some (kI (b)), some (kI (1))]) rfl ?_
            refine kw_iload dX7_sticks_113 rfl ?_
            refine kw_iload dX7_sticks_115 rfl ?_
            refine kw_if_eq (tgt := 133) dX7_sticks_117 (by decide) (kt := fun h => absurd h (by decide)) (kf := fun _ => ?_)
            refine kw_aload_n dX7_sticks_120 rfl ?_
            refine kv_getR (b := 47) dX7_sticks_121 kf_X7_13 rfl rfl rfl (hm (45, 2, 47) (by decide)) ?_
            refine kw_bipush dX7_sticks_124 (by decide) (by decide) ?_
            refine kw_iload dX7_sticks_126 rfl ?_
            refine kw_iadd dX7_sticks_128 ⟨by omega, by omega⟩ ?_
            refine kv_iald dX7_sticks_129 rfl (by omega) (by omega) (congrFun (kst_ne (by decide)) _) ?_
            refine kw_goto (tgt := 134) dX7_sticks_130 (by decide) ?_
            have ht0 := ht () y0.1 (by omega)
            refine kw_iadd dX7_sticks_134 ⟨by omega, by omega⟩ ?_
            refine kw_istore dX7_sticks_135 (by decide) trivial (L2 := [some (kA (45)), some (kI (w)), some (kI (v)), some (kI (N)), some (kI (fo)), some (kI (x)), some (kI ((sWt (f 47) x b.toNat) + (f 47 (21 + b)))), some (kI (1)), some (kI (b)), some (kI (1))]) rfl ?_
            refine kw_iinc dX7_sticks_137 (by decide) rfl ⟨by omega, by omega⟩ trivial (L2 := [some (kA (45)), some (kI (w)), some (kI (v)), some (kI (N)), some (kI (fo)), some (kI (x)), some (kI ((sWt (f 47) x b.toNat) + (f 47 (21 + b)))), some (kI (1)), some (kI (b + 1)), some (kI (1))]) rfl ?_
            refine kw_goto (tgt := 53) dX7_sticks_140 (by decide) ?_
            have e1 := sWt_s (T := f 47) (x := x) y0.1
            rw [if_pos (by unfold kbit; omega)] at e1
            rw [← e1]
            refine ih (b + 1) _ _ ⟨by omega, by omega⟩ (by omega) ?_
            first
              | exact sBt_0 y0.1 z1 (by omega)
              | exact sBt_1 y0.1 z1 (by omega) (by unfold kbit; omega)
              | exact sBt_2 (s := s) (x := x) y0.1 (by unfold kbit; omega) (by omega)
theorem l_msticks2 {E : kEnv} {f : Nat → Int → Int} {s : Int → Int} {g : Nat → Int → Option Nat} {w v P : Int} (hm : kGM g) (hT : mTO (f 47)) (hS : mSO (f 47) s) (h28 : 0 ≤ s 28 ∧ s 28 ≤ 99) (hP : P = ((2 ^ (f 47 0).toNat : Nat) : Int)) (hwv : (0 ≤ w ∧ w ≤ 99) ∧ (0 ≤ v ∧ v ≤ 1)) : ∀ (n : Nat) (x N fo : Int) (o : Option kV × Option kV × Option kV × Option kV), (-1 ≤ x ∧ x < P) → (x + 1).toNat < n → N + sCnt (oStk (f 47) s w) (x + 1).toNat = sCnt (oStk (f 47) s w) (2 ^ (f 47 0).toNat) → fo = kFirst (fun x => oStk (f 47) s w x = true) (P - (x + 1)).toNat (x + 1) → kW E 1 0 0 M_X7_sticks 39 [some (kA 45), some (kI w), some (kI v), some (kI N), some (kI fo), some (kI x), o.1, o.2.1, o.2.2.1, o.2.2.2] [] ((kMC ++ kMM), kst f 50 s, g) (fun r h' => r = some (kI (sSticks (f 47) s w v)) ∧ h' = ((kMC ++ kMM), kst f 50 s, g)) := by
  intro n
  induction n with
  | zero => intro x N fo o _ y; omega
  | succ n ih =>
    intro x N fo o y0 y1 z1 z2
    have n0 := hT.1
    have n1 := hT.2.1
    obtain ⟨p1, p2, p3⟩ := k_p8 hT
    obtain ⟨o6, o7, o8, o9⟩ := o
    refine kw_iload dX7_sticks_39 rfl ?_
    refine kw_if_lt (tgt := 188) dX7_sticks_41 (by decide) (fun h1 => ?_) (fun h1 => ?_)
    · refine kw_iload_n dX7_sticks_188 rfl ?_
      refine kw_if_ne (tgt := 196) dX7_sticks_189 (by decide) (fun h2 => ?_) (fun h2 => ?_)
      · refine kw_iload dX7_sticks_196 rfl ?_
        have ex : x = -1 := by omega
        subst ex
        refine kv_ri dX7_sticks_198 rfl (Eq.symm ?_) rfl
        unfold sSticks
        rw [if_pos hwv]
        rw [if_neg (by omega), z2, show (P - (-1 + 1)).toNat = 2 ^ (f 47 0).toNat by omega]
        rfl
      · refine kw_iload_n dX7_sticks_192 rfl ?_
        refine kw_goto (tgt := 198) dX7_sticks_193 (by decide) ?_
        have ex : x = -1 := by omega
        subst ex
        refine kv_ri dX7_sticks_198 rfl (Eq.symm ?_) rfl
        unfold sSticks
        rw [if_pos hwv]
        rw [if_pos (by omega)]
        have e0 : sCnt (oStk (f 47) s w) ((-1 : Int) + 1).toNat = 0 := rfl
        omega
    · refine kw_iconst dX7_sticks_44 ⟨by decide, by decide⟩ ?_
      refine kw_istore dX7_sticks_45 (by decide) trivial (L2 := [some (kA (45)), some (kI (w)), some (kI (v)), some (kI (N)), some (kI (fo)), some (kI (x)), some (kI (0)), o7, o8, o9]) rfl ?_
      refine kw_iconst dX7_sticks_47 ⟨by decide, by decide⟩ ?_
      refine kw_istore dX7_sticks_48 (by decide) trivial (L2 := [some (kA (45)), some (kI (w)), some (kI (v)), some (kI (N)), some (kI (fo)), some (kI (x)), some (kI (0)), some (kI (1)), o8, o9]) rfl ?_
      refine kw_iconst dX7_sticks_50 ⟨by decide, by decide⟩ ?_
      refine kw_istore dX7_sticks_51 (by decide) trivial (L2 := [some (kA (45)), some (kI (w)), some (kI (v)), some (kI (N)), some (kI (fo)), some (kI (x)), some (kI (0)), some (kI (1)), some (kI (0)), o9]) rfl ?_
      refine l_msticks1 hm hT hS h28 ⟨by omega, by omega⟩ (fun y o zy => ?_) _ 0 1 _ ⟨by omega, by omega⟩ (Nat.lt_succ_self _) rfl
      have qc := sCnt_rng (c := oStk (f 47) s w) (x + 1).toNat
      have qd := sCnt_rng (c := oStk (f 47) s w) (2 ^ (f 47 0).toNat)
      refine kw_iload_n dX7_sticks_143 rfl ?_
      refine kw_iload dX7_sticks_144 rfl ?_
      refine kw_if_eq (tgt := 159) dX7_sticks_146 (by decide) (fun h1 => ?_) (fun h1 => ?_)
      · refine kw_iconst dX7_sticks_159 ⟨by decide, by decide⟩ ?_
        refine kw_iadd dX7_sticks_160 ⟨by omega, by omega⟩ ?_
        refine kw_istore_n dX7_sticks_161 (by decide) trivial (L2 := [some (kA (45)), some (kI (w)), some (kI (v)), some (kI (N + 0)), some (kI (fo)), some (kI (x)), some (kI (sWt (f 47) x (f 47 0).toNat)), some (kI (y)), some (kI (f 47 0)), o]) rfl ?_
        refine kw_iload dX7_sticks_162 rfl ?_
        refine kw_if_eq (tgt := 178) dX7_sticks_164 (by decide) (fun h2 => ?_) (fun h2 => ?_)
        · refine kw_iload dX7_sticks_178 rfl ?_
          refine kw_istore dX7_sticks_180 (by decide) trivial (L2 := [some (kA (45)), some (kI (w)), some (kI (v)), some (kI (N + 0)), some (kI (fo)), some (kI (x)), some (kI (sWt (f 47) x (f 47 0).toNat)), some (kI (y)), some (kI (f 47 0)), o]) rfl ?_
          refine kw_iinc dX7_sticks_182 (by decide) rfl ⟨by omega, by omega⟩ trivial (L2 := [some (kA (45)), some (kI (w)), some (kI (v)), some (kI (N + 0)), some (kI (fo)), some (kI (x + (-1))), some (kI (sWt (f 47) x (f 47 0).toNat)), some (kI (y)), some (kI (f 47 0)), o]) rfl ?_
          refine kw_goto (tgt := 39) dX7_sticks_185 (by decide) ?_
          have oc : oStk (f 47) s w x = false := by
            rw [← Bool.not_eq_true]
            exact fun q => by have q2 := (oStk_y zy).mp q; omega
          have e3 := sCnt_s (c := oStk (f 47) s w) (i := x) (by omega)
          rw [oc] at e3
          rw [if_neg (by decide)] at e3
          have e4 : kFirst (fun x => oStk (f 47) s w x = true) (P - (x + (-1) + 1)).toNat (x + (-1) + 1) = fo := by
            rw [show x + (-1) + 1 = x by omega, show (P - x).toNat = (P - (x + 1)).toNat + 1 by omega, kFirst]
            rw [if_neg (by rw [oc]; decide)]
            exact z2.symm
          exact ih (x + (-1)) _ _ (_, _, _, _) ⟨by omega, by omega⟩ (by omega) (by rw [show x + (-1) + 1 = x by omega]; omega) e4.symm
        · refine kw_iload dX7_sticks_167 rfl ?_
          refine kw_iload_n dX7_sticks_169 rfl ?_
          refine kw_icmp_ne (tgt := 178) dX7_sticks_170 (by decide) (fun h3 => ?_) (fun h3 => ?_)
          · refine kw_iload dX7_sticks_178 rfl ?_
            refine kw_istore dX7_sticks_180 (by decide) trivial (L2 := [some (kA (45)), some (kI (w)), some (kI (v)), some (kI (N + 0)), some (kI (fo)), some (kI (x)), some (kI (sWt (f 47) x (f 47 0).toNat)), some (kI (y)), some (kI (f 47 0)), o]) rfl ?_
            refine kw_iinc dX7_sticks_182 (by decide) rfl ⟨by omega, by omega⟩ trivial (L2 := [some (kA (45)), some (kI (w)), some (kI (v)), some (kI (N + 0)), some (kI (fo)), some (kI (x + (-1))), some (kI (sWt (f 47) x (f 47 0).toNat)), some (kI (y)), some (kI (f 47 0)), o]) rfl ?_
            refine kw_goto (tgt := 39) dX7_sticks_185 (by decide) ?_
            have oc : oStk (f 47) s w x = false := by
              rw [← Bool.not_eq_true]
              exact fun q => by have q2 := (oStk_y zy).mp q; omega
            have e3 := sCnt_s (c := oStk (f 47) s w) (i := x) (by omega)
            rw [oc] at e3
            rw [if_neg (by decide)] at e3
            have e4 : kFirst (fun x => oStk (f 47) s w x = true) (P - (x + (-1) + 1)).toNat (x + (-1) + 1) = fo := by
              rw [show x + (-1) + 1 = x by omega, show (P - x).toNat = (P - (x + 1)).toNat + 1 by omega, kFirst]
              rw [if_neg (by rw [oc]; decide)]
              exact z2.symm
            exact ih (x + (-1)) _ _ (_, _, _, _) ⟨by omega, by omega⟩ (by omega) (by rw [show x + (-1) + 1 = x by omega]; omega) e4.symm
          · refine kw_iload dX7_sticks_173 rfl ?_
            refine kw_goto (tgt := 180) dX7_sticks_175 (by decide) ?_
            refine kw_istore dX7_sticks_180 (by decide) trivial (L2 := [some (kA (45)), some (kI (w)), some (kI (v)), some (kI (N + 0)), some (kI (x)), some (kI (x)), some (kI (sWt (f 47) x (f 47 0).toNat)), some (kI (y)), some (kI (f 47 0)), o]) rfl ?_
            refine kw_iinc dX7_sticks_182 (by decide) rfl ⟨by omega, by omega⟩ trivial (L2 := [some (kA (45)), some (kI (w)), some (kI (v)), some (kI (N + 0)), some (kI (x)), some (kI (x + (-1))), some (kI (sWt (f 47) x (f 47 0).toNat)), some (kI (y)), some (kI (f 47 0)), o]) rfl ?_
            refine kw_goto (tgt := 39) dX7_sticks_185 (by decide) ?_
            exfalso
            omega
      · refine kw_iload dX7_sticks_149 rfl ?_
        refine kw_iload_n dX7_sticks_151 rfl ?_
        refine kw_icmp_ne (tgt := 159) dX7_sticks_152 (by decide) (fun h4 => ?_) (fun h4 => ?_)
        · refine kw_iconst dX7_sticks_159 ⟨by decide, by decide⟩ ?_
          refine kw_iadd dX7_sticks_160 ⟨by omega, by omega⟩ ?_
          refine kw_istore_n dX7_sticks_161 (by decide) trivial (L2 := [some (kA (45)), some (kI (w)), some (kI (v)), some (kI (N + 0)), some (kI (fo)), some (kI (x)), some (kI (sWt (f 47) x (f 47 0).toNat)), some (kI (y)), some (kI (f 47 0)), o]) rfl ?_
          refine kw_iload dX7_sticks_162 rfl ?_
          refine kw_if_eq (tgt := 178) dX7_sticks_164 (by decide) (fun h5 => ?_) (fun h5 => ?_)
          · refine kw_iload dX7_sticks_178 rfl ?_
            refine kw_istore dX7_sticks_180 (by decide) trivial (L2 := [some (kA (45)), some (kI (w)), some (kI (v)), some (kI (N + 0)), some (kI (fo)), some (kI (x)), some (kI (sWt (f 47) x (f 47 0).toNat)), some (kI (y)), some (kI (f 47 0)), o]) rfl ?_
            refine kw_iinc dX7_sticks_182 (by decide) rfl ⟨by omega, by omega⟩ trivial (L2 := [some (kA (45)), some (kI (w)), some (kI (v)), some (kI (N + 0)), some (kI (fo)), some (kI (x + (-1))), some (kI (sWt (f 47) x (f 47 0).toNat)), some (kI (y)), some (kI (f 47 0)), o]) rfl ?_
            refine kw_goto (tgt := 39) dX7_sticks_185 (by decide) ?_
            have oc : oStk (f 47) s w x = false := by
              rw [← Bool.not_eq_true]
              exact fun q => by have q2 := (oStk_y zy).mp q; omega
            have e3 := sCnt_s (c := oStk (f 47) s w) (i := x) (by omega)
            rw [oc] at e3
            rw [if_neg (by decide)] at e3
            have e4 : kFirst (fun x => oStk (f 47) s w x = true) (P - (x + (-1) + 1)).toNat (x + (-1) + 1) = fo := by
              rw [show x + (-1) + 1 = x by omega, show (P - x).toNat = (P - (x + 1)).toNat + 1 by omega, kFirst]
              rw [if_neg (by rw [oc]; decide)]
              exact z2.symm
            exact ih (x + (-1)) _ _ (_, _, _, _) ⟨by omega, by omega⟩ (by omega) (by rw [show x + (-1) + 1 = x by omega]; omega) e4.symm
          · refine kw_iload dX7_sticks_167 rfl ?_
            refine kw_iload_n dX7_sticks_169 rfl ?_
            refine kw_icmp_ne (tgt := 178) dX7_sticks_170 (by decide) (fun h6 => ?_) (fun h6 => ?_)
            · refine kw_iload dX7_sticks_178 rfl ?_
              refine kw_istore dX7_sticks_180 (by decide) trivial (L2 := [some (kA (45)), some (kI (w)), some (kI (v)), some (kI (N + 0)), some (kI (fo)), some (kI (x)), some (kI (sWt (f 47) x (f 47 0).toNat)), some (kI (y)), some (kI (f 47 0)), o]) rfl ?_
              refine kw_iinc dX7_sticks_182 (by decide) rfl ⟨by omega, by omega⟩ trivial (L2 := [some (kA (45)), some (kI (w)), some (kI (v)), some (kI (N + 0)), some (kI (fo)), some (kI (x + (-1))), some (kI (sWt (f 47) x (f 47 0).toNat)), some (kI (y)), some (kI (f 47 0)), o]) rfl ?_
              refine kw_goto (tgt := 39) dX7_sticks_185 (by decide) ?_
              have oc : oStk (f 47) s w x = false := by
                rw [← Bool.not_eq_true]
                exact fun q => by have q2 := (oStk_y zy).mp q; omega
              have e3 := sCnt_s (c := oStk (f 47) s w) (i := x) (by omega)
              rw [oc] at e3
              rw [if_neg (by decide)] at e3
              have e4 : kFirst (fun x => oStk (f 47) s w x = true) (P - (x + (-1) + 1)).toNat (x + (-1) + 1) = fo := by
                rw [show x + (-1) + 1 = x by omega, show (P - x).toNat = (P - (x + 1)).toNat + 1 by omega, kFirst]
                rw [if_neg (by rw [oc]; decide)]
                exact z2.symm
              exact ih (x + (-1)) _ _ (_, _, _, _) ⟨by omega, by omega⟩ (by omega) (by rw [show x + (-1) + 1 = x by omega]; omega) e4.symm
            · refine kw_iload dX7_sticks_173 rfl ?_
              refine kw_goto (tgt := 180) dX7_sticks_175 (by decide) ?_
              refine kw_istore dX7_sticks_180 (by decide) trivial (L2 := [some (kA (45)), some (kI (w)), some (kI (v)), some (kI (N + 0)), some (kI (x)), some (kI (x)), some (kI (sWt (f 47) x (f 47 0).toNat)), some (kI (y)), some (kI (f 47 0)), o]) rfl ?_
              refine kw_iinc dX7_sticks_182 (by decide) rfl ⟨by omega, by omega⟩ trivial (L2 := [some (kA (45)), some (kI (w)), some (kI (v)), some (kI (N + 0)), some (kI (x)), some (kI (x + (-1))), some (kI (sWt (f 47) x (f 47 0).toNat)), some (kI (y)), some (kI (f 47 0)), o]) rfl ?_
              refine kw_goto (tgt := 39) dX7_sticks_185 (by decide) ?_
              exfalso
              omega
        · refine kw_iconst dX7_sticks_155 ⟨by decide, by decide⟩ ?_
          refine kw_goto (tgt := 160) dX7_sticks_156 (by decide) ?_
          refine kw_iadd dX7_sticks_160 ⟨by omega, by omega⟩ ?_
          refine kw_istore_n dX7_sticks_161 (by decide) trivial (L2 := [some (kA (45)), some (kI (w)), some (kI (v)), some (kI (N + 1)), some (kI (fo)), some (kI (x)), some (kI (sWt (f 47) x (f 47 0).toNat)), some (kI (y)), some (kI (f 47 0)), o]) rfl ?_
          refine kw_iload dX7_sticks_162 rfl ?_
          refine kw_if_eq (tgt := 178) dX7_sticks_164 (by decide) (fun h7 => ?_) (fun h7 => ?_)
          · refine kw_iload dX7_sticks_178 rfl ?_
            refine kw_istore dX7_sticks_180 (by decide) trivial (L2 := [some (kA (45)), some (kI (w)), some (kI (v)), some (kI (N + 1)), some (kI (fo)), some (kI (x)), some (kI (sWt (f 47) x (f 47 0).toNat)), some (kI (y)), some (kI (f 47 0)), o]) rfl ?_
            refine kw_iinc dX7_sticks_182 (by decide) rfl ⟨by omega, by omega⟩ trivial (L2 := [some (kA (45)), some (kI (w)), some (kI (v)), some (kI (N + 1)), some (kI (fo)), some (kI (x + (-1))), some (kI (sWt (f 47) x (f 47 0).toNat)), some (kI (y)), some (kI (f 47 0)), o]) rfl ?_
            refine kw_goto (tgt := 39) dX7_sticks_185 (by decide) ?_
            exfalso
            omega
          · refine kw_iload dX7_sticks_167 rfl ?_
            refine kw_iload_n dX7_sticks_169 rfl ?_
            refine kw_icmp_ne (tgt := 178) dX7_sticks_170 (by decide) (fun h8 => ?_) (fun h8 => ?_)
            · refine kw_iload dX7_sticks_178 rfl ?_
              refine kw_istore dX7_sticks_180 (by decide) trivial (L2 := [some (kA (45)), some (kI (w)), some (kI (v)), some (kI (N + 1)), some (kI (fo)), some (kI (x)), some (kI (sWt (f 47) x (f 47 0).toNat)), some (kI (y)), some (kI (f 47 0)), o]) rfl ?_
              refine kw_iinc dX7_sticks_182 (by decide) rfl ⟨by omega, by omega⟩ trivial (L2 := [some (kA (45)), some (kI (w)), some (kI (v)), some (kI (N + 1)), some (kI (fo)), some (kI (x + (-1))), some (kI (sWt (f 47) x (f 47 0).toNat)), some (kI (y)), some (kI (f 47 0)), o]) rfl ?_
              refine kw_goto (tgt := 39) dX7_sticks_185 (by decide) ?_
              exfalso
              omega
            · refine kw_iload dX7_sticks_173 rfl ?_
              refine kw_goto (tgt := 180) dX7_sticks_175 (by decide) ?_
              refine kw_istore dX7_sticks_180 (by decide) trivial (L2 := [some (kA (45)), some (kI (w)), some (kI (v)), some (kI (N + 1)), some (kI (x)), some (kI (x)), some (kI (sWt (f 47) x (f 47 0).toNat)), some (kI (y)), some (kI (f 47 0)), o]) rfl ?_
              refine kw_iinc dX7_sticks_182 (by decide) rfl ⟨by omega, by omega⟩ trivial (L2 := [some (kA (45)), some (kI (w)), some (kI (v)), some (kI (N + 1)), some (kI (x)), some (kI (x + (-1))), some (kI (sWt (f 47) x (f 47 0).toNat)), some (kI (y)), some (kI (f 47 0)), o]) rfl ?_
              refine kw_goto (tgt := 39) dX7_sticks_185 (by decide) ?_
              have oc : oStk (f 47) s w x = true := (oStk_y zy).mpr ⟨by omega, by omega⟩
              have e3 := sCnt_s (c := oStk (f 47) s w) (i := x) (by omega)
              rw [oc] at e3
              rw [if_pos rfl] at e3
              have e4 : kFirst (fun x => oStk (f 47) s w x = true) (P - (x + (-1) + 1)).toNat (x + (-1) + 1) = x := by
                rw [show x + (-1) + 1 = x by omega, show (P - x).toNat = (P - (x + 1)).toNat + 1 by omega, kFirst]
                rw [if_pos oc]
              exact ih (x + (-1)) _ _ (_, _, _, _) ⟨by omega, by omega⟩ (by omega) (by rw [show x + (-1) + 1 = x by omega]; omega) e4.symm
theorem c_msticks {E : kEnv} {f : Nat → Int → Int} {s : Int → Int} {g : Nat → Int → Option Nat} {w v : Int} (hm : kGM g) (hT : mTO (f 47)) (hS : mSO (f 47) s) (h28 : 0 ≤ s 28 ∧ s 28 ≤ 99) : kF E 1 M_X7_sticks [kA (45), kI (w), kI (v)] ((kMC ++ kMM), kst f 50 s, g) (some (kI (sSticks (f 47) s w v))) ((kMC ++ kMM), kst f 50 s, g) := by
  refine kF_of (by decide) (by simp [k_one]) (Nat.le_of_ble_eq_true rfl) (L := [some (kA (45)), some (kI (w)), some (kI (v)), none, none, none, none, none, none, none]) rfl ?_
  have n0 := hT.1
  have n1 := hT.2.1
  obtain ⟨p1, p2, p3⟩ := k_p8 hT
  refine kw_iload_n dX7_sticks_0 rfl ?_
  refine kw_iconst dX7_sticks_1 ⟨by decide, by decide⟩ ?_
  refine kw_bipush dX7_sticks_2 (by decide) (by decide) ?_
  refine kv_callS1 (M2 := M_X7_in) (As := [kI (w), kI (0), kI (99)]) dX7_sticks_4 ml_X7_54 q_X7_in rfl (Nat.le_of_ble_eq_true rfl) (c_min) (by omega) ?_
  refine kv_ifeqB (tgt := 19) dX7_sticks_7 (by decide) (fun h1 => ?_) (fun h1 => ?_)
  · refine kw_iconst dX7_sticks_19 ⟨by decide, by decide⟩ ?_
    exact kv_ri dX7_sticks_20 rfl (Eq.symm (by unfold sSticks; rw [if_neg (by omega)])) rfl
  · refine kw_iload_n dX7_sticks_10 rfl ?_
    refine kw_iconst dX7_sticks_11 ⟨by decide, by decide⟩ ?_
    refine kw_iconst dX7_sticks_12 ⟨by decide, by decide⟩ ?_
    refine kv_callS1 (M2 := M_X7_in) (As := [kI (v), kI (0), kI (1)]) dX7_sticks_13 ml_X7_54 q_X7_in rfl (Nat.le_of_ble_eq_true rfl) (c_min) (by omega) ?_
    refine kv_ifneB (tgt := 21) dX7_sticks_16 (by decide) (fun h2 => ?_) (fun h2 => ?_)
    · refine kw_iconst dX7_sticks_21 ⟨by decide, by decide⟩ ?_
      refine kw_istore_n dX7_sticks_22 (by decide) trivial (L2 := [some (kA (45)), some (kI (w)), some (kI (v)), some (kI (0)), none, none, none, none, none, none]) rfl ?_
      refine kw_bipush dX7_sticks_23 (by decide) (by decide) ?_
      refine kw_istore dX7_sticks_25 (by decide) trivial (L2 := [some (kA (45)), some (kI (w)), some (kI (v)), some (kI (0)), some (kI (-4)), none, none, none, none, none]) rfl ?_
      refine kw_iconst dX7_sticks_27 ⟨by decide, by decide⟩ ?_
      refine kw_aload_n dX7_sticks_28 rfl ?_
      refine kv_getR (b := 47) dX7_sticks_29 kf_X7_13 rfl rfl rfl (hm (45, 2, 47) (by decide)) ?_
      refine kw_iconst dX7_sticks_32 ⟨by decide, by decide⟩ ?_
      refine kv_iald dX7_sticks_33 rfl (by omega) (by omega) (congrFun (kst_ne (by decide)) _) ?_
      refine kv_shl1 dX7_sticks_34 (by omega) (by omega) ?_
      refine kw_iconst dX7_sticks_35 ⟨by decide, by decide⟩ ?_
      refine kw_isub dX7_sticks_36 ⟨by omega, by omega⟩ ?_
      refine kw_istore dX7_sticks_37 (by decide) trivial (L2 := [some (kA (45)), some (kI (w)), some (kI (v)), some (kI (0)), some (kI (-4)), some (kI ((2 ^ (f 47 0).toNat) - 1)), none, none, none, none]) rfl ?_
      refine l_msticks2 hm hT hS h28 rfl (by omega) _ (2 ^ (f 47 0).toNat - 1) 0 (-4) (none, none, none, none) ⟨by omega, by omega⟩ (Nat.lt_succ_self _) ?_ ?_
      · rw [show ((2 : Int) ^ (f 47 0).toNat - 1 + 1).toNat = 2 ^ (f 47 0).toNat by omega]
        omega
      · rw [show ((((2 ^ (f 47 0).toNat : Nat) : Int)) - ((2 : Int) ^ (f 47 0).toNat - 1 + 1)).toNat = 0 by omega]
        rfl
    · refine kw_iconst dX7_sticks_19 ⟨by decide, by decide⟩ ?_
      exact kv_ri dX7_sticks_20 rfl (Eq.symm (by unfold sSticks; rw [if_neg (by omega)])) rfl
