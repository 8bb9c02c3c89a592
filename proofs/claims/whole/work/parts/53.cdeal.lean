/-! the class: the best way is found -/
section KW13
variable {E : kEnv} {d mc ms d2 : Nat} {M M2 : kMd} {pc idx : Nat} {L : kLs} {S S0 As : List kV} {m : List (Nat × Nat)} {g : Nat → Int → Option Nat} {h : kH} {Q : Option kV → kH → Prop} {P : (Nat → Int → Int) → Prop}
theorem kv_callS0E (hd : decode M.2.1 pc = .ok (.invokestatic idx, 3)) (hlk : Cond.methodLink M.1.cls idx M2.1 ∈ k_KT) (q : k_qS M2 As.length) (hs0 : S0 = As.reverse ++ S) (hwd : (S.map k_wd).sum ≤ 8) (hc : kFE E d2 M2 As h none m P g) (hd2 : d2 + 1 ≤ d)
    (k : ∀ f2, P f2 → kW E d mc ms M (pc + 3) L S (m, f2, g) Q) : kW E d mc ms M pc L S0 h Q := kw_callS hd hlk q hs0 hwd hc hd2 (Nat.le_refl _) (Nat.le_refl _) (fun r h' z => by obtain ⟨rfl, f2, rfl, z2⟩ := z; exact k f2 z2)
end KW13
def dSt (T s : Int → Int) (f : Nat → Int → Int) : Prop := (∀ k : Nat, k < tn T → f 7 (k : Int) = T (21 + (k : Int))) ∧ (∀ k : Nat, k < 8 → (0 ≤ f 40 (k : Int) ∧ f 40 (k : Int) < 256) ∧ (tn T ≤ k → f 40 (k : Int) = 0) ∧ ∀ i : Nat, i < 4 → (kbit (f 40 (k : Int)) (i : Int) = 1 ↔ k < tn T ∧ i < tm T ∧ mCan T s (i : Int) (k : Int))) ∧ f 41 8 = 0 ∧ (∀ k : Nat, k < 8 → f 41 (k : Int) = f 41 ((k : Int) + 1) + (if f 40 (k : Int) = 0 then 0 else f 7 (k : Int)))
def dBe (T s : Int → Int) (f : Nat → Int → Int) (c : Nat) : Prop := f 39 6 = (bst T s c).1 ∧ (0 ≤ (bst T s c).1 → ∀ k : Nat, k < tn T → f 44 (k : Int) = ow T (dd T (bst T s c).2 k))
def dEq (b : Nat) (f0 f : Nat → Int → Int) : Prop := (∀ a : Nat, a ≠ 39 → a ≠ 42 → a ≠ 43 → a ≠ 44 → f a = f0 a) ∧ f 42 = f0 42 ∧ ∀ k : Nat, k < b → f 43 (k : Int) = f0 43 (k : Int)
def dPr (T s : Int → Int) (f : Nat → Int → Int) (b q : Nat) : Prop := dSt T s f ∧ (∀ i : Nat, i < 4 → f 42 (i : Int) = fr T s b q i) ∧ (∀ k : Nat, k < min b (tn T) → f 43 (k : Int) = ow T (dd T (lo T b q) k)) ∧ fzB T s (lo T b q) (min b (tn T)) = true ∧ dBe T s f (lo T b q)
theorem dEq_rf {b : Nat} {f : Nat → Int → Int} : dEq b f f := ⟨fun _ _ _ _ _ => rfl, rfl, fun _ _ => rfl⟩
theorem dSt_mono {T s : Int → Int} {f f2 : Nat → Int → Int} (h : dSt T s f) (h7 : f2 7 = f 7) (h40 : f2 40 = f 40) (h41 : f2 41 = f 41) : dSt T s f2 := by
  unfold dSt
  rw [h7, h40, h41]
  exact h
theorem dBe_eq {T s : Int → Int} {f : Nat → Int → Int} {c c2 : Nat} (h : dBe T s f c) (e : bst T s c2 = bst T s c) : dBe T s f c2 := by
  unfold dBe
  rw [e]
  exact h
theorem dBe_mono {T s : Int → Int} {f f2 : Nat → Int → Int} {c : Nat} (h : dBe T s f c) (h39 : f2 39 = f 39) (h44 : f2 44 = f 44) : dBe T s f2 c := by
  unfold dBe
  rw [h39, h44]
  exact h
theorem dSt_rest {T s : Int → Int} {f : Nat → Int → Int} (hT : mTO T) (h : dSt T s f) : ∀ j b : Nat, b + j = 8 → (0 ≤ f 41 (b : Int) ∧ f 41 (b : Int) ≤ 20 * j) ∧ ∀ c, fzB T s c (tn T) = true → gsm (dN T c) T (tn T) - gsm (dN T c) T (min b (tn T)) ≤ f 41 (b : Int)
  | 0, b, e => by
    have n0 := hT.1
    have w3 := tmn T
    rw [show b = 8 by omega, show ((8 : Nat) : Int) = 8 from rfl, h.2.2.1]
    exact ⟨by omega, fun c _ => by rw [show min 8 (tn T) = tn T by omega]; omega⟩
  | j + 1, b, e => by
    have n0 := hT.1
    have n1 := hT.2.1
    have w3 := tmn T
    obtain ⟨i1, i2⟩ := dSt_rest hT h j (b + 1) (by omega)
    have r1 := h.2.2.2 b (by omega)
    obtain ⟨t1, t2, t3⟩ := h.2.1 b (by omega)
    rw [show ((b + 1 : Nat) : Int) = (b : Int) + 1 from rfl] at i1 i2
    by_cases hb : b < tn T
    · have w1 := h.1 b hb
      have w2 := (hT.2.2.2.2.2.1 (b : Int) (by omega) (by omega)).2.2
      refine ⟨by rw [r1]; split <;> omega, fun c hc => ?_⟩
      have z := i2 c hc
      rw [show min (b + 1) (tn T) = b + 1 by omega, gsm] at z
      rw [show min b (tn T) = b by omega, r1]
      by_cases hd : dN T c b = true
      · rw [if_pos hd] at z
        have y : fzB T s c (b + 1) = true := fzB_mono (tn T - (b + 1)) (by rw [show b + 1 + (tn T - (b + 1)) = tn T by omega]; exact hc)
        rw [fzB, Bool.and_eq_true, hd] at y
        have y2 := y.2
        simp only [Bool.not_true, Bool.false_or, Bool.and_eq_true, decide_eq_true_eq] at y2
        have y3 : dd T c b < tm T := of_decide_eq_true hd
        have y4 := (t3 (dd T c b) (by omega)).mpr ⟨hb, y3, y2.1⟩
        rw [if_neg (fun q => by rw [q] at y4; simp [kbit] at y4)]
        omega
      · rw [if_neg hd] at z
        split <;> omega
    · have e0 := t2 (by omega)
      rw [if_pos e0] at r1
      refine ⟨by omega, fun c hc => ?_⟩
      have z := i2 c hc
      rw [show min b (tn T) = min (b + 1) (tn T) by omega]
      omega
theorem dd_skip {T s : Int → Int} {b q i : Nat} (hT : mTO T) (h : ¬ (b < tn T ∧ i < tm T ∧ mCan T s (i : Int) (b : Int) ∧ T (21 + (b : Int)) ≤ fr T s b q i)) : bst T s (lo T (b + 1) (ch T b q (min (i + 1) (tm T)))) = bst T s (lo T (b + 1) (ch T b q (min i (tm T)))) := by
  by_cases hb : b < tn T
  · by_cases hi : i < tm T
    · rw [show min (i + 1) (tm T) = i + 1 by omega, show min i (tm T) = i by omega]
      exact bst_inf hT hb hi (fun z => h ⟨hb, hi, z⟩)
    · rw [show min (i + 1) (tm T) = min i (tm T) by omega]
  · unfold ch
    rw [if_neg hb, if_neg hb]
theorem dPr_child {T s : Int → Int} {f fc : Nat → Int → Int} {b q i : Nat} (hP : dPr T s f b q) (he : dEq b f fc) (hb : b < tn T) (hb8 : b < 8) (hi : i < tm T) (hc : mCan T s (i : Int) (b : Int)) (hw : T (21 + (b : Int)) ≤ fr T s b q i) (hbe : dBe T s fc (lo T (b + 1) (ch T b q i))) {x : Int} (hx : x = fc 42 (i : Int) - f 7 (b : Int)) : dPr T s (k_u (k_u fc 42 (i : Int) x) 43 (b : Int) (i : Int)) (b + 1) (ch T b q i) := by
  obtain ⟨p1, p2, p3, p4, p5⟩ := hP
  have w3 := tmn T
  refine ⟨dSt_mono p1 ?_ ?_ ?_, fun i2 h2 => ?_, fun k hk => ?_, ?_, dBe_mono hbe ?_ ?_⟩
  · rw [show k_u (k_u fc 42 (i : Int) x) 43 (b : Int) (i : Int) 7 = fc 7 from by funext j; rw [k_u_ne (by decide), k_u_ne (by decide)]]; exact he.1 7 (by decide) (by decide) (by decide) (by decide)
  · rw [show k_u (k_u fc 42 (i : Int) x) 43 (b : Int) (i : Int) 40 = fc 40 from by funext j; rw [k_u_ne (by decide), k_u_ne (by decide)]]; exact he.1 40 (by decide) (by decide) (by decide) (by decide)
  · rw [show k_u (k_u fc 42 (i : Int) x) 43 (b : Int) (i : Int) 41 = fc 41 from by funext j; rw [k_u_ne (by decide), k_u_ne (by decide)]]; exact he.1 41 (by decide) (by decide) (by decide) (by decide)
  · rw [k_u_ne (by decide), ch_fr (by omega)]
    have e2 : fc 42 (i2 : Int) = fr T s b q i2 := by rw [he.2.1]; exact p2 i2 h2
    by_cases e : i = i2
    · subst e
      rw [k_u_self, if_pos ⟨hb, hi, rfl⟩, hx, e2, p1.1 b hb]
    · rw [k_u_ne2 (by omega), if_neg (fun z => e z.2.2), e2]; omega
  · by_cases e : k = b
    · subst e
      rw [k_u_self, show dd T (lo T (k + 1) (ch T k q i)) k = i from ch_b (r := 0) hb (by omega) tM_pos]
      unfold ow
      rw [if_pos hi]
    · rw [k_u_ne2 (by omega), k_u_ne (by decide), he.2.2 k (by omega), p3 k (by omega), show dd T (lo T (b + 1) (ch T b q i)) k = dd T (lo T b q) k from ch_same (r := 0) (by omega) tM_pos (by omega) (by omega)]
  · exact ch_fz (by omega) p4 (fun _ _ => ⟨hc, hw⟩)
  · funext j; rw [k_u_ne (by decide), k_u_ne (by decide)]
  · funext j; rw [k_u_ne (by decide), k_u_ne (by decide)]
theorem dPr_none {T s : Int → Int} {f fc : Nat → Int → Int} {b q : Nat} (hP : dPr T s f b q) (he : dEq b f fc) (hbe : dBe T s fc (lo T (b + 1) (ch T b q (tm T)))) : dPr T s (k_u fc 43 (b : Int) (-4)) (b + 1) (ch T b q (tm T)) := by
  obtain ⟨p1, p2, p3, p4, p5⟩ := hP
  have w3 := tmn T
  refine ⟨dSt_mono p1 ?_ ?_ ?_, fun i2 h2 => ?_, fun k hk => ?_, ?_, dBe_mono hbe ?_ ?_⟩
  · rw [show k_u fc 43 (b : Int) (-4) 7 = fc 7 from by funext j; rw [k_u_ne (by decide)]]; exact he.1 7 (by decide) (by decide) (by decide) (by decide)
  · rw [show k_u fc 43 (b : Int) (-4) 40 = fc 40 from by funext j; rw [k_u_ne (by decide)]]; exact he.1 40 (by decide) (by decide) (by decide) (by decide)
  · rw [show k_u fc 43 (b : Int) (-4) 41 = fc 41 from by funext j; rw [k_u_ne (by decide)]]; exact he.1 41 (by decide) (by decide) (by decide) (by decide)
  · rw [k_u_ne (by decide), ch_fr (by omega)]
    have e2 : fc 42 (i2 : Int) = fr T s b q i2 := by rw [he.2.1]; exact p2 i2 h2
    rw [if_neg (fun z => by omega), e2]; omega
  · by_cases e : k = b
    · subst e
      rw [k_u_self, show dd T (lo T (k + 1) (ch T k q (tm T))) k = tm T from ch_b (r := 0) (by omega) (by omega) tM_pos]
      unfold ow
      rw [if_neg (by omega)]
    · rw [k_u_ne2 (by omega), he.2.2 k (by omega), p3 k (by omega), show dd T (lo T (b + 1) (ch T b q (tm T))) k = dd T (lo T b q) k from ch_same (r := 0) (by omega) tM_pos (by omega) (by omega)]
  · exact ch_fz (by omega) p4 (fun _ z => by omega)
  · funext j; rw [k_u_ne (by decide)]
  · funext j; rw [k_u_ne (by decide)]
/-- a whole way: it is kept if it is better -/
theorem dBe_leaf {T s : Int → Int} {f : Nat → Int → Int} {q : Nat} (hT : mTO T) (hP : dPr T s f 8 q) : dBe T s (if f 39 6 < had T 8 q then k_cp (k_u f 39 6 (had T 8 q)) 43 44 0 0 8 else f) (lo T 8 (q + 1)) := by
  have n0 := hT.1
  have w3 := tmn T
  obtain ⟨p1, p2, p3, p4, p5⟩ := hP
  have e1 : lo T 8 q = q := by unfold lo; rw [KK_e (by omega), Nat.one_mul]
  have e2 : lo T 8 (q + 1) = q + 1 := by unfold lo; rw [KK_e (by omega), Nat.one_mul]
  rw [show min 8 (tn T) = tn T by omega] at p3 p4
  rw [e1] at p3 p4 p5
  have e3 : had T 8 q = val T s q := by
    unfold had val
    rw [e1, if_pos p4, show min 8 (tn T) = tn T by omega]
  rw [e2, e3]
  unfold dBe
  rw [bst_s, p5.1]
  by_cases h : (bst T s q).1 < val T s q
  · rw [if_pos h, if_pos h]
    refine ⟨?_, fun _ k hk => ?_⟩
    · unfold k_cp
      rw [if_neg (by decide), k_u_self]
    · unfold k_cp
      rw [if_pos (by omega), k_u_ne (by decide)]
      simp only [Int.sub_zero, Int.zero_add, Int.add_zero]
      exact p3 k hk
  · rw [if_neg h, if_neg h]
    exact p5
theorem dEq_leaf {f : Nat → Int → Int} {x : Int} : dEq 8 f (if f 39 6 < x then k_cp (k_u f 39 6 x) 43 44 0 0 8 else f) := by
  split
  · refine ⟨fun a h1 h2 h3 h4 => ?_, ?_, fun k hk => ?_⟩
    · funext j; unfold k_cp; rw [if_neg (fun z => h4 z.1), k_u_ne h1]
    · funext j; unfold k_cp; rw [if_neg (fun z => absurd z.1 (by decide)), k_u_ne (by decide)]
    · unfold k_cp; rw [if_neg (fun z => absurd z.1 (by decide)), k_u_ne (by decide)]
  · exact dEq_rf
theorem c_keepBetter {E : kEnv} {w : List (Nat × Nat)} {f : Nat → Int → Int} {g : Nat → Int → Option Nat} {x : Int} (hg : kG g) : kF E 1 M_X1_keepIfBetter [kA (39), kI (x)] ((kMC ++ w), f, g) (none) ((kMC ++ w), (if f 39 6 < x then k_cp (k_u f 39 6 x) 43 44 0 0 8 else f), g) := by
  refine kF_of (by decide) (by simp [k_one]) (Nat.le_of_ble_eq_true rfl) (L := [some (kA (39)), some (kI (x))]) rfl ?_
  refine kw_iload_n dX1_keepIfBetter_0 rfl ?_
  refine kw_aload_n dX1_keepIfBetter_1 rfl ?_
  refine kv_getI (kz := 6) dX1_keepIfBetter_2 kf_X1_56 rfl rfl rfl rfl ?_
  refine kw_icmp_le (tgt := 28) dX1_keepIfBetter_5 (by decide) (fun h1 => ?_) (fun h1 => ?_)
  · exact kv_rv dX1_keepIfBetter_28 rfl (by first | rw [if_pos (by omega)] | rw [if_neg (by omega)])
  · refine kw_aload_n dX1_keepIfBetter_8 rfl ?_
    refine kw_iload_n dX1_keepIfBetter_9 rfl ?_
    refine kv_putI (kz := 6) dX1_keepIfBetter_10 kp_X1_56 rfl rfl (fun h => by cases h) rfl ?_
    refine kw_aload_n dX1_keepIfBetter_13 rfl ?_
    refine kv_getR (b := 43) dX1_keepIfBetter_14 kf_X1_21 rfl rfl rfl (hg (39, 4, 43) (by decide)) ?_
    refine kw_iconst dX1_keepIfBetter_17 ⟨by decide, by decide⟩ ?_
    refine kw_aload_n dX1_keepIfBetter_18 rfl ?_
    refine kv_getR (b := 44) dX1_keepIfBetter_19 kf_X1_24 rfl rfl rfl (hg (39, 5, 44) (by decide)) ?_
    refine kw_iconst dX1_keepIfBetter_22 ⟨by decide, by decide⟩ ?_
    refine kw_bipush dX1_keepIfBetter_23 (by decide) (by decide) ?_
    refine kv_copy dX1_keepIfBetter_25 ml_X1_81 rfl rfl (by omega) (by omega) (by omega) (by omega) (by omega) (Nat.le_of_ble_eq_true rfl) (by omega) ?_
    exact kv_rv dX1_keepIfBetter_28 rfl (by first | rw [if_pos (by omega)] | rw [if_neg (by omega)])
theorem c_whoHas {E : kEnv} {w : List (Nat × Nat)} {f : Nat → Int → Int} {g : Nat → Int → Option Nat} {b : Int} (hg : kG g) (hb : 0 ≤ b ∧ b < 8) : kF E 0 M_X1_whoHas [kA (39), kI (b)] ((kMC ++ w), f, g) (some (kI (f 44 b))) ((kMC ++ w), f, g) := by
  refine kF_of (by decide) (by simp [k_one]) (Nat.le_of_ble_eq_true rfl) (L := [some (kA (39)), some (kI (b))]) rfl ?_
  refine kw_iload_n dX1_whoHas_0 rfl ?_
  refine kw_if_lt (tgt := 22) dX1_whoHas_1 (by decide) (fun h1 => ?_) (fun h1 => ?_)
  · refine kw_bipush dX1_whoHas_22 (by decide) (by decide) ?_
    exact kv_ri dX1_whoHas_24 rfl (by first | rfl | omega | (split <;> omega) | ((repeat' split) <;> omega) | grind) (by first | rfl | rw [if_pos (by omega)] | rw [if_neg (by omega)] | grind)
  · refine kw_iload_n dX1_whoHas_4 rfl ?_
    refine kw_aload_n dX1_whoHas_5 rfl ?_
    refine kv_getR (b := 44) dX1_whoHas_6 kf_X1_24 rfl rfl rfl (hg (39, 5, 44) (by decide)) ?_
    refine kv_alen dX1_whoHas_9 rfl (by decide) ?_
    refine kw_icmp_ge (tgt := 22) dX1_whoHas_10 (by decide) (fun h2 => ?_) (fun h2 => ?_)
    · refine kw_bipush dX1_whoHas_22 (by decide) (by decide) ?_
      exact kv_ri dX1_whoHas_24 rfl (by first | rfl | omega | (split <;> omega) | ((repeat' split) <;> omega) | grind) (by first | rfl | rw [if_pos (by omega)] | rw [if_neg (by omega)] | grind)
    · refine kw_aload_n dX1_whoHas_13 rfl ?_
      refine kv_getR (b := 44) dX1_whoHas_14 kf_X1_24 rfl rfl rfl (hg (39, 5, 44) (by decide)) ?_
      refine kw_iload_n dX1_whoHas_17 rfl ?_
      refine kv_iald dX1_whoHas_18 rfl (by omega) (by omega) rfl ?_
      refine kw_goto (tgt := 24) dX1_whoHas_19 (by decide) ?_
      exact kv_ri dX1_whoHas_24 rfl (by first | rfl | omega | (split <;> omega) | ((repeat' split) <;> omega) | grind) (by first | rfl | rw [if_pos (by omega)] | rw [if_neg (by omega)] | grind)
theorem l_deal {E : kEnv} {w : List (Nat × Nat)} {f : Nat → Int → Int} {g : Nat → Int → Option Nat} {T s : Int → Int} {b q : Nat} (hg : kG g) (hT : mTO T) (hS : mSO T s) (hC : mCO T s) (hb8 : b < 8) (hP : dPr T s f b q) (hIH : ∀ (q : Nat) (f : Nat → Int → Int), dPr T s f (b + 1) q → kFE E (10 - (b + 1)) M_X1_deal [kA 39, kI ((b + 1 : Nat) : Int), kI (had T (b + 1) q), kI (fa T s (b + 1) q)] ((kMC ++ w), f, g) none (kMC ++ w) (fun f2 => dEq (b + 1) f f2 ∧ dBe T s f2 (lo T (b + 1) (q + 1))) g) : ∀ (n i : Nat) (fc : Nat → Int → Int), i ≤ 4 → 4 - i < n → dEq b f fc → dBe T s fc (lo T (b + 1) (ch T b q (min i (tm T)))) → kW E (10 - b) 0 0 M_X1_deal 49 [some (kA 39), some (kI (b : Int)), some (kI (had T b q)), some (kI (fa T s b q)), some (kI (f 7 (b : Int))), some (kI (i : Int))] [] ((kMC ++ w), fc, g) (fun r h' => r = none ∧ ∃ f2, h' = ((kMC ++ w), f2, g) ∧ (fun f2 => dEq b f f2 ∧ dBe T s f2 (lo T b (q + 1))) f2) := by
  intro n
  induction n with
  | zero => intro i fc _ y; omega
  | succ n ih =>
    intro i fc y0 y1 he hbe
    have n0 := hT.1
    have n1 := hT.2.1
    have w3 := tmn T
    have hP0 := hP
    obtain ⟨p1, p2, p3, p4, p5⟩ := hP0
    have e40 : fc 40 = f 40 := he.1 40 (by decide) (by decide) (by decide) (by decide)
    have e41 := congrFun e40 (b : Int)
    have e42 := congrFun he.2.1 (i : Int)
    obtain ⟨t00, -, t0⟩ := p1.2.1 b hb8
    rw [← e41] at t00 t0
    have z := k_divb (b := (i : Int)) t00.1 t00.2
    have z2 := z.2
    have hh0 : 0 ≤ had T b q ∧ had T b q ≤ 20 * ((min b (tn T) : Nat) : Int) := gsm_rng (p := dN T (lo T b q)) hT (min b (tn T)) (by omega)
    have g0 := fr_rng (i := 0) hT hS hC p4
    have g1 := fr_rng (i := 1) hT hS hC p4
    have g2 := fr_rng (i := 2) hT hS hC p4
    have g3 := fr_rng (i := 3) hT hS hC p4
    have hfa : 0 ≤ fa T s b q ∧ fa T s b q ≤ 160 := by unfold fa; omega
    have en1 : had T (b + 1) (ch T b q (tm T)) = had T b q := by rw [ch_had (by omega), if_neg (by omega), Int.add_zero]
    have en2 : fa T s (b + 1) (ch T b q (tm T)) = fa T s b q := by
      unfold fa
      rw [ch_fr (by omega), ch_fr (by omega), ch_fr (by omega), ch_fr (by omega), if_neg (by omega), if_neg (by omega), if_neg (by omega), if_neg (by omega)]
      omega
    refine kw_iload dX1_deal_49 rfl ?_
    refine kw_iconst dX1_deal_51 ⟨by decide, by decide⟩ ?_
    refine kw_icmp_ge (tgt := 135) dX1_deal_52 (by decide) (fun h1 => ?_) (fun h1 => ?_)
    · refine kw_aload_n dX1_deal_135 rfl ?_
      refine kv_getR (b := 43) dX1_deal_136 kf_X1_21 rfl rfl rfl (hg (39, 4, 43) (by decide)) ?_
      refine kw_iload_n dX1_deal_139 rfl ?_
      refine kw_bipush dX1_deal_140 (by decide) (by decide) ?_
      refine kv_iast dX1_deal_142 rfl (by omega) (by omega) ?_
      refine kw_aload_n dX1_deal_143 rfl ?_
      refine kw_iload_n dX1_deal_144 rfl ?_
      refine kw_iconst dX1_deal_145 ⟨by decide, by decide⟩ ?_
      refine kw_iadd dX1_deal_146 ⟨by omega, by omega⟩ ?_
      refine kw_iload_n dX1_deal_147 rfl ?_
      refine kw_iload_n dX1_deal_148 rfl ?_
      refine kv_callS0E (M2 := M_X1_deal) (As := [kA (39), kI (((b : Int)) + 1), kI (had T b q), kI (fa T s b q)]) dX1_deal_149 ml_X1_60 q_X1_deal rfl (Nat.le_of_ble_eq_true rfl) ((by have z := hIH (ch T b q (tm T)) _ (dPr_none hP he (by rw [show tm T = min i (tm T) by omega]; exact hbe)); rw [en1, en2] at z; exact z)) (by omega) (fun f9 hf9 => ?_)
      obtain ⟨u1, u2⟩ := hf9
      refine kv_rvE dX1_deal_152 rfl ⟨⟨fun a h1 h2 h3 h4 => ?_, ?_, fun k hk => ?_⟩, ?_⟩
      · rw [u1.1 a h1 h2 h3 h4, show k_u fc 43 (b : Int) (-4) a = fc a from by funext j; exact k_u_ne h3]; exact he.1 a h1 h2 h3 h4
      · rw [u1.2.1, show k_u fc 43 (b : Int) (-4) 42 = fc 42 from by funext j; exact k_u_ne (by decide)]; exact he.2.1
      · rw [u1.2.2 k (by omega), k_u_ne2 (by omega)]; exact he.2.2 k hk
      · have z : lo T (b + 1) (ch T b q (tm T) + 1) = lo T b (q + 1) := ch_m
        rw [← z]; exact u2
    · refine kw_aload_n dX1_deal_55 rfl ?_
      refine kv_getR (b := 40) dX1_deal_56 kf_X1_9 rfl rfl rfl (hg (39, 1, 40) (by decide)) ?_
      refine kw_iload_n dX1_deal_59 rfl ?_
      refine kv_iald dX1_deal_60 rfl (by omega) (by omega) rfl ?_
      refine kw_iload dX1_deal_61 rfl ?_
      refine kv_shr dX1_deal_63 (by omega) (by omega) (by omega) (by omega) ?_
      refine kw_iconst dX1_deal_64 ⟨by decide, by decide⟩ ?_
      refine kv_and1 dX1_deal_65 (by omega) (by omega) ?_
      refine kw_iconst dX1_deal_66 ⟨by decide, by decide⟩ ?_
      refine kw_icmp_ne (tgt := 129) dX1_deal_67 (by decide) (fun h2 => ?_) (fun h2 => ?_)
      · refine kw_iinc dX1_deal_129 (by decide) rfl ⟨by omega, by omega⟩ trivial (L2 := [some (kA (39)), some (kI ((b : Int))), some (kI (had T b q)), some (kI (fa T s b q)), some (kI (f 7 (b : Int))), some (kI (((i : Int)) + 1))]) rfl ?_
        refine kw_goto (tgt := 49) dX1_deal_132 (by decide) ?_
        refine ih (i + 1) _ (by omega) (by omega) he (dBe_eq hbe (dd_skip hT (fun z => ?_)))
        have z2 := (t0 i (by omega)).mpr ⟨z.1, z.2.1, z.2.2.1⟩
        have z3 := z.2.2.2
        have z4 := p1.1 b z.1
        have z5 := p2 i (by omega)
        unfold kbit at z2
        omega
      · refine kw_iload dX1_deal_70 rfl ?_
        refine kw_aload_n dX1_deal_72 rfl ?_
        refine kv_getR (b := 42) dX1_deal_73 kf_X1_18 rfl rfl rfl (hg (39, 3, 42) (by decide)) ?_
        refine kw_iload dX1_deal_76 rfl ?_
        refine kv_iald dX1_deal_78 rfl (by omega) (by omega) rfl ?_
        refine kw_icmp_gt (tgt := 129) dX1_deal_79 (by decide) (fun h3 => ?_) (fun h3 => ?_)
        · refine kw_iinc dX1_deal_129 (by decide) rfl ⟨by omega, by omega⟩ trivial (L2 := [some (kA (39)), some (kI ((b : Int))), some (kI (had T b q)), some (kI (fa T s b q)), some (kI (f 7 (b : Int))), some (kI (((i : Int)) + 1))]) rfl ?_
          refine kw_goto (tgt := 49) dX1_deal_132 (by decide) ?_
          refine ih (i + 1) _ (by omega) (by omega) he (dBe_eq hbe (dd_skip hT (fun z => ?_)))
          have z2 := (t0 i (by omega)).mpr ⟨z.1, z.2.1, z.2.2.1⟩
          have z3 := z.2.2.2
          have z4 := p1.1 b z.1
          have z5 := p2 i (by omega)
          unfold kbit at z2
          omega
        · have tt := (t0 i (by omega)).mp (by unfold kbit; omega)
          obtain ⟨t1, t2, t3⟩ := tt
          have t5 := p1.1 b t1
          have t6 := p2 i (by omega)
          have t7 := fr_rng (i := i) hT hS hC p4
          have t8 := (hT.2.2.2.2.2.1 (b : Int) (by omega) (by omega)).2.2
          have t4 : T (21 + (b : Int)) ≤ fr T s b q i := by omega
          have ec1 : had T (b + 1) (ch T b q i) = had T b q + f 7 (b : Int) := by rw [ch_had (by omega), if_pos ⟨t1, t2⟩, t5]
          have ec2 : fa T s (b + 1) (ch T b q i) = fa T s b q - f 7 (b : Int) := by
            unfold fa
            rw [ch_fr (by omega), ch_fr (by omega), ch_fr (by omega), ch_fr (by omega), t5]
            rcases (show i = 0 ∨ i = 1 ∨ i = 2 ∨ i = 3 by omega) with e | e | e | e
            · rw [if_pos ⟨t1, by omega, e⟩, if_neg (by omega), if_neg (by omega), if_neg (by omega)]; omega
            · rw [if_neg (by omega), if_pos ⟨t1, by omega, e⟩, if_neg (by omega), if_neg (by omega)]; omega
            · rw [if_neg (by omega), if_neg (by omega), if_pos ⟨t1, by omega, e⟩, if_neg (by omega)]; omega
            · rw [if_neg (by omega), if_neg (by omega), if_neg (by omega), if_pos ⟨t1, by omega, e⟩]; omega
          refine kw_aload_n dX1_deal_82 rfl ?_
          refine kv_getR (b := 42) dX1_deal_83 kf_X1_18 rfl rfl rfl (hg (39, 3, 42) (by decide)) ?_
          refine kw_iload dX1_deal_86 rfl ?_
          refine kw_dup2 dX1_deal_88 trivial trivial ?_
          refine kv_iald dX1_deal_89 rfl (by omega) (by omega) rfl ?_
          refine kw_iload dX1_deal_90 rfl ?_
          refine kw_isub dX1_deal_92 ⟨by omega, by omega⟩ ?_
          refine kv_iast dX1_deal_93 rfl (by omega) (by omega) ?_
          refine kw_aload_n dX1_deal_94 rfl ?_
          refine kv_getR (b := 43) dX1_deal_95 kf_X1_21 rfl rfl rfl (hg (39, 4, 43) (by decide)) ?_
          refine kw_iload_n dX1_deal_98 rfl ?_
          refine kw_iload dX1_deal_99 rfl ?_
          refine kv_iast dX1_deal_101 rfl (by omega) (by omega) ?_
          refine kw_aload_n dX1_deal_102 rfl ?_
          refine kw_iload_n dX1_deal_103 rfl ?_
          refine kw_iconst dX1_deal_104 ⟨by decide, by decide⟩ ?_
          refine kw_iadd dX1_deal_105 ⟨by omega, by omega⟩ ?_
          refine kw_iload_n dX1_deal_106 rfl ?_
          refine kw_iload dX1_deal_107 rfl ?_
          refine kw_iadd dX1_deal_109 ⟨by omega, by omega⟩ ?_
          refine kw_iload_n dX1_deal_110 rfl ?_
          refine kw_iload dX1_deal_111 rfl ?_
          refine kw_isub dX1_deal_113 ⟨by omega, by omega⟩ ?_
          refine kv_callS0E (M2 := M_X1_deal) (As := [kA (39), kI (((b : Int)) + 1), kI ((had T b q) + (f 7 (b : Int))), kI ((fa T s b q) - (f 7 (b : Int)))]) dX1_deal_114 ml_X1_60 q_X1_deal rfl (Nat.le_of_ble_eq_true rfl) ((by have z := hIH (ch T b q i) _ (dPr_child hP he t1 hb8 t2 t3 t4 (by rw [show i = min i (tm T) by omega]; exact hbe) (show fc 42 (i : Int) - f 7 (b : Int) = fc 42 (i : Int) - f 7 (b : Int) from rfl)); rw [ec1, ec2] at z; exact z)) (by omega) (fun f9 hf9 => ?_)
          obtain ⟨u1, u2⟩ := hf9
          have u3 : f9 42 (i : Int) = fc 42 (i : Int) - f 7 (b : Int) := by rw [u1.2.1, k_u_ne (by decide), k_u_self]
          refine kw_aload_n dX1_deal_117 rfl ?_
          refine kv_getR (b := 42) dX1_deal_118 kf_X1_18 rfl rfl rfl (hg (39, 3, 42) (by decide)) ?_
          refine kw_iload dX1_deal_121 rfl ?_
          refine kw_dup2 dX1_deal_123 trivial trivial ?_
          refine kv_iald dX1_deal_124 rfl (by omega) (by omega) rfl ?_
          refine kw_iload dX1_deal_125 rfl ?_
          refine kw_iadd dX1_deal_127 ⟨by omega, by omega⟩ ?_
          refine kv_iast dX1_deal_128 rfl (by omega) (by omega) ?_
          refine kw_iinc dX1_deal_129 (by decide) rfl ⟨by omega, by omega⟩ trivial (L2 := [some (kA (39)), some (kI ((b : Int))), some (kI (had T b q)), some (kI (fa T s b q)), some (kI (f 7 (b : Int))), some (kI (((i : Int)) + 1))]) rfl ?_
          refine kw_goto (tgt := 49) dX1_deal_132 (by decide) ?_
          refine ih (i + 1) _ (by omega) (by omega) ?_ ?_
          · refine ⟨fun a h1 h2 h3 h4 => ?_, ?_, fun k hk => ?_⟩
            · rw [show k_u f9 42 (i : Int) (f9 42 (i : Int) + f 7 (b : Int)) a = f9 a from by funext j; exact k_u_ne h2, u1.1 a h1 h2 h3 h4]
              rw [show k_u (k_u fc 42 (i : Int) (fc 42 (i : Int) - f 7 (b : Int))) 43 (b : Int) (i : Int) a = fc a from by funext j; rw [k_u_ne h3, k_u_ne h2]]
              exact he.1 a h1 h2 h3 h4
            · rw [← he.2.1]
              funext j
              by_cases ej : j = (i : Int)
              · rw [ej, k_u_self, u3]; omega
              · rw [k_u_ne2 ej, u1.2.1, k_u_ne (by decide), k_u_ne2 ej]
            · rw [k_u_ne (by decide), u1.2.2 k (by omega), k_u_ne2 (by omega), k_u_ne (by decide)]
              exact he.2.2 k hk
          · rw [show min (i + 1) (tm T) = i + 1 by omega, ch_s t1]
            refine dBe_mono u2 ?_ ?_
            · funext j; exact k_u_ne (by decide)
            · funext j; exact k_u_ne (by decide)
theorem c_deal {E : kEnv} {w : List (Nat × Nat)} {g : Nat → Int → Option Nat} {T s : Int → Int} (hg : kG g) (hT : mTO T) (hS : mSO T s) (hC : mCO T s) : ∀ (j b q : Nat) (f : Nat → Int → Int), b ≤ 8 → 8 - b < j → dPr T s f b q → kFE E (10 - b) M_X1_deal [kA 39, kI (b : Int), kI (had T b q), kI (fa T s b q)] ((kMC ++ w), f, g) none (kMC ++ w) (fun f2 => dEq b f f2 ∧ dBe T s f2 (lo T b (q + 1))) g := by
  intro j
  induction j with
  | zero => intro b q f _ y; omega
  | succ j ihj =>
    intro b q f hb hj hP
    refine kFE_of (by decide) (by simp [k_one]) (Nat.le_of_ble_eq_true rfl) (L := [some (kA 39), some (kI (b : Int)), some (kI (had T b q)), some (kI (fa T s b q)), none, none]) rfl ?_
    have n0 := hT.1
    have n1 := hT.2.1
    have w3 := tmn T
    have hP0 := hP
    obtain ⟨p1, p2, p3, p4, p5⟩ := hP0
    obtain ⟨r1, r2⟩ := dSt_rest hT p1 (8 - b) b (by omega)
    have hh0 : 0 ≤ had T b q ∧ had T b q ≤ 20 * ((min b (tn T) : Nat) : Int) := gsm_rng (p := dN T (lo T b q)) hT (min b (tn T)) (by omega)
    have g0 := fr_rng (i := 0) hT hS hC p4
    have g1 := fr_rng (i := 1) hT hS hC p4
    have g2 := fr_rng (i := 2) hT hS hC p4
    have g3 := fr_rng (i := 3) hT hS hC p4
    have hfa : 0 ≤ fa T s b q ∧ fa T s b q ≤ 160 := by unfold fa; omega
    refine kw_iload_n dX1_deal_0 rfl ?_
    refine kw_if_lt (tgt := 10) dX1_deal_1 (by decide) (fun h1 => ?_) (fun h1 => ?_)
    · refine kw_aload_n dX1_deal_10 rfl ?_
      refine kw_iload_n dX1_deal_11 rfl ?_
      refine kv_callV0 (M2 := M_X1_keepIfBetter) (As := [kI (had T b q)]) dX1_deal_12 ml_X1_71 q_X1_keepIfBetter rfl rfl rfl (Nat.le_of_ble_eq_true rfl) (c_keepBetter hg) (by omega) ?_
      have e8 : b = 8 := by omega
      subst e8
      exact kv_rvE dX1_deal_15 rfl ⟨dEq_leaf, dBe_leaf hT hP⟩
    · refine kw_iload_n dX1_deal_4 rfl ?_
      refine kw_bipush dX1_deal_5 (by decide) (by decide) ?_
      refine kw_icmp_lt (tgt := 16) dX1_deal_7 (by decide) (fun h2 => ?_) (fun h2 => ?_)
      · refine kw_iload_n dX1_deal_16 rfl ?_
        refine kw_aload_n dX1_deal_17 rfl ?_
        refine kv_getR (b := 41) dX1_deal_18 kf_X1_15 rfl rfl rfl (hg (39, 2, 41) (by decide)) ?_
        refine kw_iload_n dX1_deal_21 rfl ?_
        refine kv_iald dX1_deal_22 rfl (by omega) (by omega) rfl ?_
        refine kw_iload_n dX1_deal_23 rfl ?_
        refine kw_min dX1_deal_24 ml_X1_75 (Nat.le_of_ble_eq_true rfl) (by omega) ?_
        refine kw_iadd dX1_deal_27 ⟨by omega, by omega⟩ ?_
        refine kw_aload_n dX1_deal_28 rfl ?_
        refine kv_getI (kz := 6) dX1_deal_29 kf_X1_56 rfl rfl rfl rfl ?_
        refine kw_icmp_gt (tgt := 36) dX1_deal_32 (by decide) (fun h3 => ?_) (fun h3 => ?_)
        · refine kw_aload_n dX1_deal_36 rfl ?_
          refine kv_getR (b := 4) dX1_deal_37 kf_X1_27 rfl rfl rfl (hg (39, 0, 4) (by decide)) ?_
          refine kw_iload_n dX1_deal_40 rfl ?_
          refine kv_callV1 (M2 := M_X2_weight) (As := [kI ((b : Int))]) dX1_deal_41 ml_X1_53 q_X2_weight rfl rfl rfl (Nat.le_of_ble_eq_true rfl) (show kF E 0 M_X2_weight [kA 4, kI (b : Int)] ((kMC ++ w), f, g) (some (kI (f 7 (b : Int)))) ((kMC ++ w), f, g) from c_weight hg ⟨by omega, by omega⟩) (by omega) ?_
          refine kw_istore dX1_deal_44 (by decide) trivial (L2 := [some (kA (39)), some (kI ((b : Int))), some (kI (had T b q)), some (kI (fa T s b q)), some (kI (f 7 (b : Int))), none]) rfl ?_
          refine kw_iconst dX1_deal_46 ⟨by decide, by decide⟩ ?_
          refine kw_istore dX1_deal_47 (by decide) trivial (L2 := [some (kA (39)), some (kI ((b : Int))), some (kI (had T b q)), some (kI (fa T s b q)), some (kI (f 7 (b : Int))), some (kI (0))]) rfl ?_
          have hb8 : b < 8 := by omega
          exact l_deal hg hT hS hC hb8 hP (fun q f hP => ihj (b + 1) q f (by omega) (by omega) hP) 5 0 f (by omega) (by omega) dEq_rf (by rw [Nat.zero_min, show lo T (b + 1) (ch T b q 0) = lo T b q from ch_0]; exact p5)
        · refine kv_rvE dX1_deal_35 rfl ⟨dEq_rf, dBe_eq p5 (bst_prune hT hC r2 ?_)⟩
          rw [← p5.1]
          by_cases q1 : fa T s b q < f 41 (b : Int)
          · rw [if_pos q1] at h3; exact Or.inr (by omega)
          · rw [if_neg q1] at h3; exact Or.inl (by omega)
      · refine kw_aload_n dX1_deal_10 rfl ?_
        refine kw_iload_n dX1_deal_11 rfl ?_
        refine kv_callV0 (M2 := M_X1_keepIfBetter) (As := [kI (had T b q)]) dX1_deal_12 ml_X1_71 q_X1_keepIfBetter rfl rfl rfl (Nat.le_of_ble_eq_true rfl) (c_keepBetter hg) (by omega) ?_
        have e8 : b = 8 := by omega
        subst e8
        exact kv_rvE dX1_deal_15 rfl ⟨dEq_leaf, dBe_leaf hT hP⟩
