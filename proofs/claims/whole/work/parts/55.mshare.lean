/-! the model: share -/
/-- as `gsm`, of the last j boughs -/
def sfx (p : Nat → Bool) (T : Int → Int) : Nat → Int
  | 0 => 0
  | j + 1 => sfx p T j + (if p (tn T - 1 - j) = true then T (21 + ((tn T - 1 - j : Nat) : Int)) else 0)
theorem sfx_gsm {p : Nat → Bool} {T : Int → Int} : ∀ j : Nat, j ≤ tn T → gsm p T (tn T) = gsm p T (tn T - j) + sfx p T j
  | 0, _ => by rw [Nat.sub_zero, sfx, Int.add_zero]
  | j + 1, h => by
    have ih := sfx_gsm (p := p) (T := T) j (by omega)
    rw [show tn T - j = (tn T - 1 - j) + 1 by omega, gsm] at ih
    rw [show tn T - (j + 1) = tn T - 1 - j by omega, sfx]
    omega
theorem sfx_all {p : Nat → Bool} {T : Int → Int} : sfx p T (tn T) = gsm p T (tn T) := by
  have h := sfx_gsm (p := p) (T := T) (tn T) (Nat.le_refl _)
  rw [Nat.sub_self, gsm] at h
  omega
theorem sfx_rng {p : Nat → Bool} {T : Int → Int} (hT : mTO T) : ∀ j : Nat, j ≤ tn T → 0 ≤ sfx p T j ∧ sfx p T j ≤ 20 * j
  | 0, _ => by simp [sfx]
  | j + 1, h => by
    have w3 := tmn T
    have ih := sfx_rng (p := p) hT j (by omega)
    have t := (hT.2.2.2.2.2.1 ((tn T - 1 - j : Nat) : Int) (by omega) (by omega)).2.2
    rw [sfx]
    split <;> omega
theorem sfx_mono {p : Nat → Bool} {T : Int → Int} (hT : mTO T) {j : Nat} (h : j ≤ tn T) : sfx p T j ≤ gsm p T (tn T) := by
  have w3 := tmn T
  have z := sfx_gsm (p := p) (T := T) j h
  have z2 := (gsm_rng (p := p) hT (tn T - j) (by omega)).1
  omega
theorem gsm_mono {p : Nat → Bool} {T : Int → Int} (hT : mTO T) {b : Nat} : ∀ k : Nat, b + k ≤ tn T → gsm p T b ≤ gsm p T (b + k)
  | 0, _ => Int.le_refl _
  | k + 1, h => by
    have w3 := tmn T
    have ih := gsm_mono (p := p) hT k (b := b) (by omega)
    have t := (hT.2.2.2.2.2.1 ((b + k : Nat) : Int) (by omega) (by omega)).2.2
    rw [← Nat.add_assoc, gsm]
    split <;> omega
/-- the last j boughs of the way c can be had, tried from the last on -/
def fzS (T s : Int → Int) (c : Nat) : Nat → Bool
  | 0 => true
  | j + 1 => fzS T s c j && (!(dN T c (tn T - 1 - j)) || (decide (s (8 + ((tn T - 1 - j : Nat) : Int)) = 0) && oCould T s ((dd T c (tn T - 1 - j) : Nat) : Int) ((tn T - 1 - j : Nat) : Int) (s 28) (s (24 + ((dd T c (tn T - 1 - j) : Nat) : Int)) + sfx (dI T c (dd T c (tn T - 1 - j))) T j)))
theorem fzS_mono {T s : Int → Int} {c j : Nat} : ∀ k : Nat, fzS T s c (j + k) = true → fzS T s c j = true
  | 0, h => h
  | k + 1, h => by
    rw [← Nat.add_assoc, fzS, Bool.and_eq_true] at h
    exact fzS_mono k h.1
/-- the way c can be had -/
def FZ (T s : Int → Int) (c : Nat) : Prop := (∀ k : Nat, k < tn T → dd T c k < tm T → mCan T s ((dd T c k : Nat) : Int) (k : Int)) ∧ ∀ i : Nat, i < tm T → s (24 + (i : Int)) + gsm (dI T c i) T (tn T) ≤ T (29 + (i : Int))
theorem fzB_FZ {T s : Int → Int} {c : Nat} (hT : mTO T) (hC : mCO T s) : fzB T s c (tn T) = true ↔ FZ T s c := by
  have w3 := tmn T
  constructor
  · intro h
    refine ⟨fun k hk hd => ?_, fzB_free hT hC _ h⟩
    have y : fzB T s c (k + 1) = true := fzB_mono (tn T - (k + 1)) (by rw [show k + 1 + (tn T - (k + 1)) = tn T by omega]; exact h)
    rw [fzB, Bool.and_eq_true, show dN T c k = true from decide_eq_true hd] at y
    have y2 := y.2
    simp only [Bool.not_true, Bool.false_or, Bool.and_eq_true, decide_eq_true_eq] at y2
    exact y2.1
  · rintro ⟨h1, h2⟩
    have key : ∀ b, b ≤ tn T → fzB T s c b = true := by
      intro b
      induction b with
      | zero => intro _; rfl
      | succ b ih =>
        intro hb
        rw [fzB, ih (by omega), Bool.true_and]
        by_cases hd : dd T c b < tm T
        · have z := gsm_mono (p := dI T c (dd T c b)) hT (b := b + 1) (tn T - (b + 1)) (by omega)
          rw [show b + 1 + (tn T - (b + 1)) = tn T by omega, gsm, if_pos (show dI T c (dd T c b) b = true from decide_eq_true rfl)] at z
          have z2 := h2 _ hd
          rw [decide_eq_true (h1 b (by omega) hd), decide_eq_true (by omega)]
          simp
        · rw [show dN T c b = false from decide_eq_false hd]
          rfl
    exact key _ (Nat.le_refl _)
theorem fzS_free {T s : Int → Int} {c : Nat} (hT : mTO T) (hC : mCO T s) : ∀ j : Nat, j ≤ tn T → fzS T s c j = true → ∀ i : Nat, i < tm T → s (24 + (i : Int)) + sfx (dI T c i) T j ≤ T (29 + (i : Int))
  | 0, _, _, i, hi => by
    have n1 := hT.2.1
    have w3 := tmn T
    have z := hC i (by omega) (by omega)
    rw [sfx]
    omega
  | j + 1, hj, h, i, hi => by
    rw [fzS, Bool.and_eq_true] at h
    have ih := fzS_free hT hC j (by omega) h.1 i hi
    have z := h.2
    rw [sfx]
    by_cases e : dd T c (tn T - 1 - j) = i
    · rw [show dI T c i (tn T - 1 - j) = true from decide_eq_true e, if_pos rfl]
      rw [show dN T c (tn T - 1 - j) = true from decide_eq_true (by omega), e] at z
      simp only [Bool.not_true, Bool.false_or, Bool.and_eq_true, decide_eq_true_eq, oCould_i] at z
      have z2 := z.2.2.2
      omega
    · rw [show dI T c i (tn T - 1 - j) = false from decide_eq_false e, if_neg (by decide)]
      omega
theorem fzS_FZ {T s : Int → Int} {c : Nat} (hT : mTO T) (hC : mCO T s) : fzS T s c (tn T) = true ↔ FZ T s c := by
  have w3 := tmn T
  have n1 := hT.2.1
  constructor
  · intro h
    refine ⟨fun k hk hd => ?_, fun i hi => by have z := fzS_free hT hC _ (Nat.le_refl _) h i hi; rw [sfx_all] at z; exact z⟩
    have y : fzS T s c ((tn T - 1 - k) + 1) = true := fzS_mono (tn T - (tn T - 1 - k + 1)) (by rw [show tn T - 1 - k + 1 + (tn T - (tn T - 1 - k + 1)) = tn T by omega]; exact h)
    rw [fzS, Bool.and_eq_true, show tn T - 1 - (tn T - 1 - k) = k by omega, show dN T c k = true from decide_eq_true hd] at y
    have y2 := y.2
    simp only [Bool.not_true, Bool.false_or, Bool.and_eq_true, decide_eq_true_eq, oCould_i] at y2
    obtain ⟨q1, q2, q3, q4⟩ := y2
    have q5 := (sfx_rng (p := dI T c (dd T c k)) hT (tn T - 1 - k) (by omega)).1
    exact ⟨q1, q2, q3, by omega⟩
  · rintro ⟨h1, h2⟩
    have key : ∀ j, j ≤ tn T → fzS T s c j = true := by
      intro j
      induction j with
      | zero => intro _; rfl
      | succ j ih =>
        intro hj
        rw [fzS, ih (by omega), Bool.true_and]
        by_cases hd : dd T c (tn T - 1 - j) < tm T
        · have z := sfx_mono (p := dI T c (dd T c (tn T - 1 - j))) hT (j := j + 1) hj
          rw [sfx, if_pos (show dI T c (dd T c (tn T - 1 - j)) (tn T - 1 - j) = true from decide_eq_true rfl)] at z
          have z2 := h2 _ hd
          obtain ⟨q1, q2, q3, q4⟩ := h1 _ (by omega) hd
          rw [decide_eq_true q1, oCould_i.mpr ⟨q2, q3, by omega⟩]
          simp
        · rw [show dN T c (tn T - 1 - j) = false from decide_eq_false hd]
          rfl
    exact key _ (Nat.le_refl _)
theorem fzS_all {T s : Int → Int} {c : Nat} (hT : mTO T) (hC : mCO T s) : fzS T s c (tn T) = fzB T s c (tn T) := by
  rw [Bool.eq_iff_iff, fzS_FZ hT hC, fzB_FZ hT hC]
theorem fzS_off {T s : Int → Int} {c j : Nat} (hT : mTO T) (hC : mCO T s) (hj : j ≤ tn T) (h : fzS T s c j = false) : fzB T s c (tn T) = false := by
  rw [← fzS_all hT hC]
  by_cases q : fzS T s c (tn T) = true
  · have z := fzS_mono (T := T) (s := s) (c := c) (j := j) (tn T - j) (by rw [show j + (tn T - j) = tn T by omega]; exact q)
    rw [z] at h
    cases h
  · simpa using q
/-- other cells than the two rows of share are the same -/
def mE (f f2 : Nat → Int → Int) : Prop := ∀ a : Nat, a ≠ 54 → a ≠ 55 → f2 a = f a
theorem mE_rf {f : Nat → Int → Int} : mE f f := fun _ _ _ => rfl
theorem mE_u {f f2 : Nat → Int → Int} {a : Nat} {i v : Int} (h : mE f f2) (ha : a = 54 ∨ a = 55) : mE f (k_u f2 a i v) := fun c h1 h2 => (show k_u f2 a i v c = f2 c from by funext j; exact k_u_ne (by omega)).trans (h c h1 h2)
/-- what stands while the way c is tried, j boughs being through -/
def mIv (T s : Int → Int) (fc : Nat → Int → Int) (y su : Int) (c j : Nat) : Prop := (y = 0 ∧ fzS T s c j = false) ∨ (y ≠ 0 ∧ fzS T s c j = true ∧ su = sfx (dN T c) T j ∧ (∀ i : Nat, i < tm T → fc 54 (i : Int) = s (24 + (i : Int)) + sfx (dI T c i) T j) ∧ ∀ k : Nat, tn T - j ≤ k → k < tn T → fc 55 (k : Int) = ((dd T c k : Nat) : Int))
def mFi (T s : Int → Int) (fc : Nat → Int → Int) (y su : Int) (c : Nat) : Prop := (y = 0 ∧ val T s c = -1) ∨ (y ≠ 0 ∧ su = val T s c ∧ 0 ≤ su ∧ ∀ k : Nat, k < tn T → fc 55 (k : Int) = ((dd T c k : Nat) : Int))
theorem mIv_end {T s : Int → Int} {fc : Nat → Int → Int} {y su : Int} {c j : Nat} (hT : mTO T) (hC : mCO T s) (hj : j ≤ tn T) (h : mIv T s fc y su c j) (he : y = 0 ∨ j = tn T) : mFi T s fc y su c := by
  rcases h with ⟨h1, h2⟩ | ⟨h1, h2, h3, h4, h5⟩
  · exact Or.inl ⟨h1, by unfold val; rw [fzS_off hT hC hj h2]; exact if_neg (by decide)⟩
  · have e : j = tn T := by omega
    rw [e] at h2 h3 h5
    refine Or.inr ⟨h1, ?_, ?_, fun k hk => h5 k (by omega) hk⟩
    · unfold val
      rw [← fzS_all hT hC, h2, if_pos rfl, h3, sfx_all]
    · rw [h3]; exact (sfx_rng hT _ (Nat.le_refl _)).1
/-- the found of the ways below c -/
def moF (T s : Int → Int) (v : Int) (c : Nat) : Int := if (bst T s c).1 < 0 ∨ v < 0 then -4 else ow T (dd T (bst T s c).2 v.toNat)
theorem bst_stay {T s : Int → Int} {c : Nat} (h : val T s c ≤ (bst T s c).1) : bst T s (c + 1) = bst T s c := by
  rw [bst_s, if_neg (by omega)]
theorem bst_new {T s : Int → Int} {c : Nat} (h : (bst T s c).1 < val T s c) : bst T s (c + 1) = (val T s c, c) := by
  rw [bst_s, if_pos h]
theorem c_mcouldT {E : kEnv} {f : Nat → Int → Int} {s : Int → Int} {g : Nat → Int → Option Nat} {T : Int → Int} {i b d c : Int} (hm : kGM g) (eT : f 47 = T) (hT : mTO T) (hb : 0 ≤ b ∧ b < T 0) (hi : 0 ≤ i ∧ i < T 1) (hx : -1000 ≤ s b ∧ s b ≤ 1000) (hc : -1000 ≤ c ∧ c ≤ 1000) : kF E 1 M_X7_could [kA 45, kI i, kI b, kI d, kI c] ((kMC ++ kMM), kst f 50 s, g) (some (kI (if oCould T s i b d c = true then 1 else 0))) ((kMC ++ kMM), kst f 50 s, g) := by
  subst eT
  exact c_mcouldO hm hT hb hi hx hc
theorem tM_le {T : Int → Int} (hT : mTO T) : ∀ k, k ≤ 8 → tM T ^ k ≤ 390625 := by
  have n1 := hT.2.1
  have w3 := tmn T
  have key : ∀ m, m < 5 → ∀ k, k < 9 → (m + 1) ^ k ≤ 390625 := by decide +kernel
  exact fun k hk => key (tm T) (by omega) k (by omega)
theorem l_mshare1 {E : kEnv} {f : Nat → Int → Int} {s : Int → Int} {g : Nat → Int → Option Nat} {T : Int → Int} {d : Nat} {v : Int} {Q : Option kV → kH → Prop} (hm : kGM g) (hT : mTO T) (hS : mSO T s) (hC : mCO T s) (h28 : 0 ≤ s 28 ∧ s 28 ≤ 99) (hx : kW E d 0 0 M_X7_share 55 [some (kA 45), some (kI v), some (kI (T 0)), some (kI (T 1)), some (kI ((tM T ^ tn T : Nat) : Int)), some (kI ((tn T : Nat) : Int)), none, none, none, none, none, none, none] [] ((kMC ++ kMM), kst f 50 s, g) Q) : ∀ (n k : Nat) (cd : Int), k ≤ tn T → tn T - k < n → cd = ((tM T ^ k : Nat) : Int) → kW E d 0 0 M_X7_share 35 [some (kA 45), some (kI v), some (kI (T 0)), some (kI (T 1)), some (kI cd), some (kI (k : Int)), none, none, none, none, none, none, none] [] ((kMC ++ kMM), kst f 50 s, g) Q := by
  intro n
  induction n with
  | zero => intro k cd _ y; omega
  | succ n ih =>
    intro k cd y0 y1 zc
    have n0 := hT.1
    have n1 := hT.2.1
    have w3 := tmn T
    refine kw_iload dX7_share_35 rfl ?_
    refine kw_iload_n dX7_share_37 rfl ?_
    refine kw_icmp_ge (tgt := 55) dX7_share_38 (by decide) (fun h1 => ?_) (fun h1 => ?_)
    · have e1 : k = tn T := by omega
      subst e1
      rw [zc]
      exact hx
    · refine kw_iload dX7_share_41 rfl ?_
      refine kw_iload_n dX7_share_43 rfl ?_
      refine kw_iconst dX7_share_44 ⟨by decide, by decide⟩ ?_
      refine kw_iadd dX7_share_45 ⟨by omega, by omega⟩ ?_
      have e1 : cd * (T 1 + 1) = ((tM T ^ (k + 1) : Nat) : Int) := by
        rw [zc, show T 1 + 1 = ((tM T : Nat) : Int) by omega, ← Int.natCast_mul, Nat.pow_succ]
      have e2 := tM_le hT (k + 1) (by omega)
      refine kw_imul dX7_share_46 ⟨by omega, by omega⟩ ?_
      refine kw_istore dX7_share_47 (by decide) trivial (L2 := [some (kA (45)), some (kI (v)), some (kI (T 0)), some (kI (T 1)), some (kI (cd * (T 1 + 1))), some (kI ((k : Int))), none, none, none, none, none, none, none]) rfl ?_
      refine kw_iinc dX7_share_49 (by decide) rfl ⟨by omega, by omega⟩ trivial (L2 := [some (kA (45)), some (kI (v)), some (kI (T 0)), some (kI (T 1)), some (kI (cd * (T 1 + 1))), some (kI (((k : Int)) + 1)), none, none, none, none, none, none, none]) rfl ?_
      refine kw_goto (tgt := 35) dX7_share_52 (by decide) ?_
      exact ih (k + 1) _ (by omega) (by omega) e1
theorem l_mshare2 {E : kEnv} {f : Nat → Int → Int} {s : Int → Int} {g : Nat → Int → Option Nat} {T : Int → Int} {d c : Nat} {v P mo fo : Int} {o : Option kV} {Q : Option kV → kH → Prop} (hm : kGM g) (hT : mTO T) (hS : mSO T s) (hC : mCO T s) (h28 : 0 ≤ s 28 ∧ s 28 ≤ 99) (hx : ∀ fc, mE f fc → (∀ j, 0 ≤ j → j < T 1 → fc 54 j = s (24 + j)) → kW E d 0 0 M_X7_share 114 [some (kA 45), some (kI v), some (kI (T 0)), some (kI (T 1)), some (kI P), some (kI mo), some (kI fo), some (kI (c : Int)), some (kI (c : Int)), some (kI 0), some (kI 1), some (kI (T 1)), o] [] ((kMC ++ kMM), kst fc 50 s, g) Q) : ∀ (n : Nat) (i : Int) (fc : Nat → Int → Int), (0 ≤ i ∧ i ≤ T 1) → (T 1 - i).toNat < n → mE f fc → (∀ j, 0 ≤ j → j < i → fc 54 j = s (24 + j)) → kW E d 0 0 M_X7_share 85 [some (kA 45), some (kI v), some (kI (T 0)), some (kI (T 1)), some (kI P), some (kI mo), some (kI fo), some (kI (c : Int)), some (kI (c : Int)), some (kI 0), some (kI 1), some (kI i), o] [] ((kMC ++ kMM), kst fc 50 s, g) Q := by
  intro n
  induction n with
  | zero => intro i fc _ y; omega
  | succ n ih =>
    intro i fc y0 y1 z1 z2
    have n0 := hT.1
    have n1 := hT.2.1
    have w3 := tmn T
    refine kw_iload dX7_share_85 rfl ?_
    refine kw_iload_n dX7_share_87 rfl ?_
    refine kw_icmp_ge (tgt := 114) dX7_share_88 (by decide) (fun h1 => ?_) (fun h1 => ?_)
    · have e4 : i = T 1 := by omega
      subst e4
      exact hx fc z1 z2
    · refine kw_aload_n dX7_share_91 rfl ?_
      refine kv_getR (b := 54) dX7_share_92 kf_X7_34 rfl rfl rfl (hm (45, 12, 54) (by decide)) ?_
      refine kw_iload dX7_share_95 rfl ?_
      refine kw_aload_n dX7_share_97 rfl ?_
      refine kv_getR (b := 50) dX7_share_98 kf_X7_22 rfl rfl rfl (hm (45, 5, 50) (by decide)) ?_
      refine kw_bipush dX7_share_101 (by decide) (by decide) ?_
      refine kw_iload dX7_share_103 rfl ?_
      refine kw_iadd dX7_share_105 ⟨by omega, by omega⟩ ?_
      refine kv_iald dX7_share_106 rfl (by omega) (by omega) (congrFun kst_self _) ?_
      refine kv_iast dX7_share_107 rfl (by omega) (by omega) ?_
      rw [kst_uc (by decide)]
      refine kw_iinc dX7_share_108 (by decide) rfl ⟨by omega, by omega⟩ trivial (L2 := [some (kA (45)), some (kI (v)), some (kI (T 0)), some (kI (T 1)), some (kI (P)), some (kI (mo)), some (kI (fo)), some (kI ((c : Int))), some (kI ((c : Int))), some (kI (0)), some (kI (1)), some (kI (i + 1)), o]) rfl ?_
      refine kw_goto (tgt := 85) dX7_share_111 (by decide) ?_
      refine ih (i + 1) _ ⟨by omega, by omega⟩ (by omega) (mE_u z1 (Or.inl rfl)) (fun j j0 j1 => ?_)
      by_cases e : j = i
      · rw [e, k_u_self]
      · rw [k_u_ne2 e]; exact z2 j j0 (by omega)
theorem l_mshare3 {E : kEnv} {f : Nat → Int → Int} {s : Int → Int} {g : Nat → Int → Option Nat} {T : Int → Int} {d c : Nat} {v P mo fo : Int} {Q : Option kV → kH → Prop} (hd : 2 ≤ d) (hm : kGM g) (hT : mTO T) (hS : mSO T s) (hC : mCO T s) (h28 : 0 ≤ s 28 ∧ s 28 ≤ 99) (e47 : f 47 = T) (hx : ∀ (fc : Nat → Int → Int) (lf su y k : Int) (o : Option kV), mE f fc → mFi T s fc y su c → kW E d 0 0 M_X7_share 246 [some (kA 45), some (kI v), some (kI (T 0)), some (kI (T 1)), some (kI P), some (kI mo), some (kI fo), some (kI (c : Int)), some (kI lf), some (kI su), some (kI y), some (kI k), o] [] ((kMC ++ kMM), kst fc 50 s, g) Q) : ∀ (n j : Nat) (k lf su y : Int) (o : Option kV) (fc : Nat → Int → Int), (k + j = T 0 - 1 ∧ j ≤ tn T) → tn T - j < n → lf = ((c / tM T ^ j : Nat) : Int) → mE f fc → mIv T s fc y su c j → kW E d 0 0 M_X7_share 119 [some (kA 45), some (kI v), some (kI (T 0)), some (kI (T 1)), some (kI P), some (kI mo), some (kI fo), some (kI (c : Int)), some (kI lf), some (kI su), some (kI y), some (kI k), o] [] ((kMC ++ kMM), kst fc 50 s, g) Q := by
  intro n
  induction n with
  | zero => intro j k lf su y o fc _ y1; omega
  | succ n ih =>
    intro j k lf su y o fc y0 y1 zl z1 z2
    have n0 := hT.1
    have n1 := hT.2.1
    have w3 := tmn T
    refine kw_iload dX7_share_119 rfl ?_
    refine kw_if_lt (tgt := 246) dX7_share_121 (by decide) (fun h1 => ?_) (fun h1 => ?_)
    · exact hx fc _ _ _ _ _ z1 (mIv_end hT hC (by omega) z2 (by omega))
    · refine kw_iload dX7_share_124 rfl ?_
      refine kw_if_eq (tgt := 246) dX7_share_126 (by decide) (fun h2 => ?_) (fun h2 => ?_)
      · exact hx fc _ _ _ _ _ z1 (mIv_end hT hC (by omega) z2 (by omega))
      · refine kw_iload dX7_share_129 rfl ?_
        refine kw_iload_n dX7_share_131 rfl ?_
        refine kw_iconst dX7_share_132 ⟨by decide, by decide⟩ ?_
        refine kw_iadd dX7_share_133 ⟨by omega, by omega⟩ ?_
        have y2 : fzS T s c j = true ∧ su = sfx (dN T c) T j ∧ (∀ i : Nat, i < tm T → fc 54 (i : Int) = s (24 + (i : Int)) + sfx (dI T c i) T j) ∧ ∀ k : Nat, tn T - j ≤ k → k < tn T → fc 55 (k : Int) = ((dd T c k : Nat) : Int) := by
          rcases z2 with z2 | z2
          · exact absurd z2.1 (by omega)
          · exact z2.2
        obtain ⟨q1, q2, q3, q4⟩ := y2
        have kk : ((tn T - 1 - j : Nat) : Int) = k := by omega
        have ed : lf % (T 1 + 1) = ((dd T c (tn T - 1 - j) : Nat) : Int) := by
          rw [zl, show T 1 + 1 = ((tM T : Nat) : Int) by omega, ← Int.natCast_emod]
          unfold dd
          rw [show tn T - 1 - (tn T - 1 - j) = j by omega]
        have eq : lf / (T 1 + 1) = ((c / tM T ^ (j + 1) : Nat) : Int) := by
          rw [zl, show T 1 + 1 = ((tM T : Nat) : Int) by omega, ← Int.natCast_ediv, Nat.div_div_eq_div_mul, ← Nat.pow_succ]
        have hdl := dd_lt (T := T) (c := c) (k := tn T - 1 - j)
        have zl0 : 0 ≤ lf := by rw [zl]; exact Int.natCast_nonneg _
        have zl1 : (0 : Int) ≤ ((c / tM T ^ j : Nat) : Int) := Int.natCast_nonneg _
        have sb := hS.2.1 k (by omega) (by omega)
        have gb := (hS.1 k (by omega) (by omega)).1
        have tb := (hT.2.2.2.2.2.1 k (by omega) (by omega)).2.2
        have e47b := congrFun (show fc 47 = T by rw [z1 47 (by decide) (by decide)]; exact e47) (21 + k)
        have hsn := sfx_rng (p := dN T c) hT j (by omega)
        have hsi := sfx_rng (p := dI T c (dd T c (tn T - 1 - j))) hT j (by omega)
        have ti : ∀ _ : Unit, ((dd T c (tn T - 1 - j) : Nat) : Int) < T 1 → fc 54 ((dd T c (tn T - 1 - j) : Nat) : Int) = s (24 + ((dd T c (tn T - 1 - j) : Nat) : Int)) + sfx (dI T c (dd T c (tn T - 1 - j))) T j ∧ 0 ≤ s (24 + ((dd T c (tn T - 1 - j) : Nat) : Int)) ∧ s (24 + ((dd T c (tn T - 1 - j) : Nat) : Int)) ≤ 40 := fun _ q => ⟨q3 _ (by omega), (hS.2.2 _ (by omega) q).2.2⟩
        refine kw_irem dX7_share_134 (by omega) (by omega) ?_
        rw [ed]
        refine kw_istore dX7_share_135 (by decide) trivial (L2 := [some (kA (45)), some (kI (v)), some (kI (T 0)), some (kI (T 1)), some (kI (P)), some (kI (mo)), some (kI (fo)), some (kI ((c : Int))), some (kI (lf)), some (kI (su)), some (kI (y)), some (kI (k)), some (kI (((dd T c (tn T - 1 - j) : Nat) : Int)))]) rfl ?_
        refine kw_iload dX7_share_137 rfl ?_
        refine kw_iload_n dX7_share_139 rfl ?_
        refine kw_iconst dX7_share_140 ⟨by decide, by decide⟩ ?_
        refine kw_iadd dX7_share_141 ⟨by omega, by omega⟩ ?_
        refine kw_idiv dX7_share_142 (by omega) (by omega) ?_
        rw [eq]
        refine kw_istore dX7_share_143 (by decide) trivial (L2 := [some (kA (45)), some (kI (v)), some (kI (T 0)), some (kI (T 1)), some (kI (P)), some (kI (mo)), some (kI (fo)), some (kI ((c : Int))), some (kI (((c / tM T ^ (j + 1) : Nat) : Int))), some (kI (su)), some (kI (y)), some (kI (k)), some (kI (((dd T c (tn T - 1 - j) : Nat) : Int)))]) rfl ?_
        refine kw_aload_n dX7_share_145 rfl ?_
        refine kv_getR (b := 55) dX7_share_146 kf_X7_37 rfl rfl rfl (hm (45, 13, 55) (by decide)) ?_
        refine kw_iload dX7_share_149 rfl ?_
        refine kw_iload dX7_share_151 rfl ?_
        refine kv_iast dX7_share_153 rfl (by omega) (by omega) ?_
        rw [kst_uc (by decide)]
        refine kw_iload dX7_share_154 rfl ?_
        refine kw_iload_n dX7_share_156 rfl ?_
        refine kw_icmp_ge (tgt := 240) dX7_share_157 (by decide) (fun h3 => ?_) (fun h3 => ?_)
        · refine kw_iinc dX7_share_240 (by decide) rfl ⟨by omega, by omega⟩ trivial (L2 := [some (kA (45)), some (kI (v)), some (kI (T 0)), some (kI (T 1)), some (kI (P)), some (kI (mo)), some (kI (fo)), some (kI ((c : Int))), some (kI (((c / tM T ^ (j + 1) : Nat) : Int))), some (kI (su)), some (kI (y)), some (kI (k + (-1))), some (kI (((dd T c (tn T - 1 - j) : Nat) : Int)))]) rfl ?_
          refine kw_goto (tgt := 119) dX7_share_243 (by decide) ?_
          refine ih (j + 1) (k + (-1)) _ _ _ _ _ ⟨by omega, by omega⟩ (by omega) rfl (mE_u z1 (Or.inr rfl)) ?_
          refine Or.inr ⟨by omega, ?_, ?_, fun i hi => ?_, fun k2 hk hk2 => ?_⟩
          · rw [fzS, q1, Bool.true_and, show dN T c (tn T - 1 - j) = false from decide_eq_false (by omega)]
            rfl
          · rw [sfx, if_neg (by rw [show dN T c (tn T - 1 - j) = false from decide_eq_false (by omega)]; decide), Int.add_zero]
            exact q2
          · rw [sfx, k_u_ne (by decide), if_neg (by rw [show dI T c i (tn T - 1 - j) = false from decide_eq_false (by omega)]; decide), Int.add_zero]
            exact q3 i hi
          · by_cases e : k2 = tn T - 1 - j
            · rw [e, kk, k_u_self]
            · rw [k_u_ne2 (by omega)]; exact q4 k2 (by omega) hk2
        · have q5 := ti () (by omega)
          refine kw_aload_n dX7_share_160 rfl ?_
          refine kv_getR (b := 50) dX7_share_161 kf_X7_22 rfl rfl rfl (hm (45, 5, 50) (by decide)) ?_
          refine kw_bipush dX7_share_164 (by decide) (by decide) ?_
          refine kw_iload dX7_share_166 rfl ?_
          refine kw_iadd dX7_share_168 ⟨by omega, by omega⟩ ?_
          refine kv_iald dX7_share_169 rfl (by omega) (by omega) (congrFun kst_self _) ?_
          refine kw_if_ne (tgt := 202) dX7_share_170 (by decide) (fun h4 => ?_) (fun h4 => ?_)
          · refine kw_iconst dX7_share_202 ⟨by decide, by decide⟩ ?_
            refine kw_istore dX7_share_203 (by decide) trivial (L2 := [some (kA (45)), some (kI (v)), some (kI (T 0)), some (kI (T 1)), some (kI (P)), some (kI (mo)), some (kI (fo)), some (kI ((c : Int))), some (kI (((c / tM T ^ (j + 1) : Nat) : Int))), some (kI (su)), some (kI (0)), some (kI (k)), some (kI (((dd T c (tn T - 1 - j) : Nat) : Int)))]) rfl ?_
            refine kw_aload_n dX7_share_205 rfl ?_
            refine kv_getR (b := 54) dX7_share_206 kf_X7_34 rfl rfl rfl (hm (45, 12, 54) (by decide)) ?_
            refine kw_iload dX7_share_209 rfl ?_
            refine kw_dup2 dX7_share_211 trivial trivial ?_
            refine kv_iald dX7_share_212 rfl (by omega) (by omega) ((congrFun (kst_ne (by decide)) _).trans (k_u_ne (by omega))) ?_
            refine kw_aload_n dX7_share_213 rfl ?_
            refine kv_getR (b := 47) dX7_share_214 kf_X7_13 rfl rfl rfl (hm (45, 2, 47) (by decide)) ?_
            refine kw_bipush dX7_share_217 (by decide) (by decide) ?_
            refine kw_iload dX7_share_219 rfl ?_
            refine kw_iadd dX7_share_221 ⟨by omega, by omega⟩ ?_
            refine kv_iald dX7_share_222 rfl (by omega) (by omega) ((congrFun (kst_ne (by decide)) _).trans (k_u_ne (by omega))) ?_
            refine kw_iadd dX7_share_223 ⟨by omega, by omega⟩ ?_
            refine kv_iast dX7_share_224 rfl (by omega) (by omega) ?_
            rw [kst_uc (by decide)]
            refine kw_iload dX7_share_225 rfl ?_
            refine kw_aload_n dX7_share_227 rfl ?_
            refine kv_getR (b := 47) dX7_share_228 kf_X7_13 rfl rfl rfl (hm (45, 2, 47) (by decide)) ?_
            refine kw_bipush dX7_share_231 (by decide) (by decide) ?_
            refine kw_iload dX7_share_233 rfl ?_
            refine kw_iadd dX7_share_235 ⟨by omega, by omega⟩ ?_
            refine kv_iald dX7_share_236 rfl (by omega) (by omega) ((congrFun (kst_ne (by decide)) _).trans ((k_u_ne (by omega)).trans (k_u_ne (by omega)))) ?_
            refine kw_iadd dX7_share_237 ⟨by omega, by omega⟩ ?_
            refine kw_istore dX7_share_238 (by decide) trivial (L2 := [some (kA (45)), some (kI (v)), some (kI (T 0)), some (kI (T 1)), some (kI (P)), some (kI (mo)), some (kI (fo)), some (kI ((c : Int))), some (kI (((c / tM T ^ (j + 1) : Nat) : Int))), some (kI (su + (fc 47 (21 + k)))), some (kI (0)), some (kI (k)), some (kI (((dd T c (tn T - 1 - j) : Nat) : Int)))]) rfl ?_
            refine kw_iinc dX7_share_240 (by decide) rfl ⟨by omega, by omega⟩ trivial (L2 := [some (kA (45)), some (kI (v)), some (kI (T 0)), some (kI (T 1)), some (kI (P)), some (kI (mo)), some (kI (fo)), some (kI ((c : Int))), some (kI (((c / tM T ^ (j + 1) : Nat) : Int))), some (kI (su + (fc 47 (21 + k)))), some (kI (0)), some (kI (k + (-1))), some (kI (((dd T c (tn T - 1 - j) : Nat) : Int)))]) rfl ?_
            refine kw_goto (tgt := 119) dX7_share_243 (by decide) ?_
            refine ih (j + 1) (k + (-1)) _ _ _ _ _ ⟨by omega, by omega⟩ (by omega) rfl (mE_u (mE_u z1 (Or.inr rfl)) (Or.inl rfl)) ?_
            refine Or.inl ⟨rfl, ?_⟩
            rw [fzS, q1, Bool.true_and, show dN T c (tn T - 1 - j) = true from decide_eq_true (by omega), kk]
            simp only [Bool.not_true, Bool.false_or, Bool.and_eq_false_iff, decide_eq_false_iff_not]
            first
              | exact Or.inl (by omega)
              | exact Or.inr (by rw [← q5.1]; exact eq_false_of_ne_true h5)
          · refine kw_aload_n dX7_share_173 rfl ?_
            refine kw_iload dX7_share_174 rfl ?_
            refine kw_iload dX7_share_176 rfl ?_
            refine kw_aload_n dX7_share_178 rfl ?_
            refine kv_getR (b := 50) dX7_share_179 kf_X7_22 rfl rfl rfl (hm (45, 5, 50) (by decide)) ?_
            refine kw_bipush dX7_share_182 (by decide) (by decide) ?_
            refine kv_iald dX7_share_184 rfl (by omega) (by omega) (congrFun kst_self _) ?_
            refine kw_aload_n dX7_share_185 rfl ?_
            refine kv_getR (b := 54) dX7_share_186 kf_X7_34 rfl rfl rfl (hm (45, 12, 54) (by decide)) ?_
            refine kw_iload dX7_share_189 rfl ?_
            refine kv_iald dX7_share_191 rfl (by omega) (by omega) ((congrFun (kst_ne (by decide)) _).trans (k_u_ne (by omega))) ?_
            refine kv_callV1 (M2 := M_X7_could) (As := [kI (((dd T c (tn T - 1 - j) : Nat) : Int)), kI (k), kI (s 28), kI (fc 54 (((dd T c (tn T - 1 - j) : Nat) : Int)))]) dX7_share_192 ml_X7_106 q_X7_could rfl rfl rfl (Nat.le_of_ble_eq_true rfl) (c_mcouldT (T := T) hm ((show (k_u fc 55 k (((dd T c (tn T - 1 - j) : Nat) : Int))) 47 = fc 47 from by funext j; exact k_u_ne (by decide)).trans (show fc 47 = T by rw [z1 47 (by decide) (by decide)]; exact e47)) hT ⟨by omega, by omega⟩ ⟨by omega, by omega⟩ ⟨by omega, by omega⟩ ⟨by omega, by omega⟩) (by omega) ?_
            refine kv_ifeqB (tgt := 202) dX7_share_195 (by decide) (fun h5 => ?_) (fun h5 => ?_)
            · refine kw_iconst dX7_share_202 ⟨by decide, by decide⟩ ?_
              refine kw_istore dX7_share_203 (by decide) trivial (L2 := [some (kA (45)), some (kI (v)), some (kI (T 0)), some (kI (T 1)), some (kI (P)), some (kI (mo)), some (kI (fo)), some (kI ((c : Int))), some (kI (((c / tM T ^ (j + 1) : Nat) : Int))), some (kI (su)), some (kI (0)), some (kI (k)), some (kI (((dd T c (tn T - 1 - j) : Nat) : Int)))]) rfl ?_
              refine kw_aload_n dX7_share_205 rfl ?_
              refine kv_getR (b := 54) dX7_share_206 kf_X7_34 rfl rfl rfl (hm (45, 12, 54) (by decide)) ?_
              refine kw_iload dX7_share_209 rfl ?_
              refine kw_dup2 dX7_share_211 trivial trivial ?_
              refine kv_iald dX7_share_212 rfl (by omega) (by omega) ((congrFun (kst_ne (by decide)) _).trans (k_u_ne (by omega))) ?_
              refine kw_aload_n dX7_share_213 rfl ?_
              refine kv_getR (b := 47) dX7_share_214 kf_X7_13 rfl rfl rfl (hm (45, 2, 47) (by decide)) ?_
              refine kw_bipush dX7_share_217 (by decide) (by decide) ?_
              refine kw_iload dX7_share_219 rfl ?_
              refine kw_iadd dX7_share_221 ⟨by omega, by omega⟩ ?_
              refine kv_iald dX7_share_222 rfl (by omega) (by omega) ((congrFun (kst_ne (by decide)) _).trans (k_u_ne (by omega))) ?_
              refine kw_iadd dX7_share_223 ⟨by omega, by omega⟩ ?_
              refine kv_iast dX7_share_224 rfl (by omega) (by omega) ?_
              rw [kst_uc (by decide)]
              refine kw_iload dX7_share_225 rfl ?_
              refine kw_aload_n dX7_share_227 rfl ?_
              refine kv_getR (b := 47) dX7_share_228 kf_X7_13 rfl rfl rfl (hm (45, 2, 47) (by decide)) ?_
              refine kw_bipush dX7_share_231 (by decide) (by decide) ?_
              refine kw_iload dX7_share_233 rfl ?_
              refine kw_iadd dX7_share_235 ⟨by omega, by omega⟩ ?_
              refine kv_iald dX7_share_236 rfl (by omega) (by omega) ((congrFun (kst_ne (by decide)) _).trans ((k_u_ne (by omega)).trans (k_u_ne (by omega)))) ?_
              refine kw_iadd dX7_share_237 ⟨by omega, by omega⟩ ?_
              refine kw_istore dX7_share_238 (by decide) trivial (L2 := [some (kA (45)), some (kI (v)), some (kI (T 0)), some (kI (T 1)), some (kI (P)), some (kI (mo)), some (kI (fo)), some (kI ((c : Int))), some (kI (((c / tM T ^ (j + 1) : Nat) : Int))), some (kI (su + (fc 47 (21 + k)))), some (kI (0)), some (kI (k)), some (kI (((dd T c (tn T - 1 - j) : Nat) : Int)))]) rfl ?_
              refine kw_iinc dX7_share_240 (by decide) rfl ⟨by omega, by omega⟩ trivial (L2 := [some (kA (45)), some (kI (v)), some (kI (T 0)), some (kI (T 1)), some (kI (P)), some (kI (mo)), some (kI (fo)), some (kI ((c : Int))), some (kI (((c / tM T ^ (j + 1) : Nat) : Int))), some (kI (su + (fc 47 (21 + k)))), some (kI (0)), some (kI (k + (-1))), some (kI (((dd T c (tn T - 1 - j) : Nat) : Int)))]) rfl ?_
              refine kw_goto (tgt := 119) dX7_share_243 (by decide) ?_
              refine ih (j + 1) (k + (-1)) _ _ _ _ _ ⟨by omega, by omega⟩ (by omega) rfl (mE_u (mE_u z1 (Or.inr rfl)) (Or.inl rfl)) ?_
              refine Or.inl ⟨rfl, ?_⟩
              rw [fzS, q1, Bool.true_and, show dN T c (tn T - 1 - j) = true from decide_eq_true (by omega), kk]
              simp only [Bool.not_true, Bool.false_or, Bool.and_eq_false_iff, decide_eq_false_iff_not]
              first
                | exact Or.inl (by omega)
                | exact Or.inr (by rw [← q5.1]; exact eq_false_of_ne_true h5)
            · refine kw_iconst dX7_share_198 ⟨by decide, by decide⟩ ?_
              refine kw_goto (tgt := 203) dX7_share_199 (by decide) ?_
              refine kw_istore dX7_share_203 (by decide) trivial (L2 := [some (kA (45)), some (kI (v)), some (kI (T 0)), some (kI (T 1)), some (kI (P)), some (kI (mo)), some (kI (fo)), some (kI ((c : Int))), some (kI (((c / tM T ^ (j + 1) : Nat) : Int))), some (kI (su)), some (kI (1)), some (kI (k)), some (kI (((dd T c (tn T - 1 - j) : Nat) : Int)))]) rfl ?_
              refine kw_aload_n dX7_share_205 rfl ?_
              refine kv_getR (b := 54) dX7_share_206 kf_X7_34 rfl rfl rfl (hm (45, 12, 54) (by decide)) ?_
              refine kw_iload dX7_share_209 rfl ?_
              refine kw_dup2 dX7_share_211 trivial trivial ?_
              refine kv_iald dX7_share_212 rfl (by omega) (by omega) ((congrFun (kst_ne (by decide)) _).trans (k_u_ne (by omega))) ?_
              refine kw_aload_n dX7_share_213 rfl ?_
              refine kv_getR (b := 47) dX7_share_214 kf_X7_13 rfl rfl rfl (hm (45, 2, 47) (by decide)) ?_
              refine kw_bipush dX7_share_217 (by decide) (by decide) ?_
              refine kw_iload dX7_share_219 rfl ?_
              refine kw_iadd dX7_share_221 ⟨by omega, by omega⟩ ?_
              refine kv_iald dX7_share_222 rfl (by omega) (by omega) ((congrFun (kst_ne (by decide)) _).trans (k_u_ne (by omega))) ?_
              refine kw_iadd dX7_share_223 ⟨by omega, by omega⟩ ?_
              refine kv_iast dX7_share_224 rfl (by omega) (by omega) ?_
              rw [kst_uc (by decide)]
              refine kw_iload dX7_share_225 rfl ?_
              refine kw_aload_n dX7_share_227 rfl ?_
              refine kv_getR (b := 47) dX7_share_228 kf_X7_13 rfl rfl rfl (hm (45, 2, 47) (by decide)) ?_
              refine kw_bipush dX7_share_231 (by decide) (by decide) ?_
              refine kw_iload dX7_share_233 rfl ?_
              refine kw_iadd dX7_share_235 ⟨by omega, by omega⟩ ?_
              refine kv_iald dX7_share_236 rfl (by omega) (by omega) ((congrFun (kst_ne (by decide)) _).trans ((k_u_ne (by omega)).trans (k_u_ne (by omega)))) ?_
              refine kw_iadd dX7_share_237 ⟨by omega, by omega⟩ ?_
              refine kw_istore dX7_share_238 (by decide) trivial (L2 := [some (kA (45)), some (kI (v)), some (kI (T 0)), some (kI (T 1)), some (kI (P)), some (kI (mo)), some (kI (fo)), some (kI ((c : Int))), some (kI (((c / tM T ^ (j + 1) : Nat) : Int))), some (kI (su + (fc 47 (21 + k)))), some (kI (1)), some (kI (k)), some (kI (((dd T c (tn T - 1 - j) : Nat) : Int)))]) rfl ?_
              refine kw_iinc dX7_share_240 (by decide) rfl ⟨by omega, by omega⟩ trivial (L2 := [some (kA (45)), some (kI (v)), some (kI (T 0)), some (kI (T 1)), some (kI (P)), some (kI (mo)), some (kI (fo)), some (kI ((c : Int))), some (kI (((c / tM T ^ (j + 1) : Nat) : Int))), some (kI (su + (fc 47 (21 + k)))), some (kI (1)), some (kI (k + (-1))), some (kI (((dd T c (tn T - 1 - j) : Nat) : Int)))]) rfl ?_
              refine kw_goto (tgt := 119) dX7_share_243 (by decide) ?_
              refine ih (j + 1) (k + (-1)) _ _ _ _ _ ⟨by omega, by omega⟩ (by omega) rfl (mE_u (mE_u z1 (Or.inr rfl)) (Or.inl rfl)) ?_
              refine Or.inr ⟨by decide, ?_, ?_, fun i hi => ?_, fun k2 hk hk2 => ?_⟩
              · rw [fzS, q1, Bool.true_and, kk, ← q5.1, h5, decide_eq_true (by omega)]
                simp
              · rw [sfx, show dN T c (tn T - 1 - j) = true from decide_eq_true (by omega), if_pos rfl, kk]
                omega
              · rw [sfx, kk]
                by_cases e : dd T c (tn T - 1 - j) = i
                · rw [← e, k_u_self, if_pos (show dI T c (dd T c (tn T - 1 - j)) (tn T - 1 - j) = true from decide_eq_true rfl)]
                  omega
                · rw [k_u_ne2 (by omega), k_u_ne (by decide), if_neg (by rw [show dI T c i (tn T - 1 - j) = false from decide_eq_false e]; decide), Int.add_zero]
                  exact q3 i hi
              · rw [k_u_ne (by decide)]
                by_cases e : k2 = tn T - 1 - j
                · rw [e, kk, k_u_self]
                · rw [k_u_ne2 (by omega)]; exact q4 k2 (by omega) hk2
theorem l_mshare4 {E : kEnv} {f : Nat → Int → Int} {s : Int → Int} {g : Nat → Int → Option Nat} {T : Int → Int} {v P : Int} (hm : kGM g) (hT : mTO T) (hS : mSO T s) (hC : mCO T s) (h28 : 0 ≤ s 28 ∧ s 28 ≤ 99) (e47 : f 47 = T) (hv : v = -1 ∨ (0 ≤ v ∧ v ≤ T 0 - 1)) (zP : P = ((tM T ^ tn T : Nat) : Int)) : ∀ (n c : Nat) (mo fo : Int) (o : Option kV × Option kV × Option kV × Option kV × Option kV) (fc : Nat → Int → Int), c ≤ tM T ^ tn T → tM T ^ tn T - c < n → mE f fc → mo = (bst T s c).1 → fo = moF T s v c → kW E 2 0 0 M_X7_share 65 [some (kA 45), some (kI v), some (kI (T 0)), some (kI (T 1)), some (kI P), some (kI mo), some (kI fo), some (kI (c : Int)), o.1, o.2.1, o.2.2.1, o.2.2.2.1, o.2.2.2.2] [] ((kMC ++ kMM), kst fc 50 s, g) (fun r h' => r = some (kI (sShare T s v)) ∧ ∃ f2, h' = ((kMC ++ kMM), f2, g) ∧ (fun h2 => ∃ f3, mE f f3 ∧ h2 = kst f3 50 s) f2) := by
  intro n
  induction n with
  | zero => intro c mo fo o fc _ y; omega
  | succ n ih =>
    intro c mo fo o fc y0 y1 z1 zm zf
    have n0 := hT.1
    have n1 := hT.2.1
    have w3 := tmn T
    have hP := tM_le hT (tn T) (by omega)
    have hb := bst_rng (s := s) hT c
    obtain ⟨o8, o9, o10, o11, o12⟩ := o
    refine kw_iload dX7_share_65 rfl ?_
    refine kw_iload dX7_share_67 rfl ?_
    refine kw_icmp_ge (tgt := 295) dX7_share_69 (by decide) (fun h1 => ?_) (fun h1 => ?_)
    · refine kw_iload_n dX7_share_295 rfl ?_
      refine kw_if_ge (tgt := 304) dX7_share_296 (by decide) (fun h2 => ?_) (fun h2 => ?_)
      · refine kw_iload dX7_share_304 rfl ?_
        have ec : c = tM T ^ tn T := by omega
        subst ec
        have hbp := bst_pos (s := s) hT
        refine kv_riE dX7_share_306 rfl (Eq.symm ?_) ⟨fc, z1, rfl⟩
        unfold sShare
        unfold moF at zf
        rw [if_neg (by omega)] at zf
        rw [if_neg (by omega), if_pos (by omega)]; exact zf.symm
      · refine kw_iload dX7_share_299 rfl ?_
        refine kw_goto (tgt := 306) dX7_share_301 (by decide) ?_
        have ec : c = tM T ^ tn T := by omega
        subst ec
        have hbp := bst_pos (s := s) hT
        refine kv_riE dX7_share_306 rfl (Eq.symm ?_) ⟨fc, z1, rfl⟩
        unfold sShare
        rw [if_pos (by omega)]; exact zm.symm
    · refine kw_iload dX7_share_72 rfl ?_
      refine kw_istore dX7_share_74 (by decide) trivial (L2 := [some (kA (45)), some (kI (v)), some (kI (T 0)), some (kI (T 1)), some (kI (P)), some (kI (mo)), some (kI (fo)), some (kI ((c : Int))), some (kI ((c : Int))), o9, o10, o11, o12]) rfl ?_
      refine kw_iconst dX7_share_76 ⟨by decide, by decide⟩ ?_
      refine kw_istore dX7_share_77 (by decide) trivial (L2 := [some (kA (45)), some (kI (v)), some (kI (T 0)), some (kI (T 1)), some (kI (P)), some (kI (mo)), some (kI (fo)), some (kI ((c : Int))), some (kI ((c : Int))), some (kI (0)), o10, o11, o12]) rfl ?_
      refine kw_iconst dX7_share_79 ⟨by decide, by decide⟩ ?_
      refine kw_istore dX7_share_80 (by decide) trivial (L2 := [some (kA (45)), some (kI (v)), some (kI (T 0)), some (kI (T 1)), some (kI (P)), some (kI (mo)), some (kI (fo)), some (kI ((c : Int))), some (kI ((c : Int))), some (kI (0)), some (kI (1)), o11, o12]) rfl ?_
      refine kw_iconst dX7_share_82 ⟨by decide, by decide⟩ ?_
      refine kw_istore dX7_share_83 (by decide) trivial (L2 := [some (kA (45)), some (kI (v)), some (kI (T 0)), some (kI (T 1)), some (kI (P)), some (kI (mo)), some (kI (fo)), some (kI ((c : Int))), some (kI ((c : Int))), some (kI (0)), some (kI (1)), some (kI (0)), o12]) rfl ?_
      refine l_mshare2 (f := f) hm hT hS hC h28 (fun fe p1 p2 => ?_) _ 0 fc ⟨by omega, by omega⟩ (Nat.lt_succ_self _) z1 (fun j j0 j1 => by omega)
      refine kw_iload_n dX7_share_114 rfl ?_
      refine kw_iconst dX7_share_115 ⟨by decide, by decide⟩ ?_
      refine kw_isub dX7_share_116 ⟨by omega, by omega⟩ ?_
      refine kw_istore dX7_share_117 (by decide) trivial (L2 := [some (kA (45)), some (kI (v)), some (kI (T 0)), some (kI (T 1)), some (kI (P)), some (kI (mo)), some (kI (fo)), some (kI ((c : Int))), some (kI ((c : Int))), some (kI (0)), some (kI (1)), some (kI ((T 0) - 1)), o12]) rfl ?_
      refine l_mshare3 (f := f) (by omega) hm hT hS hC h28 e47 (fun fd lf2 su2 y2 k2 o2 q1 q2 => ?_) _ 0 _ _ _ _ _ _ ⟨by omega, by omega⟩ (Nat.lt_succ_self _) (by rw [Nat.pow_zero, Nat.div_one]) p1 (Or.inr ⟨by decide, rfl, rfl, fun i hi => ?_, fun k h1 h2 => by omega⟩)
      · refine kw_iload dX7_share_246 rfl ?_
        refine kw_if_eq (tgt := 289) dX7_share_248 (by decide) (fun h1 => ?_) (fun h1 => ?_)
        · refine kw_iinc dX7_share_289 (by decide) rfl ⟨by omega, by omega⟩ trivial (L2 := [some (kA (45)), some (kI (v)), some (kI (T 0)), some (kI (T 1)), some (kI (P)), some (kI (mo)), some (kI (fo)), some (kI (((c : Int)) + 1)), some (kI (lf2)), some (kI (su2)), some (kI (y2)), some (kI (k2)), o2]) rfl ?_
          refine kw_goto (tgt := 65) dX7_share_292 (by decide) ?_
          have eb : bst T s (c + 1) = bst T s c := bst_stay (by rcases q2 with q2 | q2 <;> omega)
          refine ih (c + 1) _ _ (_, _, _, _, _) _ (by omega) (by omega) q1 ?_ ?_
          · rw [eb]; exact zm
          · unfold moF at zf ⊢
            rw [eb]; exact zf
        · refine kw_iload dX7_share_251 rfl ?_
          refine kw_iload dX7_share_253 rfl ?_
          refine kw_icmp_le (tgt := 289) dX7_share_255 (by decide) (fun h2 => ?_) (fun h2 => ?_)
          · refine kw_iinc dX7_share_289 (by decide) rfl ⟨by omega, by omega⟩ trivial (L2 := [some (kA (45)), some (kI (v)), some (kI (T 0)), some (kI (T 1)), some (kI (P)), some (kI (mo)), some (kI (fo)), some (kI (((c : Int)) + 1)), some (kI (lf2)), some (kI (su2)), some (kI (y2)), some (kI (k2)), o2]) rfl ?_
            refine kw_goto (tgt := 65) dX7_share_292 (by decide) ?_
            have eb : bst T s (c + 1) = bst T s c := bst_stay (by rcases q2 with q2 | q2 <;> omega)
            refine ih (c + 1) _ _ (_, _, _, _, _) _ (by omega) (by omega) q1 ?_ ?_
            · rw [eb]; exact zm
            · unfold moF at zf ⊢
              rw [eb]; exact zf
          · refine kw_iload dX7_share_258 rfl ?_
            refine kw_istore dX7_share_260 (by decide) trivial (L2 := [some (kA (45)), some (kI (v)), some (kI (T 0)), some (kI (T 1)), some (kI (P)), some (kI (su2)), some (kI (fo)), some (kI ((c : Int))), some (kI (lf2)), some (kI (su2)), some (kI (y2)), some (kI (k2)), o2]) rfl ?_
            refine kw_iload_n dX7_share_262 rfl ?_
            refine kw_if_lt (tgt := 276) dX7_share_263 (by decide) (fun h3 => ?_) (fun h3 => ?_)
            · refine kw_bipush dX7_share_276 (by decide) (by decide) ?_
              refine kw_goto (tgt := 287) dX7_share_278 (by decide) ?_
              refine kw_istore dX7_share_287 (by decide) trivial (L2 := [some (kA (45)), some (kI (v)), some (kI (T 0)), some (kI (T 1)), some (kI (P)), some (kI (su2)), some (kI (-4)), some (kI ((c : Int))), some (kI (lf2)), some (kI (su2)), some (kI (y2)), some (kI (k2)), o2]) rfl ?_
              refine kw_iinc dX7_share_289 (by decide) rfl ⟨by omega, by omega⟩ trivial (L2 := [some (kA (45)), some (kI (v)), some (kI (T 0)), some (kI (T 1)), some (kI (P)), some (kI (su2)), some (kI (-4)), some (kI (((c : Int)) + 1)), some (kI (lf2)), some (kI (su2)), some (kI (y2)), some (kI (k2)), o2]) rfl ?_
              refine kw_goto (tgt := 65) dX7_share_292 (by decide) ?_
              have q3 : su2 = val T s c ∧ 0 ≤ su2 ∧ ∀ k : Nat, k < tn T → fd 55 (k : Int) = ((dd T c k : Nat) : Int) := by
                rcases q2 with q2 | q2
                · exact absurd q2.1 (by omega)
                · exact q2.2
              obtain ⟨q4, q5, q6⟩ := q3
              have eb := bst_new (T := T) (s := s) (c := c) (by omega)
              refine ih (c + 1) _ _ (_, _, _, _, _) _ (by omega) (by omega) q1 ?_ ?_
              · rw [eb]; exact q4
              · unfold moF
                rw [eb]
                dsimp only
                first
                  | (rw [if_pos (Or.inr (by omega))]; done)
                  | (have q7 := q6 v.toNat (by omega)
                     rw [k_nat (by omega)] at q7
                     rw [if_neg (by omega)]
                     unfold ow
                     first
                       | (rw [if_neg (by omega)]; done)
                       | (rw [if_pos (by have := dd_lt (T := T) (c := c) (k := v.toNat); omega)]; exact q7))
            · refine kw_aload_n dX7_share_266 rfl ?_
              refine kv_getR (b := 55) dX7_share_267 kf_X7_37 rfl rfl rfl (hm (45, 13, 55) (by decide)) ?_
              refine kw_iload_n dX7_share_270 rfl ?_
              refine kv_iald dX7_share_271 rfl (by omega) (by omega) (congrFun (kst_ne (by decide)) _) ?_
              refine kw_iload_n dX7_share_272 rfl ?_
              refine kw_icmp_ne (tgt := 281) dX7_share_273 (by decide) (fun h4 => ?_) (fun h4 => ?_)
              · refine kw_aload_n dX7_share_281 rfl ?_
                refine kv_getR (b := 55) dX7_share_282 kf_X7_37 rfl rfl rfl (hm (45, 13, 55) (by decide)) ?_
                refine kw_iload_n dX7_share_285 rfl ?_
                refine kv_iald dX7_share_286 rfl (by omega) (by omega) (congrFun (kst_ne (by decide)) _) ?_
                refine kw_istore dX7_share_287 (by decide) trivial (L2 := [some (kA (45)), some (kI (v)), some (kI (T 0)), some (kI (T 1)), some (kI (P)), some (kI (su2)), some (kI (fd 55 v)), some (kI ((c : Int))), some (kI (lf2)), some (kI (su2)), some (kI (y2)), some (kI (k2)), o2]) rfl ?_
                refine kw_iinc dX7_share_289 (by decide) rfl ⟨by omega, by omega⟩ trivial (L2 := [some (kA (45)), some (kI (v)), some (kI (T 0)), some (kI (T 1)), some (kI (P)), some (kI (su2)), some (kI (fd 55 v)), some (kI (((c : Int)) + 1)), some (kI (lf2)), some (kI (su2)), some (kI (y2)), some (kI (k2)), o2]) rfl ?_
                refine kw_goto (tgt := 65) dX7_share_292 (by decide) ?_
                have q3 : su2 = val T s c ∧ 0 ≤ su2 ∧ ∀ k : Nat, k < tn T → fd 55 (k : Int) = ((dd T c k : Nat) : Int) := by
                  rcases q2 with q2 | q2
                  · exact absurd q2.1 (by omega)
                  · exact q2.2
                obtain ⟨q4, q5, q6⟩ := q3
                have eb := bst_new (T := T) (s := s) (c := c) (by omega)
                refine ih (c + 1) _ _ (_, _, _, _, _) _ (by omega) (by omega) q1 ?_ ?_
                · rw [eb]; exact q4
                · unfold moF
                  rw [eb]
                  dsimp only
                  first
                    | (rw [if_pos (Or.inr (by omega))]; done)
                    | (have q7 := q6 v.toNat (by omega)
                       rw [k_nat (by omega)] at q7
                       rw [if_neg (by omega)]
                       unfold ow
                       first
                         | (rw [if_neg (by omega)]; done)
                         | (rw [if_pos (by have := dd_lt (T := T) (c := c) (k := v.toNat); omega)]; exact q7))
              · refine kw_bipush dX7_share_276 (by decide) (by decide) ?_
                refine kw_goto (tgt := 287) dX7_share_278 (by decide) ?_
                refine kw_istore dX7_share_287 (by decide) trivial (L2 := [some (kA (45)), some (kI (v)), some (kI (T 0)), some (kI (T 1)), some (kI (P)), some (kI (su2)), some (kI (-4)), some (kI ((c : Int))), some (kI (lf2)), some (kI (su2)), some (kI (y2)), some (kI (k2)), o2]) rfl ?_
                refine kw_iinc dX7_share_289 (by decide) rfl ⟨by omega, by omega⟩ trivial (L2 := [some (kA (45)), some (kI (v)), some (kI (T 0)), some (kI (T 1)), some (kI (P)), some (kI (su2)), some (kI (-4)), some (kI (((c : Int)) + 1)), some (kI (lf2)), some (kI (su2)), some (kI (y2)), some (kI (k2)), o2]) rfl ?_
                refine kw_goto (tgt := 65) dX7_share_292 (by decide) ?_
                have q3 : su2 = val T s c ∧ 0 ≤ su2 ∧ ∀ k : Nat, k < tn T → fd 55 (k : Int) = ((dd T c k : Nat) : Int) := by
                  rcases q2 with q2 | q2
                  · exact absurd q2.1 (by omega)
                  · exact q2.2
                obtain ⟨q4, q5, q6⟩ := q3
                have eb := bst_new (T := T) (s := s) (c := c) (by omega)
                refine ih (c + 1) _ _ (_, _, _, _, _) _ (by omega) (by omega) q1 ?_ ?_
                · rw [eb]; exact q4
                · unfold moF
                  rw [eb]
                  dsimp only
                  first
                    | (rw [if_pos (Or.inr (by omega))]; done)
                    | (have q7 := q6 v.toNat (by omega)
                       rw [k_nat (by omega)] at q7
                       rw [if_neg (by omega)]
                       unfold ow
                       first
                         | (rw [if_neg (by omega)]; done)
                         | (rw [if_pos (by have := dd_lt (T := T) (c := c) (k := v.toNat); omega)]; exact q7))
      · rw [p2 (i : Int) (by omega) (by omega), sfx, Int.add_zero]
theorem c_mshare {E : kEnv} {f : Nat → Int → Int} {s : Int → Int} {g : Nat → Int → Option Nat} {v : Int} (hm : kGM g) (hT : mTO (f 47)) (hS : mSO (f 47) s) (hC : mCO (f 47) s) (h28 : 0 ≤ s 28 ∧ s 28 ≤ 99) : kFE E 2 M_X7_share [kA 45, kI v] ((kMC ++ kMM), kst f 50 s, g) (some (kI (sShare (f 47) s v))) (kMC ++ kMM) (fun h2 => ∃ f3, mE f f3 ∧ h2 = kst f3 50 s) g := by
  refine kFE_of (by decide) (by simp [k_one]) (Nat.le_of_ble_eq_true rfl) (L := [some (kA 45), some (kI v), none, none, none, none, none, none, none, none, none, none, none]) rfl ?_
  have n0 := hT.1
  have n1 := hT.2.1
  have w3 := tmn (f 47)
  refine kw_iload_n dX7_share_0 rfl ?_
  refine kw_iconst dX7_share_1 ⟨by decide, by decide⟩ ?_
  refine kw_icmp_eq (tgt := 15) dX7_share_2 (by decide) (fun h1 => ?_) (fun h1 => ?_)
  · refine kw_aload_n dX7_share_15 rfl ?_
    refine kv_getR (b := 47) dX7_share_16 kf_X7_13 rfl rfl rfl (hm (45, 2, 47) (by decide)) ?_
    refine kw_iconst dX7_share_19 ⟨by decide, by decide⟩ ?_
    refine kv_iald dX7_share_20 rfl (by omega) (by omega) (congrFun (kst_ne (by decide)) _) ?_
    refine kw_istore_n dX7_share_21 (by decide) trivial (L2 := [some (kA (45)), some (kI (v)), some (kI (f 47 0)), none, none, none, none, none, none, none, none, none, none]) rfl ?_
    refine kw_aload_n dX7_share_22 rfl ?_
    refine kv_getR (b := 47) dX7_share_23 kf_X7_13 rfl rfl rfl (hm (45, 2, 47) (by decide)) ?_
    refine kw_iconst dX7_share_26 ⟨by decide, by decide⟩ ?_
    refine kv_iald dX7_share_27 rfl (by omega) (by omega) (congrFun (kst_ne (by decide)) _) ?_
    refine kw_istore_n dX7_share_28 (by decide) trivial (L2 := [some (kA (45)), some (kI (v)), some (kI (f 47 0)), some (kI (f 47 1)), none, none, none, none, none, none, none, none, none]) rfl ?_
    refine kw_iconst dX7_share_29 ⟨by decide, by decide⟩ ?_
    refine kw_istore dX7_share_30 (by decide) trivial (L2 := [some (kA (45)), some (kI (v)), some (kI (f 47 0)), some (kI (f 47 1)), some (kI (1)), none, none, none, none, none, none, none, none]) rfl ?_
    refine kw_iconst dX7_share_32 ⟨by decide, by decide⟩ ?_
    refine kw_istore dX7_share_33 (by decide) trivial (L2 := [some (kA (45)), some (kI (v)), some (kI (f 47 0)), some (kI (f 47 1)), some (kI (1)), some (kI (0)), none, none, none, none, none, none, none]) rfl ?_
    refine l_mshare1 (T := f 47) hm hT hS hC h28 ?_ _ 0 1 (Nat.zero_le _) (Nat.lt_succ_self _) rfl
    refine kw_iconst dX7_share_55 ⟨by decide, by decide⟩ ?_
    refine kw_istore dX7_share_56 (by decide) trivial (L2 := [some (kA (45)), some (kI (v)), some (kI (f 47 0)), some (kI (f 47 1)), some (kI (((tM (f 47) ^ tn (f 47) : Nat) : Int))), some (kI (-1)), none, none, none, none, none, none, none]) rfl ?_
    refine kw_bipush dX7_share_58 (by decide) (by decide) ?_
    refine kw_istore dX7_share_60 (by decide) trivial (L2 := [some (kA (45)), some (kI (v)), some (kI (f 47 0)), some (kI (f 47 1)), some (kI (((tM (f 47) ^ tn (f 47) : Nat) : Int))), some (kI (-1)), some (kI (-4)), none, none, none, none, none, none]) rfl ?_
    refine kw_iconst dX7_share_62 ⟨by decide, by decide⟩ ?_
    refine kw_istore dX7_share_63 (by decide) trivial (L2 := [some (kA (45)), some (kI (v)), some (kI (f 47 0)), some (kI (f 47 1)), some (kI (((tM (f 47) ^ tn (f 47) : Nat) : Int))), some (kI (-1)), some (kI (-4)), some (kI (0)), none, none, none, none, none]) rfl ?_
    exact l_mshare4 hm hT hS hC h28 rfl (by omega) rfl _ 0 _ _ (_, _, _, _, _) f (Nat.zero_le _) (Nat.lt_succ_self _) mE_rf rfl (by unfold moF; rw [if_pos (Or.inl (by unfold bst; decide))])
  · refine kw_aload_n dX7_share_5 rfl ?_
    refine kw_iload_n dX7_share_6 rfl ?_
    refine kv_callV1 (M2 := M_X7_isBough) (As := [kI (v)]) dX7_share_7 ml_X7_90 q_X7_isBough rfl rfl rfl (Nat.le_of_ble_eq_true rfl) (c_misBough hm hT) (by omega) ?_
    refine kv_ifneB (tgt := 15) dX7_share_10 (by decide) (fun h2 => ?_) (fun h2 => ?_)
    · refine kw_aload_n dX7_share_15 rfl ?_
      refine kv_getR (b := 47) dX7_share_16 kf_X7_13 rfl rfl rfl (hm (45, 2, 47) (by decide)) ?_
      refine kw_iconst dX7_share_19 ⟨by decide, by decide⟩ ?_
      refine kv_iald dX7_share_20 rfl (by omega) (by omega) (congrFun (kst_ne (by decide)) _) ?_
      refine kw_istore_n dX7_share_21 (by decide) trivial (L2 := [some (kA (45)), some (kI (v)), some (kI (f 47 0)), none, none, none, none, none, none, none, none, none, none]) rfl ?_
      refine kw_aload_n dX7_share_22 rfl ?_
      refine kv_getR (b := 47) dX7_share_23 kf_X7_13 rfl rfl rfl (hm (45, 2, 47) (by decide)) ?_
      refine kw_iconst dX7_share_26 ⟨by decide, by decide⟩ ?_
      refine kv_iald dX7_share_27 rfl (by omega) (by omega) (congrFun (kst_ne (by decide)) _) ?_
      refine kw_istore_n dX7_share_28 (by decide) trivial (L2 := [some (kA (45)), some (kI (v)), some (kI (f 47 0)), some (kI (f 47 1)), none, none, none, none, none, none, none, none, none]) rfl ?_
      refine kw_iconst dX7_share_29 ⟨by decide, by decide⟩ ?_
      refine kw_istore dX7_share_30 (by decide) trivial (L2 := [some (kA (45)), some (kI (v)), some (kI (f 47 0)), some (kI (f 47 1)), some (kI (1)), none, none, none, none, none, none, none, none]) rfl ?_
      refine kw_iconst dX7_share_32 ⟨by decide, by decide⟩ ?_
      refine kw_istore dX7_share_33 (by decide) trivial (L2 := [some (kA (45)), some (kI (v)), some (kI (f 47 0)), some (kI (f 47 1)), some (kI (1)), some (kI (0)), none, none, none, none, none, none, none]) rfl ?_
      refine l_mshare1 (T := f 47) hm hT hS hC h28 ?_ _ 0 1 (Nat.zero_le _) (Nat.lt_succ_self _) rfl
      refine kw_iconst dX7_share_55 ⟨by decide, by decide⟩ ?_
      refine kw_istore dX7_share_56 (by decide) trivial (L2 := [some (kA (45)), some (kI (v)), some (kI (f 47 0)), some (kI (f 47 1)), some (kI (((tM (f 47) ^ tn (f 47) : Nat) : Int))), some (kI (-1)), none, none, none, none, none, none, none]) rfl ?_
      refine kw_bipush dX7_share_58 (by decide) (by decide) ?_
      refine kw_istore dX7_share_60 (by decide) trivial (L2 := [some (kA (45)), some (kI (v)), some (kI (f 47 0)), some (kI (f 47 1)), some (kI (((tM (f 47) ^ tn (f 47) : Nat) : Int))), some (kI (-1)), some (kI (-4)), none, none, none, none, none, none]) rfl ?_
      refine kw_iconst dX7_share_62 ⟨by decide, by decide⟩ ?_
      refine kw_istore dX7_share_63 (by decide) trivial (L2 := [some (kA (45)), some (kI (v)), some (kI (f 47 0)), some (kI (f 47 1)), some (kI (((tM (f 47) ^ tn (f 47) : Nat) : Int))), some (kI (-1)), some (kI (-4)), some (kI (0)), none, none, none, none, none]) rfl ?_
      exact l_mshare4 hm hT hS hC h28 rfl (by omega) rfl _ 0 _ _ (_, _, _, _, _) f (Nat.zero_le _) (Nat.lt_succ_self _) mE_rf rfl (by unfold moF; rw [if_pos (Or.inl (by unfold bst; decide))])
    · refine kw_iconst dX7_share_13 ⟨by decide, by decide⟩ ?_
      exact kv_riE dX7_share_14 rfl (Eq.symm (by unfold sShare; rw [if_neg (by omega), if_neg (by omega)])) ⟨f, mE_rf, rfl⟩
