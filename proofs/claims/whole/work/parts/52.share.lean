/-! share: the ways of a day as numbers, the best of them -/
abbrev tm (T : Int → Int) : Nat := (T 1).toNat
abbrev tn (T : Int → Int) : Nat := (T 0).toNat
abbrev tM (T : Int → Int) : Nat := (T 1).toNat + 1
theorem tmn (T : Int → Int) : tm T = (T 1).toNat ∧ tn T = (T 0).toNat ∧ tM T = tm T + 1 := ⟨rfl, rfl, rfl⟩
/-- who has the bough k by the way c -/
def dd (T : Int → Int) (c k : Nat) : Nat := c / tM T ^ (tn T - 1 - k) % tM T
theorem dd_lt {T : Int → Int} {c k : Nat} : dd T c k < tM T := Nat.mod_lt _ (Nat.succ_pos _)
theorem tM_pos {T : Int → Int} {k : Nat} : 0 < tM T ^ k := Nat.pow_pos (Nat.succ_pos _)
abbrev KK (T : Int → Int) (b : Nat) : Nat := tM T ^ (tn T - b)
theorem dd_same {T : Int → Int} {b q r k : Nat} (hr : r < KK T b) (hk : k < b) (hk2 : k < tn T) : dd T (KK T b * q + r) k = dd T (KK T b * q) k := by
  by_cases hb : b ≤ tn T
  · have e : tn T - 1 - k = (tn T - b) + (b - 1 - k) := by omega
    unfold dd
    rw [e, Nat.pow_add, ← Nat.div_div_eq_div_mul, ← Nat.div_div_eq_div_mul, Nat.mul_add_div tM_pos, Nat.div_eq_of_lt hr, Nat.mul_div_cancel_left _ tM_pos, Nat.add_zero]
  · have e : KK T b = 1 := by
      unfold KK
      rw [show tn T - b = 0 by omega, Nat.pow_zero]
    rw [e] at hr
    rw [show r = 0 by omega, Nat.add_zero]
theorem KK_s {T : Int → Int} {b : Nat} (hb : b < tn T) : KK T b = KK T (b + 1) * tM T := by
  unfold KK
  rw [show tn T - b = (tn T - (b + 1)) + 1 by omega, Nat.pow_succ]
theorem KK_e {T : Int → Int} {b : Nat} (hb : tn T ≤ b) : KK T b = 1 := by
  unfold KK
  rw [show tn T - b = 0 by omega, Nat.pow_zero]
theorem dd_child {T : Int → Int} {b q i r : Nat} (hb : b < tn T) (hi : i < tM T) (hr : r < KK T (b + 1)) : dd T (KK T (b + 1) * (tM T * q + i) + r) b = i := by
  unfold dd
  rw [show tn T - 1 - b = tn T - (b + 1) by omega]
  show (KK T (b + 1) * (tM T * q + i) + r) / KK T (b + 1) % tM T = i
  rw [Nat.mul_add_div tM_pos, Nat.div_eq_of_lt hr, Nat.add_zero, Nat.mul_add_mod, Nat.mod_eq_of_lt hi]
/-- the way that goes on from q, the bough b to i -/
def ch (T : Int → Int) (b q i : Nat) : Nat := if b < tn T then tM T * q + i else q
theorem ch_lo {T : Int → Int} {b q i : Nat} (hi : i < tM T) : ∃ r, r < KK T b ∧ KK T (b + 1) * ch T b q i = KK T b * q + r := by
  unfold ch
  by_cases hb : b < tn T
  · rw [if_pos hb, KK_s hb]
    refine ⟨KK T (b + 1) * i, Nat.mul_lt_mul_of_pos_left hi tM_pos, ?_⟩
    rw [Nat.mul_add, Nat.mul_assoc]
  · rw [if_neg hb, KK_e (by omega : tn T ≤ b + 1), KK_e (by omega : tn T ≤ b)]
    exact ⟨0, by omega, by omega⟩
theorem ch_same {T : Int → Int} {b q i r k : Nat} (hi : i < tM T) (hr : r < KK T (b + 1)) (hk : k < b) (hk2 : k < tn T) : dd T (KK T (b + 1) * ch T b q i + r) k = dd T (KK T b * q) k := by
  obtain ⟨u, hu, e⟩ := ch_lo (b := b) (q := q) hi
  rw [dd_same hr (by omega) hk2, e, dd_same hu hk hk2]
theorem ch_b {T : Int → Int} {b q i r : Nat} (hb : b < tn T) (hi : i < tM T) (hr : r < KK T (b + 1)) : dd T (KK T (b + 1) * ch T b q i + r) b = i := by
  unfold ch
  rw [if_pos hb]
  exact dd_child hb hi hr
theorem ch_0 {T : Int → Int} {b q : Nat} : KK T (b + 1) * ch T b q 0 = KK T b * q := by
  unfold ch
  by_cases hb : b < tn T
  · rw [if_pos hb, KK_s hb, Nat.mul_assoc]
    rfl
  · rw [if_neg hb, KK_e (by omega : tn T ≤ b + 1), KK_e (by omega : tn T ≤ b)]
theorem ch_m {T : Int → Int} {b q : Nat} : KK T (b + 1) * (ch T b q (tm T) + 1) = KK T b * (q + 1) := by
  unfold ch
  by_cases hb : b < tn T
  · rw [if_pos hb, KK_s hb, Nat.mul_assoc, Nat.mul_add (tM T) q 1, Nat.mul_one, Nat.add_assoc]
  · rw [if_neg hb, KK_e (by omega : tn T ≤ b + 1), KK_e (by omega : tn T ≤ b)]
theorem ch_s {T : Int → Int} {b q i : Nat} (hb : b < tn T) : ch T b q (i + 1) = ch T b q i + 1 := by
  unfold ch
  rw [if_pos hb, if_pos hb, Nat.add_assoc]
/-- the weight of those boughs below b for which p -/
def gsm (p : Nat → Bool) (T : Int → Int) : Nat → Int
  | 0 => 0
  | b + 1 => gsm p T b + (if p b = true then T (21 + (b : Int)) else 0)
theorem gsm_cong {p p2 : Nat → Bool} {T : Int → Int} : ∀ b : Nat, (∀ k, k < b → p k = p2 k) → gsm p T b = gsm p2 T b
  | 0, _ => rfl
  | b + 1, h => by rw [gsm, gsm, gsm_cong b (fun k hk => h k (by omega)), h b (by omega)]
theorem gsm_rng {p : Nat → Bool} {T : Int → Int} (hT : mTO T) : ∀ b : Nat, b ≤ tn T → 0 ≤ gsm p T b ∧ gsm p T b ≤ 20 * b
  | 0, _ => by simp [gsm]
  | b + 1, h => by
    have w3 := tmn T
    have ih := gsm_rng (p := p) hT b (by omega)
    have t := (hT.2.2.2.2.2.1 b (by omega) (by omega)).2.2
    rw [gsm]
    split <;> omega
def dI (T : Int → Int) (c i : Nat) : Nat → Bool := fun k => decide (dd T c k = i)
def dN (T : Int → Int) (c : Nat) : Nat → Bool := fun k => decide (dd T c k < tm T)
theorem gsm_dN {T : Int → Int} {c : Nat} (hm : tm T ≤ 4) : ∀ b : Nat, gsm (dN T c) T b = (if 0 < tm T then gsm (dI T c 0) T b else 0) + (if 1 < tm T then gsm (dI T c 1) T b else 0) + (if 2 < tm T then gsm (dI T c 2) T b else 0) + (if 3 < tm T then gsm (dI T c 3) T b else 0)
  | 0 => by simp [gsm]
  | b + 1 => by
    have ih := gsm_dN (c := c) hm b
    rw [gsm, gsm, gsm, gsm, gsm, ih]
    simp only [dI, dN, decide_eq_true_eq]
    rcases (show tm T = 0 ∨ tm T = 1 ∨ tm T = 2 ∨ tm T = 3 ∨ tm T = 4 by omega) with h | h | h | h | h <;> rw [h] <;> rcases (show dd T c b = 0 ∨ dd T c b = 1 ∨ dd T c b = 2 ∨ dd T c b = 3 ∨ 4 ≤ dd T c b by omega) with z | z | z | z | z
    all_goals first
      | (simp [z]; done)
      | (simp [z]; omega)
      | (have q1 : ¬ dd T c b < 0 := by omega
         have q2 : ¬ dd T c b < 1 := by omega
         have q3 : ¬ dd T c b < 2 := by omega
         have q4 : ¬ dd T c b < 3 := by omega
         have q5 : ¬ dd T c b < 4 := by omega
         have r1 : ¬ dd T c b = 0 := by omega
         have r2 : ¬ dd T c b = 1 := by omega
         have r3 : ¬ dd T c b = 2 := by omega
         have r4 : ¬ dd T c b = 3 := by omega
         simp [q1, q2, q3, q4, q5, r1, r2, r3, r4])
/-- the first b of the way c can be had -/
def fzB (T s : Int → Int) (c : Nat) : Nat → Bool
  | 0 => true
  | b + 1 => fzB T s c b && (!(dN T c b) || (decide (mCan T s (dd T c b : Nat) b) && decide (s (24 + ((dd T c b : Nat) : Int)) + gsm (dI T c (dd T c b)) T b + T (21 + (b : Int)) ≤ T (29 + ((dd T c b : Nat) : Int)))))
theorem fzB_same {T s : Int → Int} {c c2 : Nat} : ∀ b : Nat, (∀ k, k < b → dd T c k = dd T c2 k) → fzB T s c b = fzB T s c2 b
  | 0, _ => rfl
  | b + 1, h => by
    have e : gsm (dI T c (dd T c2 b)) T b = gsm (dI T c2 (dd T c2 b)) T b := gsm_cong b (fun k hk => by unfold dI; rw [h k (by omega)])
    rw [fzB, fzB, fzB_same b (fun k hk => h k (by omega))]
    unfold dN
    rw [h b (by omega), e]
theorem fzB_mono {T s : Int → Int} {c b : Nat} : ∀ k : Nat, fzB T s c (b + k) = true → fzB T s c b = true
  | 0, h => h
  | k + 1, h => by
    rw [← Nat.add_assoc, fzB, Bool.and_eq_true] at h
    exact fzB_mono k h.1
/-- nobody carries more than his back bears -/
def mCO (T s : Int → Int) : Prop := ∀ i, 0 ≤ i → i < T 1 → s (24 + i) ≤ T (29 + i)
theorem fzB_free {T s : Int → Int} {c : Nat} (hT : mTO T) (hC : mCO T s) : ∀ b : Nat, fzB T s c b = true → ∀ i : Nat, i < tm T → s (24 + (i : Int)) + gsm (dI T c i) T b ≤ T (29 + (i : Int))
  | 0, _, i, hi => by
    have n1 := hT.2.1
    have w3 := tmn T
    have z := hC i (by omega) (by omega)
    rw [gsm]
    omega
  | b + 1, h, i, hi => by
    rw [fzB, Bool.and_eq_true] at h
    have ih := fzB_free hT hC b h.1 i hi
    have z := h.2
    rw [gsm]
    by_cases e : dd T c b = i
    · rw [show dI T c i b = true by unfold dI; exact decide_eq_true e, if_pos rfl]
      have e2 : dN T c b = true := by unfold dN; exact decide_eq_true (by omega)
      rw [e2, e] at z
      simp only [Bool.not_true, Bool.false_or, Bool.and_eq_true, decide_eq_true_eq] at z
      omega
    · rw [show dI T c i b = false by unfold dI; exact decide_eq_false e, if_neg (by decide)]
      omega
def val (T s : Int → Int) (c : Nat) : Int := if fzB T s c (tn T) = true then gsm (dN T c) T (tn T) else -1
def bst (T s : Int → Int) : Nat → Int × Nat
  | 0 => (-1, 0)
  | c + 1 => if (bst T s c).1 < val T s c then (val T s c, c) else bst T s c
theorem bst_s {T s : Int → Int} {c : Nat} : bst T s (c + 1) = if (bst T s c).1 < val T s c then (val T s c, c) else bst T s c := rfl
theorem val_rng {T s : Int → Int} {c : Nat} (hT : mTO T) : -1 ≤ val T s c ∧ val T s c ≤ 160 := by
  have n0 := hT.1
  have w3 := tmn T
  have z := gsm_rng (p := dN T c) hT (tn T) (Nat.le_refl _)
  unfold val
  split <;> omega
theorem bst_rng {T s : Int → Int} (hT : mTO T) : ∀ c : Nat, -1 ≤ (bst T s c).1 ∧ (bst T s c).1 ≤ 160
  | 0 => by simp [bst]
  | c + 1 => by
    have ih := bst_rng (s := s) hT c
    have z := val_rng (s := s) (c := c) hT
    rw [bst]
    split
    · exact z
    · exact ih
theorem bst_skip {T s : Int → Int} {lo : Nat} : ∀ k : Nat, (∀ r, r < k → val T s (lo + r) ≤ (bst T s lo).1) → bst T s (lo + k) = bst T s lo
  | 0, _ => rfl
  | k + 1, h => by
    have ih := bst_skip k (fun r hr => h r (by omega))
    rw [← Nat.add_assoc, bst, ih, if_neg (by have := h k (by omega); omega)]
theorem bst_mono {T s : Int → Int} {c : Nat} : ∀ k : Nat, (bst T s c).1 ≤ (bst T s (c + k)).1
  | 0 => Int.le_refl _
  | k + 1 => by
    have ih := bst_mono (T := T) (s := s) (c := c) k
    rw [← Nat.add_assoc, bst]
    split
    · omega
    · exact ih
theorem bst_le {T s : Int → Int} {c : Nat} : val T s c ≤ (bst T s (c + 1)).1 := by
  rw [bst]
  split
  · exact Int.le_refl _
  · omega
/-- nothing for anybody is a way -/
theorem dd_last {T : Int → Int} (hT : mTO T) : ∀ k, k < tn T → dd T (tM T ^ tn T - 1) k = tm T := by
  have n0 := hT.1
  have w3 := tmn T
  have n1 := hT.2.1
  have key : ∀ m, m < 5 → ∀ n, n < 9 → ∀ k, k < n → ((m + 1) ^ n - 1) / (m + 1) ^ (n - 1 - k) % (m + 1) = m := by decide +kernel
  exact fun k hk => key (tm T) (by omega) (tn T) (by omega) k hk
theorem fzB_last {T s : Int → Int} (hT : mTO T) : ∀ b : Nat, b ≤ tn T → fzB T s (tM T ^ tn T - 1) b = true
  | 0, _ => rfl
  | b + 1, h => by
    rw [fzB, fzB_last hT b (by omega), Bool.true_and]
    have e : dN T (tM T ^ tn T - 1) b = false := by
      unfold dN
      rw [dd_last hT b (by omega)]
      exact decide_eq_false (by omega)
    rw [e]
    rfl
theorem bst_pos {T s : Int → Int} (hT : mTO T) : 0 ≤ (bst T s (tM T ^ tn T)).1 := by
  have z := bst_le (T := T) (s := s) (c := tM T ^ tn T - 1)
  have p : 0 < tM T ^ tn T := tM_pos
  rw [show tM T ^ tn T - 1 + 1 = tM T ^ tn T by omega] at z
  have z2 := (gsm_rng (p := dN T (tM T ^ tn T - 1)) hT (tn T) (Nat.le_refl _)).1
  unfold val at z
  rw [if_pos (fzB_last hT _ (Nat.le_refl _))] at z
  omega
def ow (T : Int → Int) (d : Nat) : Int := if d < tm T then (d : Int) else -4
def sShare (T s : Int → Int) (b : Int) : Int := if b = -1 then (bst T s (tM T ^ tn T)).1 else if 0 ≤ b ∧ b ≤ T 0 - 1 then ow T (dd T (bst T s (tM T ^ tn T)).2 b.toNat) else -1
/-! what is had, and left free, where the ways go on from q -/
abbrev lo (T : Int → Int) (b q : Nat) : Nat := KK T b * q
abbrev had (T : Int → Int) (b q : Nat) : Int := gsm (dN T (lo T b q)) T (min b (tn T))
def fr (T s : Int → Int) (b q i : Nat) : Int := if i < tm T then T (29 + (i : Int)) - s (24 + (i : Int)) - gsm (dI T (lo T b q) i) T (min b (tn T)) else 0
abbrev fa (T s : Int → Int) (b q : Nat) : Int := fr T s b q 0 + fr T s b q 1 + fr T s b q 2 + fr T s b q 3
theorem ch_gsm {T : Int → Int} {b q i : Nat} {p : Nat → Nat → Bool} (hi : i < tM T) (hp : ∀ c c2 k, dd T c k = dd T c2 k → p c k = p c2 k) : gsm (p (lo T (b + 1) (ch T b q i))) T (min (b + 1) (tn T)) = gsm (p (lo T b q)) T (min b (tn T)) + (if b < tn T ∧ p (lo T (b + 1) (ch T b q i)) b = true then T (21 + (b : Int)) else 0) := by
  have e : gsm (p (lo T (b + 1) (ch T b q i))) T (min b (tn T)) = gsm (p (lo T b q)) T (min b (tn T)) := gsm_cong _ (fun k hk => hp _ _ _ (by
    have := ch_same (b := b) (q := q) (r := 0) (k := k) hi tM_pos (by omega) (by omega)
    exact this))
  by_cases hb : b < tn T
  · rw [show min (b + 1) (tn T) = b + 1 by omega, gsm]
    rw [show min b (tn T) = b by omega] at e ⊢
    rw [e]
    by_cases z : p (lo T (b + 1) (ch T b q i)) b = true
    · rw [if_pos z, if_pos ⟨hb, z⟩]
    · rw [if_neg z, if_neg (fun y => z y.2)]
  · rw [if_neg (fun y => hb y.1), Int.add_zero, show min (b + 1) (tn T) = min b (tn T) by omega, e]
theorem ch_had {T : Int → Int} {b q i : Nat} (hi : i < tM T) : had T (b + 1) (ch T b q i) = had T b q + (if b < tn T ∧ i < tm T then T (21 + (b : Int)) else 0) := by
  have h := ch_gsm (T := T) (b := b) (q := q) (i := i) (p := dN T) hi (fun c c2 k e => by unfold dN; rw [e])
  unfold had
  rw [h]
  congr 1
  by_cases hb : b < tn T
  · have e : dd T (lo T (b + 1) (ch T b q i)) b = i := ch_b (r := 0) hb hi tM_pos
    have e2 : dN T (lo T (b + 1) (ch T b q i)) b = decide (i < tm T) := by unfold dN; rw [e]
    rw [e2]
    by_cases z : i < tm T
    · rw [if_pos ⟨hb, decide_eq_true z⟩, if_pos ⟨hb, z⟩]
    · rw [if_neg (fun y => z (of_decide_eq_true y.2)), if_neg (fun y => z y.2)]
  · rw [if_neg (fun y => hb y.1), if_neg (fun y => hb y.1)]
theorem ch_fr {T s : Int → Int} {b q i j : Nat} (hi : i < tM T) : fr T s (b + 1) (ch T b q i) j = fr T s b q j - (if b < tn T ∧ j < tm T ∧ i = j then T (21 + (b : Int)) else 0) := by
  unfold fr
  by_cases hj : j < tm T
  · rw [if_pos hj, if_pos hj]
    have h := ch_gsm (T := T) (b := b) (q := q) (i := i) (p := fun c => dI T c j) hi (fun c c2 k e => by unfold dI; rw [e])
    rw [h]
    by_cases hb : b < tn T
    · have e : dd T (lo T (b + 1) (ch T b q i)) b = i := ch_b (r := 0) hb hi tM_pos
      have e2 : dI T (lo T (b + 1) (ch T b q i)) j b = decide (i = j) := by unfold dI; rw [e]
      rw [e2]
      by_cases z : i = j
      · rw [if_pos ⟨hb, decide_eq_true z⟩, if_pos ⟨hb, hj, z⟩]; omega
      · rw [if_neg (fun y => z (of_decide_eq_true y.2)), if_neg (fun y => z y.2.2)]; omega
    · rw [if_neg (fun y => hb y.1), if_neg (fun y => hb y.1)]; omega
  · rw [if_neg hj, if_neg hj, if_neg (fun y => hj y.2.1)]; omega
theorem ch_fz {T s : Int → Int} {b q i : Nat} (hi : i < tM T) (h : fzB T s (lo T b q) (min b (tn T)) = true) (hc : b < tn T → i < tm T → mCan T s (i : Int) (b : Int) ∧ T (21 + (b : Int)) ≤ fr T s b q i) : fzB T s (lo T (b + 1) (ch T b q i)) (min (b + 1) (tn T)) = true := by
  have e : fzB T s (lo T (b + 1) (ch T b q i)) (min b (tn T)) = true := by
    rw [← h]
    exact fzB_same _ (fun k hk => ch_same (b := b) (q := q) (r := 0) (k := k) hi tM_pos (by omega) (by omega))
  by_cases hb : b < tn T
  · rw [show min (b + 1) (tn T) = b + 1 by omega, fzB]
    rw [show min b (tn T) = b by omega] at e
    have e1 : dd T (lo T (b + 1) (ch T b q i)) b = i := ch_b (r := 0) hb hi tM_pos
    have e2 : dN T (lo T (b + 1) (ch T b q i)) b = decide (i < tm T) := by unfold dN; rw [e1]
    rw [e, Bool.true_and, e1, e2]
    by_cases z : i < tm T
    · obtain ⟨c1, c2⟩ := hc hb z
      have e3 : gsm (dI T (lo T (b + 1) (ch T b q i)) i) T b = gsm (dI T (lo T b q) i) T b := gsm_cong _ (fun k hk => by
        unfold dI
        rw [show dd T (lo T (b + 1) (ch T b q i)) k = dd T (lo T b q) k from ch_same (b := b) (q := q) (r := 0) (k := k) hi tM_pos (by omega) (by omega)])
      unfold fr at c2
      rw [if_pos z, show min b (tn T) = b by omega] at c2
      rw [e3, decide_eq_true z, decide_eq_true c1, decide_eq_true (by omega)]
      rfl
    · rw [decide_eq_false z]
      rfl
  · rw [show min (b + 1) (tn T) = min b (tn T) by omega]
    exact e
/-- no way goes on so -/
theorem bst_inf {T s : Int → Int} {b q i : Nat} (hT : mTO T) (hb : b < tn T) (hi : i < tm T) (h : ¬ (mCan T s (i : Int) (b : Int) ∧ T (21 + (b : Int)) ≤ fr T s b q i)) : bst T s (lo T (b + 1) (ch T b q (i + 1))) = bst T s (lo T (b + 1) (ch T b q i)) := by
  have w3 := tmn T
  rw [ch_s hb]
  show bst T s (KK T (b + 1) * (ch T b q i + 1)) = _
  rw [Nat.mul_add, Nat.mul_one]
  refine bst_skip _ (fun r hr => ?_)
  have z := bst_rng (s := s) hT (lo T (b + 1) (ch T b q i))
  have hv : val T s (lo T (b + 1) (ch T b q i) + r) = -1 := by
    unfold val
    refine if_neg (fun y => h ?_)
    have y1 : fzB T s (lo T (b + 1) (ch T b q i) + r) (b + 1) = true := fzB_mono (tn T - (b + 1)) (by rw [show b + 1 + (tn T - (b + 1)) = tn T by omega]; exact y)
    rw [fzB, Bool.and_eq_true] at y1
    have e1 : dd T (lo T (b + 1) (ch T b q i) + r) b = i := ch_b hb (by omega) hr
    have e2 : dN T (lo T (b + 1) (ch T b q i) + r) b = true := by unfold dN; rw [e1]; exact decide_eq_true hi
    have e3 : gsm (dI T (lo T (b + 1) (ch T b q i) + r) i) T b = gsm (dI T (lo T b q) i) T b := gsm_cong _ (fun k hk => by
      unfold dI
      rw [show dd T (lo T (b + 1) (ch T b q i) + r) k = dd T (lo T b q) k from ch_same (b := b) (q := q) (k := k) (by omega) hr (by omega) (by omega)])
    have y2 := y1.2
    rw [e1, e2, e3] at y2
    simp only [Bool.not_true, Bool.false_or, Bool.and_eq_true, decide_eq_true_eq] at y2
    refine ⟨y2.1, ?_⟩
    unfold fr
    rw [if_pos hi, show min b (tn T) = b by omega]
    omega
  rw [show KK T (b + 1) * ch T b q i + r = lo T (b + 1) (ch T b q i) + r from rfl, hv]
  exact z.1
/-- no way that goes on from q is better -/
theorem bst_prune {T s : Int → Int} {b q : Nat} {R : Int} (hT : mTO T) (hC : mCO T s) (hR : ∀ c, fzB T s c (tn T) = true → gsm (dN T c) T (tn T) - gsm (dN T c) T (min b (tn T)) ≤ R) (h : had T b q + R ≤ (bst T s (lo T b q)).1 ∨ had T b q + fa T s b q ≤ (bst T s (lo T b q)).1) : bst T s (lo T b (q + 1)) = bst T s (lo T b q) := by
  have n0 := hT.1
  have w3 := tmn T
  have n1 := hT.2.1
  show bst T s (KK T b * (q + 1)) = _
  rw [Nat.mul_add, Nat.mul_one]
  refine bst_skip _ (fun r hr => ?_)
  have z := bst_rng (s := s) hT (lo T b q)
  unfold val
  split
  · rename_i y
    have hs : ∀ k, k < min b (tn T) → dd T (KK T b * q + r) k = dd T (lo T b q) k := fun k hk => dd_same hr (by omega) (by omega)
    have e1 : gsm (dN T (KK T b * q + r)) T (min b (tn T)) = had T b q := gsm_cong _ (fun k hk => by unfold dN; rw [hs k hk])
    rcases h with h | h
    · have := hR _ y
      show gsm (dN T (KK T b * q + r)) T (tn T) ≤ (bst T s (lo T b q)).1
      omega
    · have g1 := gsm_dN (T := T) (c := KK T b * q + r) (by omega) (tn T)
      have g2 := gsm_dN (T := T) (c := KK T b * q + r) (by omega) (min b (tn T))
      have key : ∀ i, (if i < tm T then gsm (dI T (KK T b * q + r) i) T (tn T) else 0) - (if i < tm T then gsm (dI T (KK T b * q + r) i) T (min b (tn T)) else 0) ≤ fr T s b q i := by
        intro i
        unfold fr
        by_cases hi : i < tm T
        · rw [if_pos hi, if_pos hi, if_pos hi]
          have q1 := fzB_free hT hC _ y i hi
          have e2 : gsm (dI T (KK T b * q + r) i) T (min b (tn T)) = gsm (dI T (lo T b q) i) T (min b (tn T)) := gsm_cong _ (fun k hk => by unfold dI; rw [hs k hk])
          omega
        · rw [if_neg hi, if_neg hi, if_neg hi]; decide
      have k0 := key 0
      have k1 := key 1
      have k2 := key 2
      have k3 := key 3
      show gsm (dN T (KK T b * q + r)) T (tn T) ≤ (bst T s (lo T b q)).1
      unfold fa at h
      omega
  · exact z.1
theorem fr_rng {T s : Int → Int} {b q i : Nat} (hT : mTO T) (hS : mSO T s) (hC : mCO T s) (h : fzB T s (lo T b q) (min b (tn T)) = true) : 0 ≤ fr T s b q i ∧ fr T s b q i ≤ 40 := by
  have n1 := hT.2.1
  have w3 := tmn T
  unfold fr
  by_cases hi : i < tm T
  · rw [if_pos hi]
    have q1 := fzB_free hT hC _ h i hi
    have q2 := (gsm_rng (p := dI T (lo T b q) i) hT (min b (tn T)) (by omega)).1
    have q3 := (hT.2.2.2.2.2.2 (i : Int) (by omega) (by omega)).1
    have q4 := (hS.2.2 (i : Int) (by omega) (by omega)).2.2
    omega
  · rw [if_neg hi]; omega
