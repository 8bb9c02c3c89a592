/-! how a text is read: what the class and the model agree upon -/
/-- the letter at p of a text of n letters -/
def xL (tx : Int → Int) (n p : Int) : Int := if p < n then tx p else -1
def xF (tx : Int → Int) (n p : Int) : Bool := decide (48 ≤ xL tx n p ∧ xL tx n p ≤ 57)
/-- how many figures -/
def xK (tx : Int → Int) (n p : Int) : Int := if xF tx n p = true then (if xF tx n (p + 1) = true then 2 else 1) else 0
def xV (tx : Int → Int) (n p : Int) : Int := if xF tx n (p + 1) = true then 10 * (xL tx n p - 48) + xL tx n (p + 1) - 48 else xL tx n p - 48
/-- a number of lo to hi stands at p, and e behind it -/
def xO (tx : Int → Int) (n lo hi e p : Int) : Bool := xF tx n p && decide (xL tx n (p + xK tx n p) = e) && decide (lo ≤ xV tx n p ∧ xV tx n p ≤ hi)
def xE (tx : Int → Int) (n p : Int) : Int := p + xK tx n p + 1
abbrev x2 (tx : Int → Int) (n p : Int) : Int := xE tx n (p + 1)
abbrev x3 (tx : Int → Int) (n p : Int) : Int := xE tx n (x2 tx n p)
abbrev x4 (tx : Int → Int) (n p : Int) : Int := xE tx n (x3 tx n p)
def xI (tx : Int → Int) (n p : Int) : Bool := if xL tx n p = 98 then xO tx n 0 3 44 (p + 1) && xO tx n 1 20 44 (x2 tx n p) && xO tx n 1 20 44 (x3 tx n p) && xO tx n 0 60 59 (x4 tx n p) else if xL tx n p = 116 then xO tx n 1 20 44 (p + 1) && xO tx n 1 40 44 (x2 tx n p) && xO tx n 1 60 59 (x3 tx n p) else if xL tx n p = 107 then xO tx n 1 20 44 (p + 1) && xO tx n 1 9 59 (x2 tx n p) else if xL tx n p = 102 then xO tx n 1 30 59 (p + 1) else false
def xN (tx : Int → Int) (n p : Int) : Int := if xL tx n p = 98 then xE tx n (x4 tx n p) else if xL tx n p = 116 then x4 tx n p else if xL tx n p = 107 then x3 tx n p else x2 tx n p
def iT (tx : Int → Int) (n p : Int) (T : Int → Int) : Int → Int := if xL tx n p = 98 then upi (upi (upi (upi T (5 + T 0) (xV tx n (p + 1))) (13 + T 0) (xV tx n (x2 tx n p))) (21 + T 0) (xV tx n (x3 tx n p))) 0 (T 0 + 1) else if xL tx n p = 116 then upi (upi (upi T (29 + T 1) (xV tx n (x2 tx n p))) (33 + T 1) (xV tx n (x3 tx n p))) 1 (T 1 + 1) else if xL tx n p = 107 then upi (upi T 2 (xV tx n (p + 1))) 3 (xV tx n (x2 tx n p)) else upi T 4 (xV tx n (p + 1))
def iS (tx : Int → Int) (n p : Int) (T s : Int → Int) : Int → Int := if xL tx n p = 98 then upi s (T 0) (xV tx n (x4 tx n p)) else if xL tx n p = 116 then upi s (16 + T 1) (xV tx n (p + 1)) else s
def xG (tx : Int → Int) (n p : Int) (T : Int → Int) : Bool := xI tx n p && !(decide (xL tx n p = 98) && decide (T 0 = 8)) && !(decide (xL tx n p = 116) && decide (T 1 = 4))
def rA (tx : Int → Int) (n : Int) : Nat → Int → (Int → Int) → (Int → Int) → Int × (Int → Int) × (Int → Int)
  | 0, _, T, s => (-4, T, s)
  | k + 1, p, T, s => if n ≤ p then (-4, T, s) else if xG tx n p T = true then rA tx n k (xN tx n p) (iT tx n p T) (iS tx n p T s) else (p, T, s)
theorem rA_end {tx : Int → Int} {n p : Int} {T s : Int → Int} {k : Nat} (h : n ≤ p) : rA tx n (k + 1) p T s = (-4, T, s) := if_pos h
theorem rA_go {tx : Int → Int} {n p : Int} {T s : Int → Int} {k : Nat} (h : ¬ n ≤ p) (h2 : xG tx n p T = true) : rA tx n (k + 1) p T s = rA tx n k (xN tx n p) (iT tx n p T) (iS tx n p T s) := (if_neg h).trans (if_pos h2)
theorem rA_no {tx : Int → Int} {n p : Int} {T s : Int → Int} {k : Nat} (h : ¬ n ≤ p) (h2 : xG tx n p T = false) : rA tx n (k + 1) p T s = (p, T, s) := (if_neg h).trans (if_neg (by rw [h2]; decide))
theorem xK_rng {tx : Int → Int} {n p : Int} : 0 ≤ xK tx n p ∧ xK tx n p ≤ 2 := by
  unfold xK
  split
  · split <;> omega
  · omega
theorem xE_gt {tx : Int → Int} {n p : Int} : p + 1 ≤ xE tx n p ∧ xE tx n p ≤ p + 3 := by
  have := xK_rng (tx := tx) (n := n) (p := p)
  unfold xE
  omega
theorem xN_gt {tx : Int → Int} {n p : Int} : p + 1 ≤ xN tx n p ∧ xN tx n p ≤ p + 13 := by
  have h1 := xE_gt (tx := tx) (n := n) (p := p + 1)
  have h2 := xE_gt (tx := tx) (n := n) (p := x2 tx n p)
  have h3 := xE_gt (tx := tx) (n := n) (p := x3 tx n p)
  have h4 := xE_gt (tx := tx) (n := n) (p := x4 tx n p)
  unfold xN
  unfold x4 x3 x2 at *
  split
  · omega
  · split
    · omega
    · split <;> omega
theorem xF_i {tx : Int → Int} {n p : Int} : xF tx n p = true ↔ 48 ≤ xL tx n p ∧ xL tx n p ≤ 57 := by simp [xF]
theorem xF_lt {tx : Int → Int} {n p : Int} (h : xF tx n p = true) : p < n := by
  have z := xF_i.mp h
  unfold xL at z
  by_cases q : p < n
  · exact q
  · rw [if_neg q] at z; omega
theorem xO_i {tx : Int → Int} {n lo hi e p : Int} : xO tx n lo hi e p = true ↔ xF tx n p = true ∧ xL tx n (p + xK tx n p) = e ∧ lo ≤ xV tx n p ∧ xV tx n p ≤ hi := by
  simp [xO, and_assoc]
/-- the letters of a number and behind it -/
theorem xO_in {tx : Int → Int} {n lo hi e p r : Int} (h : xO tx n lo hi e p = true) (h0 : p ≤ r) (h1 : r < xE tx n p) : (48 ≤ xL tx n r ∧ xL tx n r ≤ 57) ∨ xL tx n r = e := by
  obtain ⟨a1, a2, a3, a4⟩ := xO_i.mp h
  unfold xE at h1
  by_cases q : xF tx n (p + 1) = true
  · have e1 : xK tx n p = 2 := by unfold xK; rw [if_pos a1, if_pos q]
    rw [e1] at h1 a2
    rcases (show r = p ∨ r = p + 1 ∨ r = p + 2 by omega) with rfl | rfl | rfl
    · exact Or.inl (xF_i.mp a1)
    · exact Or.inl (xF_i.mp q)
    · exact Or.inr a2
  · have e1 : xK tx n p = 1 := by unfold xK; rw [if_pos a1, if_neg q]
    rw [e1] at h1 a2
    rcases (show r = p ∨ r = p + 1 by omega) with rfl | rfl
    · exact Or.inl (xF_i.mp a1)
    · exact Or.inr a2
theorem xI_in {tx : Int → Int} {n p r : Int} (h : xI tx n p = true) (h0 : p < r) (h1 : r < xN tx n p) : xL tx n r ≤ 59 := by
  have key : ∀ lo hi e q, e ≤ 59 → xO tx n lo hi e q = true → q ≤ r → r < xE tx n q → xL tx n r ≤ 59 := fun lo hi e q he a b c => by
    rcases xO_in a b c with z | z <;> omega
  unfold xI at h
  unfold xN at h1
  by_cases c1 : xL tx n p = 98
  · rw [if_pos c1] at h h1
    simp only [Bool.and_eq_true] at h
    obtain ⟨⟨⟨a1, a2⟩, a3⟩, a4⟩ := h
    by_cases d1 : r < x2 tx n p
    · exact key _ _ _ _ (by decide) a1 (by omega) d1
    · by_cases d2 : r < x3 tx n p
      · exact key _ _ _ _ (by decide) a2 (by omega) d2
      · by_cases d3 : r < x4 tx n p
        · exact key _ _ _ _ (by decide) a3 (by omega) d3
        · exact key _ _ _ _ (by decide) a4 (by omega) h1
  · rw [if_neg c1] at h h1
    by_cases c2 : xL tx n p = 116
    · rw [if_pos c2] at h h1
      simp only [Bool.and_eq_true] at h
      obtain ⟨⟨a1, a2⟩, a3⟩ := h
      by_cases d1 : r < x2 tx n p
      · exact key _ _ _ _ (by decide) a1 (by omega) d1
      · by_cases d2 : r < x3 tx n p
        · exact key _ _ _ _ (by decide) a2 (by omega) d2
        · exact key _ _ _ _ (by decide) a3 (by omega) h1
    · rw [if_neg c2] at h h1
      by_cases c3 : xL tx n p = 107
      · rw [if_pos c3] at h h1
        simp only [Bool.and_eq_true] at h
        obtain ⟨a1, a2⟩ := h
        by_cases d1 : r < x2 tx n p
        · exact key _ _ _ _ (by decide) a1 (by omega) d1
        · exact key _ _ _ _ (by decide) a2 (by omega) h1
      · rw [if_neg c3] at h h1
        by_cases c4 : xL tx n p = 102
        · rw [if_pos c4] at h
          exact key _ _ _ _ (by decide) h (by omega) h1
        · rw [if_neg c4] at h
          cases h
/-- the rows while a text is read -/
def mTp (T : Int → Int) : Prop := (0 ≤ T 0 ∧ T 0 ≤ 8) ∧ (0 ≤ T 1 ∧ T 1 ≤ 4) ∧ (1 ≤ T 2 ∧ T 2 ≤ 20) ∧ (1 ≤ T 3 ∧ T 3 ≤ 9) ∧ (1 ≤ T 4 ∧ T 4 ≤ 30) ∧ (∀ b, 0 ≤ b → b < T 0 → (0 ≤ T (5 + b) ∧ T (5 + b) ≤ 3) ∧ (1 ≤ T (13 + b) ∧ T (13 + b) ≤ 20) ∧ (1 ≤ T (21 + b) ∧ T (21 + b) ≤ 20)) ∧ (∀ i, 0 ≤ i → i < T 1 → (1 ≤ T (29 + i) ∧ T (29 + i) ≤ 40) ∧ (1 ≤ T (33 + i) ∧ T (33 + i) ≤ 60))
def mSp (T s : Int → Int) : Prop := (∀ j, 8 ≤ j → j < 16 → s j = 0) ∧ (∀ j, 20 ≤ j → j < 29 → s j = 0) ∧ (∀ b, 0 ≤ b → b < T 0 → 0 ≤ s b ∧ s b ≤ 60) ∧ (∀ i, 0 ≤ i → i < T 1 → 1 ≤ s (16 + i) ∧ s (16 + i) ≤ 20)
theorem xG_i {tx : Int → Int} {n p : Int} {T : Int → Int} : xG tx n p T = true ↔ xI tx n p = true ∧ ¬ (xL tx n p = 98 ∧ T 0 = 8) ∧ ¬ (xL tx n p = 116 ∧ T 1 = 4) := by
  simp only [xG, Bool.and_eq_true, Bool.not_eq_true', Bool.and_eq_false_iff, decide_eq_false_iff_not]
  constructor
  · rintro ⟨⟨h1, h2⟩, h3⟩
    exact ⟨h1, by omega, by omega⟩
  · rintro ⟨h1, h2, h3⟩
    exact ⟨⟨h1, by omega⟩, by omega⟩
theorem mTp_go {tx : Int → Int} {n p : Int} {T s : Int → Int} (hT : mTp T) (hS : mSp T s) (h : xG tx n p T = true) : mTp (iT tx n p T) ∧ mSp (iT tx n p T) (iS tx n p T s) := by
  obtain ⟨g1, g2, g3⟩ := xG_i.mp h
  obtain ⟨t0, t1, t2, t3, t4, t5, t6⟩ := hT
  obtain ⟨s1, s2, s3, s4⟩ := hS
  unfold xI at g1
  unfold iT iS
  by_cases c1 : xL tx n p = 98
  · rw [if_pos c1] at g1
    rw [if_pos c1, if_pos c1]
    simp only [Bool.and_eq_true, xO_i] at g1
    obtain ⟨⟨⟨a1, a2⟩, a3⟩, a4⟩ := g1
    have b0 : T 0 ≠ 8 := fun q => g2 ⟨c1, q⟩
    refine ⟨⟨?_, ?_, ?_, ?_, ?_, fun b e0 e1 => ?_, fun i e0 e1 => ?_⟩, fun j j0 j1 => ?_, fun j j0 j1 => ?_, fun b e0 e1 => ?_, fun i e0 e1 => ?_⟩
    · rw [upi_self]; omega
    · rw [upi_ne (by omega), upi_ne (by omega), upi_ne (by omega), upi_ne (by omega)]; exact t1
    · rw [upi_ne (by omega), upi_ne (by omega), upi_ne (by omega), upi_ne (by omega)]; exact t2
    · rw [upi_ne (by omega), upi_ne (by omega), upi_ne (by omega), upi_ne (by omega)]; exact t3
    · rw [upi_ne (by omega), upi_ne (by omega), upi_ne (by omega), upi_ne (by omega)]; exact t4
    · rw [upi_self] at e1
      by_cases e : b = T 0
      · rw [e, upi_ne (by omega), upi_ne (by omega), upi_ne (by omega), upi_self, upi_ne (by omega), upi_ne (by omega), upi_self, upi_ne (by omega), upi_self]
        omega
      · rw [upi_ne (by omega), upi_ne (by omega), upi_ne (by omega), upi_ne (by omega), upi_ne (by omega), upi_ne (by omega), upi_ne (by omega), upi_ne (by omega), upi_ne (by omega), upi_ne (by omega), upi_ne (by omega), upi_ne (by omega)]
        exact t5 b e0 (by omega)
    · rw [upi_ne (by omega), upi_ne (by omega), upi_ne (by omega), upi_ne (by omega)] at e1
      rw [upi_ne (by omega), upi_ne (by omega), upi_ne (by omega), upi_ne (by omega), upi_ne (by omega), upi_ne (by omega), upi_ne (by omega), upi_ne (by omega)]
      exact t6 i e0 e1
    · rw [upi_ne (by omega)]; exact s1 j j0 j1
    · rw [upi_ne (by omega)]; exact s2 j j0 j1
    · rw [upi_self] at e1
      by_cases e : b = T 0
      · rw [e, upi_self]; omega
      · rw [upi_ne e]; exact s3 b e0 (by omega)
    · rw [upi_ne (by omega), upi_ne (by omega), upi_ne (by omega), upi_ne (by omega)] at e1
      rw [upi_ne (by omega)]; exact s4 i e0 e1
  · rw [if_neg c1] at g1
    rw [if_neg c1, if_neg c1]
    by_cases c2 : xL tx n p = 116
    · rw [if_pos c2] at g1
      rw [if_pos c2, if_pos c2]
      simp only [Bool.and_eq_true, xO_i] at g1
      obtain ⟨⟨a1, a2⟩, a3⟩ := g1
      have b0 : T 1 ≠ 4 := fun q => g3 ⟨c2, q⟩
      refine ⟨⟨?_, ?_, ?_, ?_, ?_, fun b e0 e1 => ?_, fun i e0 e1 => ?_⟩, fun j j0 j1 => ?_, fun j j0 j1 => ?_, fun b e0 e1 => ?_, fun i e0 e1 => ?_⟩
      · rw [upi_ne (by omega), upi_ne (by omega), upi_ne (by omega)]; exact t0
      · rw [upi_self]; omega
      · rw [upi_ne (by omega), upi_ne (by omega), upi_ne (by omega)]; exact t2
      · rw [upi_ne (by omega), upi_ne (by omega), upi_ne (by omega)]; exact t3
      · rw [upi_ne (by omega), upi_ne (by omega), upi_ne (by omega)]; exact t4
      · rw [upi_ne (by omega), upi_ne (by omega), upi_ne (by omega)] at e1
        rw [upi_ne (by omega), upi_ne (by omega), upi_ne (by omega), upi_ne (by omega), upi_ne (by omega), upi_ne (by omega), upi_ne (by omega), upi_ne (by omega), upi_ne (by omega)]
        exact t5 b e0 e1
      · rw [upi_self] at e1
        by_cases e : i = T 1
        · rw [e, upi_ne (by omega), upi_ne (by omega), upi_self, upi_ne (by omega), upi_self]
          omega
        · rw [upi_ne (by omega), upi_ne (by omega), upi_ne (by omega), upi_ne (by omega), upi_ne (by omega), upi_ne (by omega)]
          exact t6 i e0 (by omega)
      · rw [upi_ne (by omega)]; exact s1 j j0 j1
      · rw [upi_ne (by omega)]; exact s2 j j0 j1
      · rw [upi_ne (by omega), upi_ne (by omega), upi_ne (by omega)] at e1
        rw [upi_ne (by omega)]; exact s3 b e0 e1
      · rw [upi_self] at e1
        by_cases e : i = T 1
        · rw [e, upi_self]; omega
        · rw [upi_ne (by omega)]; exact s4 i e0 (by omega)
    · rw [if_neg c2] at g1
      rw [if_neg c2, if_neg c2]
      by_cases c3 : xL tx n p = 107
      · rw [if_pos c3] at g1
        rw [if_pos c3]
        simp only [Bool.and_eq_true, xO_i] at g1
        obtain ⟨a1, a2⟩ := g1
        refine ⟨⟨?_, ?_, ?_, ?_, ?_, fun b e0 e1 => ?_, fun i e0 e1 => ?_⟩, s1, s2, fun b e0 e1 => ?_, fun i e0 e1 => ?_⟩
        · rw [upi_ne (by omega), upi_ne (by omega)]; exact t0
        · rw [upi_ne (by omega), upi_ne (by omega)]; exact t1
        · rw [upi_ne (by omega), upi_self]; omega
        · rw [upi_self]; omega
        · rw [upi_ne (by omega), upi_ne (by omega)]; exact t4
        · rw [upi_ne (by omega), upi_ne (by omega)] at e1
          rw [upi_ne (by omega), upi_ne (by omega), upi_ne (by omega), upi_ne (by omega), upi_ne (by omega), upi_ne (by omega)]
          exact t5 b e0 e1
        · rw [upi_ne (by omega), upi_ne (by omega)] at e1
          rw [upi_ne (by omega), upi_ne (by omega), upi_ne (by omega), upi_ne (by omega)]
          exact t6 i e0 e1
        · rw [upi_ne (by omega), upi_ne (by omega)] at e1
          exact s3 b e0 e1
        · rw [upi_ne (by omega), upi_ne (by omega)] at e1
          exact s4 i e0 e1
      · rw [if_neg c3] at g1
        rw [if_neg c3]
        by_cases c4 : xL tx n p = 102
        · rw [if_pos c4, xO_i] at g1
          refine ⟨⟨?_, ?_, ?_, ?_, ?_, fun b e0 e1 => ?_, fun i e0 e1 => ?_⟩, s1, s2, fun b e0 e1 => ?_, fun i e0 e1 => ?_⟩
          · rw [upi_ne (by omega)]; exact t0
          · rw [upi_ne (by omega)]; exact t1
          · rw [upi_ne (by omega)]; exact t2
          · rw [upi_ne (by omega)]; exact t3
          · rw [upi_self]; omega
          · rw [upi_ne (by omega)] at e1
            rw [upi_ne (by omega), upi_ne (by omega), upi_ne (by omega)]
            exact t5 b e0 e1
          · rw [upi_ne (by omega)] at e1
            rw [upi_ne (by omega), upi_ne (by omega)]
            exact t6 i e0 e1
          · rw [upi_ne (by omega)] at e1
            exact s3 b e0 e1
          · rw [upi_ne (by omega)] at e1
            exact s4 i e0 e1
        · rw [if_neg c4] at g1
          cases g1
theorem rA_ok {tx : Int → Int} {n : Int} : ∀ (k : Nat) (p : Int) (T s : Int → Int), mTp T → mSp T s → mTp (rA tx n k p T s).2.1 ∧ mSp (rA tx n k p T s).2.1 (rA tx n k p T s).2.2
  | 0, p, T, s, hT, hS => ⟨hT, hS⟩
  | k + 1, p, T, s, hT, hS => by
    by_cases h : n ≤ p
    · rw [rA_end h]; exact ⟨hT, hS⟩
    · by_cases g : xG tx n p T = true
      · rw [rA_go h g]
        have z := mTp_go hT hS g
        exact rA_ok k _ _ _ z.1 z.2
      · rw [rA_no h (by simpa using g)]; exact ⟨hT, hS⟩
theorem mTO_of {T : Int → Int} (h : mTp T) (h0 : 1 ≤ T 0) (h1 : 1 ≤ T 1) : mTO T := ⟨⟨h0, h.1.2⟩, ⟨h1, h.2.1.2⟩, h.2.2.1, h.2.2.2.1, h.2.2.2.2.1, h.2.2.2.2.2.1, h.2.2.2.2.2.2⟩
theorem mSO_of {T s : Int → Int} (hT : mTp T) (h : mSp T s) : mSO T s := by
  obtain ⟨h1, h2, h3, h4⟩ := h
  have t1 := hT.2.1
  have eg : mGone s = 0 := by
    unfold mGone
    rw [h1 8 (by omega) (by omega), h1 9 (by omega) (by omega), h1 10 (by omega) (by omega), h1 11 (by omega) (by omega), h1 12 (by omega) (by omega), h1 13 (by omega) (by omega), h1 14 (by omega) (by omega), h1 15 (by omega) (by omega)]
    rfl
  refine ⟨fun b b0 b1 => ?_, fun b b0 b1 => ?_, fun i i0 i1 => ?_⟩
  · have z := h1 (8 + b) (by omega) (by omega)
    exact ⟨Or.inl z, fun _ => z⟩
  · have z := h3 b b0 b1; omega
  · have z := h4 i i0 i1
    have z2 := h2 (20 + i) (by omega) (by omega)
    have z3 := h2 (24 + i) (by omega) (by omega)
    omega
theorem mCO_of {T s : Int → Int} (hT : mTp T) (h : mSp T s) : mCO T s := by
  intro i i0 i1
  have t1 := hT.2.1
  have z := h.2.1 (24 + i) (by omega) (by omega)
  have z2 := (hT.2.2.2.2.2.2 i i0 i1).1
  omega
/-! whether a letter stands in the text, and how many boughs and tenants were read -/
def hsB (tx : Int → Int) (c : Int) : Nat → Bool
  | 0 => false
  | n + 1 => hsB tx c n || decide (tx n = c)
theorem hsB_i {tx : Int → Int} {c : Int} : ∀ n : Nat, hsB tx c n = true ↔ ∃ r : Int, 0 ≤ r ∧ r < n ∧ tx r = c
  | 0 => by simp only [hsB]; exact ⟨fun h => (by cases h), fun ⟨r, h0, h1, _⟩ => (by omega)⟩
  | n + 1 => by
    rw [hsB, Bool.or_eq_true, hsB_i n, decide_eq_true_eq]
    constructor
    · rintro (⟨r, h0, h1, h2⟩ | h)
      · exact ⟨r, h0, by omega, h2⟩
      · exact ⟨n, by omega, by omega, h⟩
    · rintro ⟨r, h0, h1, h2⟩
      by_cases e : r = n
      · rw [e] at h2; exact Or.inr h2
      · exact Or.inl ⟨r, h0, by omega, h2⟩
theorem iT_0 {tx : Int → Int} {n p : Int} {T : Int → Int} (hT : mTp T) : iT tx n p T 0 = T 0 + (if xL tx n p = 98 then 1 else 0) ∧ iT tx n p T 1 = T 1 + (if xL tx n p = 116 then 1 else 0) := by
  have t0 := hT.1
  have t1 := hT.2.1
  unfold iT
  by_cases c1 : xL tx n p = 98
  · rw [if_pos c1, if_pos c1, if_neg (by omega), upi_self, upi_ne (by omega), upi_ne (by omega), upi_ne (by omega), upi_ne (by omega)]
    omega
  · rw [if_neg c1, if_neg c1]
    by_cases c2 : xL tx n p = 116
    · rw [if_pos c2, if_pos c2, upi_ne (by omega), upi_ne (by omega), upi_ne (by omega), upi_self]
      omega
    · rw [if_neg c2, if_neg c2]
      by_cases c3 : xL tx n p = 107
      · rw [if_pos c3, upi_ne (by omega), upi_ne (by omega), upi_ne (by omega), upi_ne (by omega)]
        omega
      · rw [if_neg c3, upi_ne (by omega), upi_ne (by omega)]
        omega
theorem rA_mono {tx : Int → Int} {n : Int} : ∀ (k : Nat) (p : Int) (T s : Int → Int), mTp T → mSp T s → T 0 ≤ (rA tx n k p T s).2.1 0 ∧ T 1 ≤ (rA tx n k p T s).2.1 1
  | 0, p, T, s, _, _ => ⟨Int.le_refl _, Int.le_refl _⟩
  | k + 1, p, T, s, hT, hS => by
    by_cases h : n ≤ p
    · rw [rA_end h]; exact ⟨Int.le_refl _, Int.le_refl _⟩
    · by_cases g : xG tx n p T = true
      · rw [rA_go h g]
        have z := mTp_go hT hS g
        have ih := rA_mono (tx := tx) (n := n) k (xN tx n p) _ _ z.1 z.2
        have y := iT_0 (tx := tx) (n := n) (p := p) hT
        constructor
        · have y1 := y.1
          split at y1 <;> omega
        · have y1 := y.2
          split at y1 <;> omega
      · rw [rA_no h (by simpa using g)]; exact ⟨Int.le_refl _, Int.le_refl _⟩
/-- a letter b or t behind p is counted -/
theorem rA_has {tx : Int → Int} {n : Int} : ∀ (k : Nat) (p : Int) (T s : Int → Int), mTp T → mSp T s → 0 ≤ p → n - p < k → (rA tx n k p T s).1 = -4 → ∀ r, p ≤ r → r < n → (tx r = 98 → T 0 + 1 ≤ (rA tx n k p T s).2.1 0) ∧ (tx r = 116 → T 1 + 1 ≤ (rA tx n k p T s).2.1 1)
  | 0, p, T, s, _, _, _, hk, _, r, h1, h2 => by omega
  | k + 1, p, T, s, hT, hS, hp, hk, h, r, h1, h2 => by
    have h3 : ¬ n ≤ p := by omega
    by_cases g : xG tx n p T = true
    · rw [rA_go h3 g] at h ⊢
      have z := mTp_go hT hS g
      have y := iT_0 (tx := tx) (n := n) (p := p) hT
      have m := rA_mono (tx := tx) (n := n) k (xN tx n p) _ _ z.1 z.2
      have nx := xN_gt (tx := tx) (n := n) (p := p)
      have lr : xL tx n r = tx r := if_pos h2
      by_cases e : r = p
      · rw [e] at lr h1 ⊢
        constructor
        · intro q
          have y1 := y.1
          rw [lr, if_pos q] at y1
          omega
        · intro q
          have y1 := y.2
          rw [lr, if_pos q] at y1
          omega
      · by_cases e2 : r < xN tx n p
        · have q := xI_in (xG_i.mp g).1 (by omega) e2
          rw [lr] at q
          exact ⟨fun c => by omega, fun c => by omega⟩
        · have ih := rA_has k (xN tx n p) _ _ z.1 z.2 (by omega) (by omega) h r (by omega) h2
          have y1 := y.1
          have y2 := y.2
          constructor
          · intro q
            have w := ih.1 q
            split at y1 <;> omega
          · intro q
            have w := ih.2 q
            split at y2 <;> omega
    · rw [rA_no h3 (by simpa using g)] at h
      have : p = -4 := h
      omega
/-- what is counted stands in the text -/
theorem rA_cnt {tx : Int → Int} {n : Int} : ∀ (k : Nat) (p : Int) (T s : Int → Int), mTp T → mSp T s → 0 ≤ p → (T 0 + 1 ≤ (rA tx n k p T s).2.1 0 → ∃ r, 0 ≤ r ∧ r < n ∧ tx r = 98) ∧ (T 1 + 1 ≤ (rA tx n k p T s).2.1 1 → ∃ r, 0 ≤ r ∧ r < n ∧ tx r = 116)
  | 0, p, T, s, _, _, _ => ⟨fun h => by have : T 0 + 1 ≤ T 0 := h; omega, fun h => by have : T 1 + 1 ≤ T 1 := h; omega⟩
  | k + 1, p, T, s, hT, hS, hp => by
    by_cases h : n ≤ p
    · rw [rA_end h]
      exact ⟨fun h => by have : T 0 + 1 ≤ T 0 := h; omega, fun h => by have : T 1 + 1 ≤ T 1 := h; omega⟩
    · by_cases g : xG tx n p T = true
      · rw [rA_go h g]
        have z := mTp_go hT hS g
        have nx := xN_gt (tx := tx) (n := n) (p := p)
        have ih := rA_cnt (tx := tx) (n := n) k (xN tx n p) _ _ z.1 z.2 (by omega)
        have y := iT_0 (tx := tx) (n := n) (p := p) hT
        have lp : xL tx n p = tx p := if_pos (by omega)
        constructor
        · intro q
          by_cases c : tx p = 98
          · exact ⟨p, hp, by omega, c⟩
          · have y1 := y.1
            rw [lp, if_neg c] at y1
            exact ih.1 (by omega)
        · intro q
          by_cases c : tx p = 116
          · exact ⟨p, hp, by omega, c⟩
          · have y1 := y.2
            rw [lp, if_neg c] at y1
            exact ih.2 (by omega)
      · rw [rA_no h (by simpa using g)]
        exact ⟨fun h => by have : T 0 + 1 ≤ T 0 := h; omega, fun h => by have : T 1 + 1 ≤ T 1 := h; omega⟩
