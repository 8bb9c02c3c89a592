/-! what the model computes, as functions of its two rows: T what was told, s what stands now -/
def upi (s : Int → Int) (i v : Int) : Int → Int := fun j => if j = i then v else s j
theorem upi_self {s : Int → Int} {i v : Int} : upi s i v i = v := if_pos rfl
theorem upi_ne {s : Int → Int} {i j v : Int} (h : j ≠ i) : upi s i v j = s j := if_neg h
/-- the cells f with the row s at a -/
def kst (f : Nat → Int → Int) (a : Nat) (s : Int → Int) : Nat → Int → Int := fun b => if b = a then s else f b
theorem kst_u {f : Nat → Int → Int} {a : Nat} {s : Int → Int} {i v : Int} : k_u (kst f a s) a i v = kst f a (upi s i v) := by
  funext b j
  unfold k_u kst upi
  by_cases h : b = a
  · simp [h]
  · simp [h]
theorem kst_0 {f : Nat → Int → Int} {a : Nat} : kst f a (f a) = f := by
  funext b
  unfold kst
  split
  · rename_i h; rw [h]
  · rfl
theorem kst_self {f : Nat → Int → Int} {a : Nat} {s : Int → Int} : kst f a s a = s := if_pos rfl
theorem kst_ne {f : Nat → Int → Int} {a b : Nat} {s : Int → Int} (h : b ≠ a) : kst f a s b = f b := if_neg h
theorem kst_kst {f : Nat → Int → Int} {a : Nat} {s t : Int → Int} : kst (kst f a s) a t = kst f a t := by
  funext b
  unfold kst
  split <;> rfl
abbrev mCould (T s : Int → Int) (i b d c : Int) : Prop := s b ≤ d ∧ (((T (5 + b) = 0 ∧ T (13 + b) ≤ s (16 + i)) ∨ (T (5 + b) = 2 ∧ T (13 + b) + 3 ≤ s (16 + i)) ∨ T (5 + b) = 3) ∨ s b + T 4 ≤ d) ∧ c + T (21 + b) ≤ T (29 + i)
abbrev mCan (T s : Int → Int) (i b : Int) : Prop := s (8 + b) = 0 ∧ mCould T s i b (s 28) (s (24 + i))
abbrev mWarm (T s : Int → Int) (i : Int) : Prop := T (33 + i) ≤ s (20 + i)
def mTakes (T s : Int → Int) (i b : Int) : Int → Int := upi (upi (upi s (8 + b) 1) (24 + i) (s (24 + i) + T (21 + b))) (20 + i) (s (20 + i) + T (21 + b))
def mPass (s : Int → Int) : Int → Int := upi (upi (upi (upi (upi s 28 (s 28 + 1)) 24 0) 25 0) 26 0) 27 0
def mStep (T s : Int → Int) (i b : Int) : Int → Int := if ¬ mWarm T s i ∧ mCan T s i b then mTakes T s i b else s
def mRow (T : Int → Int) (i : Int) : Nat → (Int → Int) → Int → Int
  | 0, s => s
  | n + 1, s => mStep T (mRow T i n s) i n
def mEachN (T : Int → Int) : Nat → (Int → Int) → Int → Int
  | 0, s => s
  | n + 1, s => mRow T n (T 0).toNat (mEachN T n s)
def mEach (T s : Int → Int) : Int → Int := mEachN T (T 1).toNat s
def mBits (T s : Int → Int) : Nat → Int
  | 0 => 0
  | n + 1 => mBits T s n + (if mWarm T s n then 2 ^ n else 0)
def mBit (T s : Int → Int) : Int := mBits T s (T 1).toNat
/-- after n days -/
def mAt (T : Int → Int) : Nat → (Int → Int) → Int → Int
  | 0, s => s
  | n + 1, s => mPass (mEach T (mAt T n s))
/-- what was told is in order; what stands is in order -/
def mTO (T : Int → Int) : Prop := (1 ≤ T 0 ∧ T 0 ≤ 8) ∧ (1 ≤ T 1 ∧ T 1 ≤ 4) ∧ (1 ≤ T 2 ∧ T 2 ≤ 20) ∧ (1 ≤ T 3 ∧ T 3 ≤ 9) ∧ (1 ≤ T 4 ∧ T 4 ≤ 30) ∧ (∀ b, 0 ≤ b → b < T 0 → (0 ≤ T (5 + b) ∧ T (5 + b) ≤ 3) ∧ (1 ≤ T (13 + b) ∧ T (13 + b) ≤ 20) ∧ (1 ≤ T (21 + b) ∧ T (21 + b) ≤ 20)) ∧ (∀ i, 0 ≤ i → i < T 1 → (1 ≤ T (29 + i) ∧ T (29 + i) ≤ 40) ∧ (1 ≤ T (33 + i) ∧ T (33 + i) ≤ 60))
abbrev mGone (s : Int → Int) : Int := s 8 + s 9 + s 10 + s 11 + s 12 + s 13 + s 14 + s 15
def mSO (T s : Int → Int) : Prop := (∀ b, 0 ≤ b → b < 8 → (s (8 + b) = 0 ∨ s (8 + b) = 1) ∧ (T 0 ≤ b → s (8 + b) = 0)) ∧ (∀ b, 0 ≤ b → b < T 0 → -60 ≤ s b ∧ s b ≤ 200) ∧ (∀ i, 0 ≤ i → i < T 1 → (0 ≤ s (20 + i) ∧ s (20 + i) ≤ 20 * mGone s) ∧ (1 ≤ s (16 + i) ∧ s (16 + i) ≤ 20) ∧ (0 ≤ s (24 + i) ∧ s (24 + i) ≤ 40))
theorem mGone_le {T s : Int → Int} (h : mSO T s) : 0 ≤ mGone s ∧ mGone s ≤ 8 := by
  have a0 := (h.1 0 (by omega) (by omega)).1
  have a1 := (h.1 1 (by omega) (by omega)).1
  have a2 := (h.1 2 (by omega) (by omega)).1
  have a3 := (h.1 3 (by omega) (by omega)).1
  have a4 := (h.1 4 (by omega) (by omega)).1
  have a5 := (h.1 5 (by omega) (by omega)).1
  have a6 := (h.1 6 (by omega) (by omega)).1
  have a7 := (h.1 7 (by omega) (by omega)).1
  simp only [Int.reduceAdd] at a0 a1 a2 a3 a4 a5 a6 a7
  unfold mGone
  omega
theorem mTakes_at {T s : Int → Int} {i b : Int} : (∀ j, j ≠ 8 + b → j ≠ 24 + i → j ≠ 20 + i → mTakes T s i b j = s j) := by
  intro j h1 h2 h3
  unfold mTakes
  rw [upi_ne h3, upi_ne h2, upi_ne h1]
theorem mTakes_b {T s : Int → Int} {i b : Int} (hi : 0 ≤ i ∧ i < 4) (hb : 0 ≤ b ∧ b < 8) : mTakes T s i b (8 + b) = 1 := by
  unfold mTakes
  rw [upi_ne (by omega), upi_ne (by omega), upi_self]
theorem mTakes_gone {T s : Int → Int} {i b : Int} (hi : 0 ≤ i ∧ i < 4) (hb : 0 ≤ b ∧ b < 8) (h0 : s (8 + b) = 0) : mGone (mTakes T s i b) = mGone s + 1 := by
  have key : ∀ k : Int, 0 ≤ k → k < 8 → mTakes T s i b (8 + k) = if k = b then 1 else s (8 + k) := by
    intro k h1 h2
    by_cases e : k = b
    · subst e; rw [mTakes_b hi hb, if_pos rfl]
    · rw [mTakes_at (8 + k) (by omega) (by omega) (by omega), if_neg e]
  have k0 := key 0 (by omega) (by omega)
  have k1 := key 1 (by omega) (by omega)
  have k2 := key 2 (by omega) (by omega)
  have k3 := key 3 (by omega) (by omega)
  have k4 := key 4 (by omega) (by omega)
  have k5 := key 5 (by omega) (by omega)
  have k6 := key 6 (by omega) (by omega)
  have k7 := key 7 (by omega) (by omega)
  simp only [Int.reduceAdd] at k0 k1 k2 k3 k4 k5 k6 k7
  unfold mGone
  rw [k0, k1, k2, k3, k4, k5, k6, k7]
  rcases (show b = 0 ∨ b = 1 ∨ b = 2 ∨ b = 3 ∨ b = 4 ∨ b = 5 ∨ b = 6 ∨ b = 7 by omega) with rfl | rfl | rfl | rfl | rfl | rfl | rfl | rfl <;> simp at h0 ⊢ <;> omega
theorem mTakes_c {T s : Int → Int} {i b : Int} : mTakes T s i b (24 + i) = s (24 + i) + T (21 + b) := by
  unfold mTakes
  rw [upi_ne (by omega), upi_self]
theorem mTakes_s {T s : Int → Int} {i b : Int} : mTakes T s i b (20 + i) = s (20 + i) + T (21 + b) := by
  unfold mTakes
  rw [upi_self]
theorem mSO_takes {T s : Int → Int} {i b : Int} (hT : mTO T) (h : mSO T s) (hi : 0 ≤ i ∧ i < T 1) (hb : 0 ≤ b ∧ b < T 0) (hc : mCan T s i b) : mSO T (mTakes T s i b) := by
  have n0 := hT.1
  have n1 := hT.2.1
  have fb := hT.2.2.2.2.2.1 b hb.1 hb.2
  have fi := hT.2.2.2.2.2.2 i hi.1 hi.2
  have hg := mTakes_gone (T := T) (s := s) (i := i) (b := b) (by omega) (by omega) hc.1
  refine ⟨fun b2 h0 h1 => ?_, fun b2 h0 h1 => ?_, fun i2 h0 h1 => ?_⟩
  · by_cases e : b2 = b
    · subst e
      rw [mTakes_b (by omega) (by omega)]
      exact ⟨Or.inr rfl, fun q => by omega⟩
    · rw [mTakes_at (8 + b2) (by omega) (by omega) (by omega)]
      exact h.1 b2 h0 h1
  · rw [mTakes_at b2 (by omega) (by omega) (by omega)]
    exact h.2.1 b2 h0 h1
  · have q := h.2.2 i2 h0 h1
    rw [hg, mTakes_at (16 + i2) (by omega) (by omega) (by omega)]
    by_cases e : i2 = i
    · subst e
      rw [mTakes_s, mTakes_c]
      have := hc.2.2.2
      exact ⟨by omega, q.2.1, by omega⟩
    · rw [mTakes_at (20 + i2) (by omega) (by omega) (by omega), mTakes_at (24 + i2) (by omega) (by omega) (by omega)]
      exact ⟨by omega, q.2.1, q.2.2⟩
theorem mPass_at {s : Int → Int} {j : Int} (h : j < 24 ∨ 28 < j) : mPass s j = s j := by
  unfold mPass
  rw [upi_ne (by omega), upi_ne (by omega), upi_ne (by omega), upi_ne (by omega), upi_ne (by omega)]
theorem mPass_c {s : Int → Int} {i : Int} (hi : 0 ≤ i ∧ i < 4) : mPass s (24 + i) = 0 := by
  rcases (show i = 0 ∨ i = 1 ∨ i = 2 ∨ i = 3 by omega) with rfl | rfl | rfl | rfl <;> simp [mPass, upi]
theorem mPass_d {s : Int → Int} : mPass s 28 = s 28 + 1 := by simp [mPass, upi]
theorem mSO_pass {T s : Int → Int} (hT : mTO T) (h : mSO T s) : mSO T (mPass s) := by
  have n0 := hT.1
  have n1 := hT.2.1
  have hg : mGone (mPass s) = mGone s := by
    unfold mGone
    simp only [mPass_at (s := s) (j := 8) (by omega), mPass_at (s := s) (j := 9) (by omega), mPass_at (s := s) (j := 10) (by omega), mPass_at (s := s) (j := 11) (by omega), mPass_at (s := s) (j := 12) (by omega), mPass_at (s := s) (j := 13) (by omega), mPass_at (s := s) (j := 14) (by omega), mPass_at (s := s) (j := 15) (by omega)]
  refine ⟨fun b2 h0 h1 => ?_, fun b2 h0 h1 => ?_, fun i2 h0 h1 => ?_⟩
  · rw [mPass_at (by omega)]; exact h.1 b2 h0 h1
  · rw [mPass_at (by omega)]; exact h.2.1 b2 h0 h1
  · rw [hg, mPass_at (j := 20 + i2) (by omega), mPass_at (j := 16 + i2) (by omega), mPass_c (by omega)]
    exact ⟨(h.2.2 i2 h0 h1).1, (h.2.2 i2 h0 h1).2.1, by omega⟩
theorem mStep_cases {T s : Int → Int} {i b : Int} : (¬ mWarm T s i ∧ mCan T s i b ∧ mStep T s i b = mTakes T s i b) ∨ (¬ (¬ mWarm T s i ∧ mCan T s i b) ∧ mStep T s i b = s) := by
  unfold mStep
  by_cases h : ¬ mWarm T s i ∧ mCan T s i b
  · rw [if_pos h]; exact Or.inl ⟨h.1, h.2, rfl⟩
  · rw [if_neg h]; exact Or.inr ⟨h, rfl⟩
theorem mSO_step {T s : Int → Int} {i b : Int} (hT : mTO T) (h : mSO T s) (hi : 0 ≤ i ∧ i < T 1) (hb : 0 ≤ b ∧ b < T 0) : mSO T (mStep T s i b) := by
  rcases mStep_cases (T := T) (s := s) (i := i) (b := b) with ⟨-, h2, e⟩ | ⟨-, e⟩
  · rw [e]; exact mSO_takes hT h hi hb h2
  · rw [e]; exact h
theorem mSO_row {T s : Int → Int} {i : Int} (hT : mTO T) (h : mSO T s) (hi : 0 ≤ i ∧ i < T 1) : ∀ n : Nat, n ≤ (T 0).toNat → mSO T (mRow T i n s)
  | 0, _ => h
  | n + 1, hn => mSO_step hT (mSO_row hT h hi n (by omega)) hi ⟨by omega, by omega⟩
theorem mSO_eachN {T s : Int → Int} (hT : mTO T) (h : mSO T s) : ∀ n : Nat, n ≤ (T 1).toNat → mSO T (mEachN T n s)
  | 0, _ => h
  | n + 1, hn => mSO_row hT (mSO_eachN hT h n (by omega)) ⟨by omega, by omega⟩ _ (Nat.le_refl _)
theorem mSO_each {T s : Int → Int} (hT : mTO T) (h : mSO T s) : mSO T (mEach T s) := mSO_eachN hT h _ (Nat.le_refl _)
theorem mStep_28 {T s : Int → Int} {i b : Int} (hi : 0 ≤ i ∧ i < 4) (hb : 0 ≤ b ∧ b < 8) : mStep T s i b 28 = s 28 := by
  rcases mStep_cases (T := T) (s := s) (i := i) (b := b) with ⟨-, h2, e⟩ | ⟨-, e⟩
  · rw [e, mTakes_at 28 (by omega) (by omega) (by omega)]
  · rw [e]
theorem mRow_28 {T s : Int → Int} {i : Int} (hi : 0 ≤ i ∧ i < 4) : ∀ n : Nat, n ≤ 8 → mRow T i n s 28 = s 28
  | 0, _ => rfl
  | n + 1, hn => by rw [mRow, mStep_28 hi ⟨by omega, by omega⟩, mRow_28 hi n (by omega)]
theorem mEachN_28 {T s : Int → Int} (hT : mTO T) : ∀ n : Nat, n ≤ 4 → mEachN T n s 28 = s 28
  | 0, _ => rfl
  | n + 1, hn => by rw [mEachN, mRow_28 ⟨by omega, by omega⟩ _ (by have := hT.1; omega), mEachN_28 hT n (by omega)]
theorem mEach_28 {T s : Int → Int} (hT : mTO T) : mEach T s 28 = s 28 := mEachN_28 hT _ (by have := hT.2.1; omega)
