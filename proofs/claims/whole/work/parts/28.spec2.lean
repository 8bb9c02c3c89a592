/-! what single calls answer, of the model's rows -/
def kFirst (c : Int → Prop) [DecidablePred c] : Nat → Int → Int
  | 0, _ => -4
  | n + 1, r => if c r then r else kFirst c n (r + 1)
def kBits (c : Int → Prop) [DecidablePred c] : Nat → Int
  | 0 => 0
  | n + 1 => kBits c n + (if c n then 2 ^ n else 0)
theorem kBits_s {c : Int → Prop} [DecidablePred c] {i : Int} (h : 0 ≤ i) : kBits c (i + 1).toNat = kBits c i.toNat + (if c i then 2 ^ i.toNat else 0) := by
  rw [show (i + 1).toNat = i.toNat + 1 by omega, kBits, k_nat h]
theorem kBits_lt {c : Int → Prop} [DecidablePred c] : ∀ n : Nat, 0 ≤ kBits c n ∧ kBits c n < 2 ^ n
  | 0 => by simp [kBits]
  | n + 1 => by
    have ih := kBits_lt (c := c) n
    have h2 : (2 : Int) ^ (n + 1) = 2 ^ n + 2 ^ n := by rw [Int.pow_succ]; omega
    rw [kBits, h2]
    split <;> omega
theorem kBits_bit {c : Int → Prop} [DecidablePred c] {n : Nat} : kbit (kBits c n) n = 0 := by
  have h := kBits_lt (c := c) n
  unfold kbit
  rw [Int.toNat_natCast, Int.ediv_eq_zero_of_lt h.1 h.2]
  rfl
theorem kFirst_rng {c : Int → Prop} [DecidablePred c] : ∀ (n : Nat) (r : Int), 0 ≤ r → r + n ≤ 1000 → -4 ≤ kFirst c n r ∧ kFirst c n r ≤ 1000
  | 0, r, _, _ => by simp [kFirst]
  | n + 1, r, h0, h1 => by
    have ih := kFirst_rng (c := c) n (r + 1) (by omega) (by omega)
    rw [kFirst]
    split
    · omega
    · exact ih
def sBough (T s : Int → Int) (b w : Int) : Int := if 0 ≤ b ∧ b ≤ T 0 - 1 then (if w = 0 then T (5 + b) else if w = 1 then T (13 + b) else if w = 2 then T (21 + b) else if w = 3 then s b else if w = 4 then (if s b ≤ s 28 then 1 else 0) else if w = 5 then (if s b + T 4 ≤ s 28 then 1 else 0) else if w = 6 then s (8 + b) else -1) else -1
def sTenant (T s : Int → Int) (i w : Int) : Int := if 0 ≤ i ∧ i ≤ T 1 - 1 then (if w = 0 then s (16 + i) else if w = 1 then T (29 + i) else if w = 2 then T (33 + i) else if w = 3 then s (20 + i) else if w = 4 then s (24 + i) else if w = 5 then (if mWarm T s i then 1 else 0) else -1) else -1
def sCan (T s : Int → Int) (i b : Int) : Int := if (0 ≤ i ∧ i ≤ T 1 - 1) ∧ (0 ≤ b ∧ b ≤ T 0 - 1) then (if mCan T s i b then 1 else 0) else -1
abbrev sFd (T s : Int → Int) (i b : Int) : Int := if s (8 + b) = 0 then kFirst (fun d => mCould T s i b d 0) (100 - s 28).toNat (s 28) else -4
def sFirstDay (T s : Int → Int) (i b : Int) : Int := if (0 ≤ i ∧ i ≤ T 1 - 1) ∧ (0 ≤ b ∧ b ≤ T 0 - 1) then sFd T s i b else -1
def sWhose (T s : Int → Int) (b d : Int) : Int := if (0 ≤ b ∧ b ≤ T 0 - 1) ∧ (0 ≤ d ∧ d ≤ 99) then kBits (fun i => mCould T s i b d 0) (T 1).toNat else -1
def sEver (T s : Int → Int) (b : Int) : Nat → Bool
  | 0 => false
  | n + 1 => sEver T s b n || decide (sFd T s n b ≠ -4)
def sWaste (T s : Int → Int) : Nat → Int
  | 0 => 0
  | n + 1 => sWaste T s n + (if s (8 + (n : Int)) = 1 ∨ sEver T s n (T 1).toNat = true then 0 else T (21 + (n : Int)))
def sNeeds (T s : Int → Int) : Nat → Int
  | 0 => 0
  | n + 1 => sNeeds T s n + (if mWarm T s n then 0 else T (33 + (n : Int)) - s (20 + (n : Int)))
def sWarmBy (T s : Int → Int) (d : Int) : Int := if s 28 ≤ d ∧ d ≤ 99 then mBit T (mEach T (mAt T (d - s 28).toNat s)) else -1
def sAW (T : Int → Int) : Nat → (Int → Int) → Int
  | 0, _ => -4
  | n + 1, s => if mBit T (mEach T s) = 2 ^ (T 1).toNat - 1 then s 28 else sAW T n (mPass (mEach T s))
def mLast (T s : Int → Int) : Int → Int := mEach T (mAt T (99 - s 28).toNat s)
def sLeast (T s : Int → Int) (i : Int) : Int := if 0 ≤ i ∧ i ≤ T 1 - 1 then kFirst (fun r => mWarm T (mLast T (upi s (16 + i) r)) i) 20 1 else -1
def mClip (s : Int → Int) (p : Int) : Int → Int := upi (upi (upi (upi s 16 (if p < s 16 then p else s 16)) 17 (if p < s 17 then p else s 17)) 18 (if p < s 18 then p else s 18)) 19 (if p < s 19 then p else s 19)
def sPole (T s : Int → Int) : Int := kFirst (fun p => mBit T (mLast T (mClip s p)) = 2 ^ (T 1).toNat - 1) 20 1
