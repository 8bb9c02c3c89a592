/-! the class: the weight of a set; sticks -/
theorem k_andz {n g : Nat} (hn : n < 256) (hg : g < 256) : n &&& (255 - g) = 0 ↔ ∀ b, b < 8 → n / 2 ^ b % 2 = 1 → g / 2 ^ b % 2 = 1 := by
  have h1 : ∀ g, g < 256 → ∀ b, b < 8 → (255 - g).testBit b = !(g.testBit b) := by decide +kernel
  constructor
  · intro h b hb hnb
    have e := congrArg (fun z => Nat.testBit z b) h
    simp only [Nat.testBit_and, Nat.zero_testBit, h1 g hg b hb] at e
    have n1 : n.testBit b = true := by simp [Nat.testBit_eq_decide_div_mod_eq, hnb]
    rw [n1] at e
    simp only [Bool.true_and, Bool.not_eq_eq_eq_not, Bool.not_false] at e
    simpa [Nat.testBit_eq_decide_div_mod_eq] using e
  · intro h
    apply Nat.eq_of_testBit_eq
    intro b
    rw [Nat.testBit_and, Nat.zero_testBit]
    by_cases hb : b < 8
    · rw [h1 g hg b hb]
      by_cases n1 : n.testBit b = true
      · have h2 := h b hb (by simpa [Nat.testBit_eq_decide_div_mod_eq] using n1)
        have g1 : g.testBit b = true := by simp [Nat.testBit_eq_decide_div_mod_eq, h2]
        simp [g1]
      · simp [n1]
    · have h3 : n < 2 ^ b := Nat.lt_of_lt_of_le hn (show 2 ^ 8 ≤ 2 ^ b from Nat.pow_le_pow_right (by decide) (by omega))
      rw [Nat.testBit_lt_two_pow h3]
      rfl
theorem k_nIand {n m : Nat} : nI n &&& nI m = nI (n &&& m) := by
  show Int32.ofBitVec (BitVec.ofNat 32 n &&& BitVec.ofNat 32 m) = Int32.ofBitVec (BitVec.ofNat 32 (n &&& m))
  rw [BitVec.ofNat_and]
theorem k_ng : ∀ g, g < 256 → nI g ^^^ Int32.ofInt (-1) = Int32.ofInt (-1 - (g : Int)) ∧ nI 255 &&& Int32.ofInt (-1 - (g : Int)) = nI (255 - g) := by decide +kernel
theorem k_n255 : ∀ n, n < 256 → nI n &&& nI 255 = nI n := by decide +kernel
section KW12
variable {E : kEnv} {d mc ms : Nat} {M : kMd} {pc : Nat} {L : kLs} {S : List kV} {h : kH} {Q : Option kV → kH → Prop}
theorem kv_not {x : Int} (hd : decode M.2.1 pc = .ok (.ixor, 1)) (h0 : 0 ≤ x) (h1 : x < 256) (k : kW E d mc ms M (pc + 1) L (kI (-1 - x) :: S) h Q) : kW E d mc ms M pc L (kI (-1) :: kI x :: S) h Q := by
  refine kw_ixorG hd ⟨by omega, by omega⟩ ?_ k
  rw [k_nI h0, (k_ng x.toNat (by omega)).1]
  congr 1
  omega
theorem kv_andn {x y : Int} (hd : decode M.2.1 pc = .ok (.iand, 1)) (h0 : 0 ≤ x) (h1 : x < 256) (g0 : 0 ≤ y) (g1 : y < 256) (k : kW E d mc ms M (pc + 1) L (kI ((x.toNat &&& (255 - y.toNat) : Nat) : Int) :: S) h Q) : kW E d mc ms M pc L (kI (-1 - y) :: kI x :: S) h Q := by
  have hle : x.toNat &&& (255 - y.toNat) ≤ x.toNat := Nat.and_le_left
  refine kw_iandG hd ⟨by omega, by omega⟩ ?_ k
  have e := (k_ng y.toNat (by omega)).2
  rw [Int.toNat_of_nonneg g0] at e
  rw [k_nI h0, ← k_n255 x.toNat (by omega), Int32.and_assoc, e, k_nIand, k_nI2]
end KW12
/-- all sticks of x below n are gone ones -/
def sBt (s : Int → Int) (x : Int) : Nat → Bool
  | 0 => true
  | n + 1 => sBt s x n && (decide (kbit x n ≠ 1) || decide (s (8 + (n : Int)) = 1))
def sWt (T : Int → Int) (x : Int) : Nat → Int
  | 0 => 0
  | n + 1 => sWt T x n + (if kbit x n = 1 then T (21 + (n : Int)) else 0)
theorem sWt_s {T : Int → Int} {x i : Int} (h : 0 ≤ i) : sWt T x (i + 1).toNat = sWt T x i.toNat + (if kbit x i = 1 then T (21 + i) else 0) := by
  rw [show (i + 1).toNat = i.toNat + 1 by omega, sWt, k_nat h]
theorem sWt_rng {T : Int → Int} {x : Int} (hT : mTO T) : ∀ n : Nat, n ≤ (T 0).toNat → 0 ≤ sWt T x n ∧ sWt T x n ≤ 20 * n
  | 0, _ => by simp [sWt]
  | n + 1, h => by
    have ih := sWt_rng (x := x) hT n (by omega)
    have t := (hT.2.2.2.2.2.1 n (by omega) (by omega)).2.2
    rw [sWt]
    split <;> omega
def oStk (T s : Int → Int) (w x : Int) : Bool := sBt s x (T 0).toNat && decide (sWt T x (T 0).toNat = w)
def sCnt (c : Int → Bool) : Nat → Int
  | 0 => 0
  | n + 1 => sCnt c n + (if c n = true then 1 else 0)
theorem sCnt_s {c : Int → Bool} {i : Int} (h : 0 ≤ i) : sCnt c (i + 1).toNat = sCnt c i.toNat + (if c i = true then 1 else 0) := by
  rw [show (i + 1).toNat = i.toNat + 1 by omega, sCnt, k_nat h]
theorem sCnt_rng {c : Int → Bool} : ∀ n : Nat, 0 ≤ sCnt c n ∧ sCnt c n ≤ n
  | 0 => by simp [sCnt]
  | n + 1 => by
    have ih := sCnt_rng (c := c) n
    rw [sCnt]
    split <;> omega
theorem sCnt_more {c : Int → Bool} {n : Nat} : ∀ k : Nat, (∀ x : Int, n ≤ x → x < n + k → c x = false) → sCnt c (n + k) = sCnt c n
  | 0, _ => rfl
  | k + 1, h => by
    rw [← Nat.add_assoc, sCnt, sCnt_more k (fun x a b => h x a (by omega)), h ((n + k : Nat) : Int) (by omega) (by omega)]
    simp
theorem sCnt_cong {c c2 : Int → Bool} : ∀ n : Nat, (∀ x : Int, 0 ≤ x → x < n → c x = c2 x) → sCnt c n = sCnt c2 n
  | 0, _ => rfl
  | n + 1, h => by rw [sCnt, sCnt, sCnt_cong n (fun x a b => h x a (by omega)), h n (by omega) (by omega)]
theorem kFirst_none {c : Int → Bool} : ∀ (n : Nat) (r : Int), (∀ x : Int, r ≤ x → x < r + n → c x = false) → kFirst (fun x => c x = true) n r = -4
  | 0, _, _ => rfl
  | n + 1, r, h => by
    rw [kFirst, if_neg (by rw [h r (by omega) (by omega)]; decide)]
    exact kFirst_none n (r + 1) (fun x a b => h x (by omega) (by omega))
theorem kFirst_more {c c2 : Int → Bool} : ∀ (n k : Nat) (r : Int), (∀ x : Int, r ≤ x → x < r + n → c x = c2 x) → (∀ x : Int, r + n ≤ x → x < r + n + k → c x = false) → kFirst (fun x => c x = true) (n + k) r = kFirst (fun x => c2 x = true) n r
  | 0, k, r, _, h => by
    rw [Nat.zero_add]
    exact kFirst_none k r (fun x a b => h x (by omega) (by omega))
  | n + 1, k, r, h1, h2 => by
    rw [show n + 1 + k = (n + k) + 1 by omega, kFirst, kFirst, h1 r (by omega) (by omega), kFirst_more n k (r + 1) (fun x a b => h1 x (by omega) (by omega)) (fun x a b => h2 x (by omega) (by omega))]
def sSticks (T s : Int → Int) (w v : Int) : Int := if (0 ≤ w ∧ w ≤ 99) ∧ (0 ≤ v ∧ v ≤ 1) then (if v = 0 then sCnt (oStk T s w) (2 ^ (T 0).toNat) else kFirst (fun x => oStk T s w x = true) (2 ^ (T 0).toNat) 0) else -1
/-- as the class tries a set -/
def oStC (T s : Int → Int) (w x : Int) : Bool := decide (((x.toNat &&& (255 - (gsum s).toNat) : Nat) : Int) = 0) && decide (sWt T x (T 0).toNat = w)
theorem sBt_all {s : Int → Int} {x : Int} : ∀ n : Nat, sBt s x n = true ↔ ∀ b : Nat, b < n → kbit x b = 1 → s (8 + (b : Int)) = 1
  | 0 => by simp [sBt]
  | n + 1 => by
    rw [sBt, Bool.and_eq_true, sBt_all n]
    constructor
    · rintro ⟨h1, h2⟩ b hb hk
      by_cases e : b = n
      · subst e
        simp only [Bool.or_eq_true, decide_eq_true_eq] at h2
        rcases h2 with h2 | h2
        · exact absurd hk h2
        · exact h2
      · exact h1 b (by omega) hk
    · intro h
      refine ⟨fun b hb => h b (by omega), ?_⟩
      simp only [Bool.or_eq_true, decide_eq_true_eq]
      by_cases hk : kbit x n = 1
      · exact Or.inr (h n (by omega) hk)
      · exact Or.inl hk
theorem k_bit8 : ∀ t : Nat, t ≤ 8 → ∀ n : Nat, n < 256 → ((∀ b : Nat, t ≤ b → b < 8 → n / 2 ^ b % 2 ≠ 1) ↔ n < 2 ^ t) := by
  intro t ht
  rcases (show t = 0 ∨ t = 1 ∨ t = 2 ∨ t = 3 ∨ t = 4 ∨ t = 5 ∨ t = 6 ∨ t = 7 ∨ t = 8 by omega) with rfl | rfl | rfl | rfl | rfl | rfl | rfl | rfl | rfl
  all_goals (intro n hn; constructor)
  all_goals first
    | (intro _; omega)
    | (intro h
       have h0 := fun q => h 0 q (by decide)
       have h1 := fun q => h 1 q (by decide)
       have h2 := fun q => h 2 q (by decide)
       have h3 := fun q => h 3 q (by decide)
       have h4 := fun q => h 4 q (by decide)
       have h5 := fun q => h 5 q (by decide)
       have h6 := fun q => h 6 q (by decide)
       have h7 := fun q => h 7 q (by decide)
       simp at h0 h1 h2 h3 h4 h5 h6 h7
       omega)
    | (intro h b b0 b1
       rcases (show b = 0 ∨ b = 1 ∨ b = 2 ∨ b = 3 ∨ b = 4 ∨ b = 5 ∨ b = 6 ∨ b = 7 by omega) with rfl | rfl | rfl | rfl | rfl | rfl | rfl | rfl <;> simp at h b0 ⊢ <;> omega)
theorem oStC_eq {T s : Int → Int} {w x : Int} (hT : mTO T) (hS : mSO T s) (hx : 0 ≤ x ∧ x < 256) : oStC T s w x = (decide (x < 2 ^ (T 0).toNat) && oStk T s w x) := by
  have n0 := hT.1
  have hg := gsum_le hS
  have key : (((x.toNat &&& (255 - (gsum s).toNat) : Nat) : Int) = 0) ↔ (x < 2 ^ (T 0).toNat ∧ sBt s x (T 0).toNat = true) := by
    obtain ⟨n, rfl⟩ := Int.eq_ofNat_of_zero_le hx.1
    have hn : n < 256 := by omega
    have kb : ∀ b : Nat, kbit (n : Int) (b : Int) = ((n / 2 ^ b % 2 : Nat) : Int) := fun b => by simp [kbit, Int.natCast_ediv, Int.natCast_emod]
    have gb : ∀ b : Nat, b < 8 → ((((gsum s).toNat / 2 ^ b % 2 : Nat) : Int) = s (8 + (b : Int))) := fun b hb => by
      have q := gsum_bit hS (b := (b : Int)) (by omega)
      rw [← q, show gsum s = (((gsum s).toNat : Nat) : Int) by omega]
      simp [kbit, Int.natCast_ediv, Int.natCast_emod]
    have hz := k_andz (n := n) (g := (gsum s).toNat) hn (by omega)
    have h8 := k_bit8 (T 0).toNat (by omega) n hn
    have e2 : ((n : Int) < 2 ^ (T 0).toNat) ↔ n < 2 ^ (T 0).toNat := by
      rw [show (2 : Int) ^ (T 0).toNat = ((2 ^ (T 0).toNat : Nat) : Int) by simp]
      omega
    rw [e2, ← h8, sBt_all, Int.toNat_natCast]
    constructor
    · intro h
      have h' := hz.mp (by omega)
      refine ⟨fun b b0 b1 q => ?_, fun b b1 q => ?_⟩
      · have z := h' b b1 q
        have z2 := gb b b1
        have z3 := (hS.1 (b : Int) (by omega) (by omega)).2 (by omega)
        omega
      · rw [kb] at q
        have z := h' b (by omega) (by omega)
        have z2 := gb b (by omega)
        omega
    · rintro ⟨h1, h2⟩
      have : n &&& (255 - (gsum s).toNat) = 0 := by
        refine hz.mpr (fun b hb q => ?_)
        by_cases hbt : b < (T 0).toNat
        · have z := h2 b hbt (by rw [kb]; omega)
          have z2 := gb b hb
          omega
        · exact absurd q (h1 b (by omega) hb)
      omega
  unfold oStC oStk
  rw [decide_eq_decide.mpr key, Bool.decide_and, Bool.and_assoc]
  simp
theorem k_p8 {T : Int → Int} (hT : mTO T) : 1 ≤ (2 : Nat) ^ (T 0).toNat ∧ (2 : Nat) ^ (T 0).toNat ≤ 256 ∧ ((2 : Int) ^ (T 0).toNat = ((2 ^ (T 0).toNat : Nat) : Int)) := by
  have n0 := hT.1
  refine ⟨Nat.one_le_two_pow, ?_, by simp⟩
  have h := Nat.pow_le_pow_right (n := 2) (by decide) (show (T 0).toNat ≤ 8 by omega)
  omega
theorem sSticks_C {T s : Int → Int} {w v : Int} (hT : mTO T) (hS : mSO T s) (h : (0 ≤ w ∧ w ≤ 99) ∧ (0 ≤ v ∧ v ≤ 1)) : sSticks T s w v = if v = 0 then sCnt (oStC T s w) 256 else kFirst (fun x => oStC T s w x = true) 256 0 := by
  obtain ⟨p1, p2, p3⟩ := k_p8 hT
  have c1 : ∀ x : Int, 0 ≤ x → x < ((2 ^ (T 0).toNat : Nat) : Int) → oStC T s w x = oStk T s w x := fun x a b => by
    rw [oStC_eq hT hS (by omega), decide_eq_true (by omega), Bool.true_and]
  have c2 : ∀ x : Int, ((2 ^ (T 0).toNat : Nat) : Int) ≤ x → x < 256 → oStC T s w x = false := fun x a b => by
    rw [oStC_eq hT hS (by omega), decide_eq_false (by omega), Bool.false_and]
  unfold sSticks
  rw [if_pos h]
  have e1 : sCnt (oStC T s w) 256 = sCnt (oStk T s w) (2 ^ (T 0).toNat) := by
    rw [show 256 = 2 ^ (T 0).toNat + (256 - 2 ^ (T 0).toNat) by omega, sCnt_more _ (fun x a b => c2 x a (by omega))]
    exact sCnt_cong _ c1
  have e2 : kFirst (fun x => oStC T s w x = true) 256 0 = kFirst (fun x => oStk T s w x = true) (2 ^ (T 0).toNat) 0 := by
    rw [show 256 = 2 ^ (T 0).toNat + (256 - 2 ^ (T 0).toNat) by omega]
    exact kFirst_more _ _ 0 (fun x a b => c1 x a (by omega)) (fun x a b => c2 x (by omega) (by omega))
  rw [e1, e2]
theorem l_weightOf {E : kEnv} {w : List (Nat × Nat)} {f : Nat → Int → Int} {g : Nat → Int → Option Nat} {T : Int → Int} {x : Int} (hg : kG g) (hT : mTO T) (hR : RF T f) (hx : 0 ≤ x ∧ x < 256) : ∀ (n : Nat) (b : Int), (0 ≤ b ∧ b ≤ T 0) → (T 0 - b).toNat < n → kW E 1 0 0 M_X2_weightOf 4 [some (kA (4)), some (kI (x)), some (kI (sWt T x b.toNat)), some (kI (b))] [] ((kMC ++ w), f, g) (fun r h' => r = some (kI (sWt T x (T 0).toNat)) ∧ h' = ((kMC ++ w), f, g)) := by
  intro n
  induction n with
  | zero => intro b _ y; omega
  | succ n ih =>
    intro b y0 y1
    have hF := RF_FO hT hR
    have n0 := hT.1
    have n1 := hT.2.1
    have r0 := hR.1
    have r1 := hR.2.1
    have qw := sWt_rng (x := x) hT b.toNat (by omega)
    have z := k_divb (b := b) hx.1 hx.2
    have z2 := z.2
    have kb1 : ∀ _ : Unit, 0 ≤ b → b < T 0 → f 7 b = T (21 + b) := fun _ x y => (hR.2.2.2.2.2.1 b x y).2.2
    have ht : ∀ _ : Unit, 0 ≤ b → b < T 0 → 1 ≤ f 7 b ∧ f 7 b ≤ 20 := fun _ x y => (hF.2.2.2.2.2.1 b x (by omega)).2.2
    refine kw_iload_n dX2_weightOf_4 rfl ?_
    refine kw_aload_n dX2_weightOf_5 rfl ?_
    refine kv_getI (kz := 5) dX2_weightOf_6 kf_X2_27 rfl rfl rfl rfl ?_
    refine kw_icmp_ge (tgt := 35) dX2_weightOf_9 (by decide) (fun h1 => ?_) (fun h1 => ?_)
    · refine kw_iload_n dX2_weightOf_35 rfl ?_
      exact kv_ri dX2_weightOf_36 rfl (by rw [show b = T 0 by omega]) rfl
    · refine kw_iload_n dX2_weightOf_12 rfl ?_
      refine kw_iload_n dX2_weightOf_13 rfl ?_
      refine kv_shr dX2_weightOf_14 (by omega) (by omega) (by omega) (by omega) ?_
      refine kw_iconst dX2_weightOf_15 ⟨by decide, by decide⟩ ?_
      refine kv_and1 dX2_weightOf_16 (by omega) (by omega) ?_
      refine kw_iconst dX2_weightOf_17 ⟨by decide, by decide⟩ ?_
      refine kw_icmp_ne (tgt := 29) dX2_weightOf_18 (by decide) (fun h2 => ?_) (fun h2 => ?_)
      · refine kw_iinc dX2_weightOf_29 (by decide) rfl ⟨by omega, by omega⟩ trivial (L2 := [some (kA (4)), some (kI (x)), some (kI (sWt T x b.toNat)), some (kI (b + 1))]) rfl ?_
        refine kw_goto (tgt := 4) dX2_weightOf_32 (by decide) ?_
        have e1 := sWt_s (T := T) (x := x) y0.1
        rw [if_neg (by unfold kbit; omega), Int.add_zero] at e1
        rw [← e1]
        exact ih (b + 1) ⟨by omega, by omega⟩ (by omega)
      · refine kw_iload_n dX2_weightOf_21 rfl ?_
        refine kw_aload_n dX2_weightOf_22 rfl ?_
        refine kw_iload_n dX2_weightOf_23 rfl ?_
        refine kv_callV1 (M2 := M_X2_weight) (As := [kI (b)]) dX2_weightOf_24 ml_X2_82 q_X2_weight rfl rfl rfl (Nat.le_of_ble_eq_true rfl) (c_weight hg ⟨by omega, by omega⟩) (by omega) ?_
        have ht0 := ht () (by omega) (by omega)
        refine kw_iadd dX2_weightOf_27 ⟨by omega, by omega⟩ ?_
        refine kw_istore_n dX2_weightOf_28 (by decide) trivial (L2 := [some (kA (4)), some (kI (x)), some (kI ((sWt T x b.toNat) + (f 7 b))), some (kI (b))]) rfl ?_
        refine kw_iinc dX2_weightOf_29 (by decide) rfl ⟨by omega, by omega⟩ trivial (L2 := [some (kA (4)), some (kI (x)), some (kI ((sWt T x b.toNat) + (f 7 b))), some (kI (b + 1))]) rfl ?_
        refine kw_goto (tgt := 4) dX2_weightOf_32 (by decide) ?_
        have e1 := sWt_s (T := T) (x := x) y0.1
        rw [if_pos (by unfold kbit; omega), ← kb1 () y0.1 (by omega)] at e1
        rw [← e1]
        exact ih (b + 1) ⟨by omega, by omega⟩ (by omega)
theorem c_weightOf {E : kEnv} {w : List (Nat × Nat)} {f : Nat → Int → Int} {g : Nat → Int → Option Nat} {T : Int → Int} {x : Int} (hg : kG g) (hT : mTO T) (hR : RF T f) (hx : 0 ≤ x ∧ x < 256) : kF E 1 M_X2_weightOf [kA (4), kI (x)] ((kMC ++ w), f, g) (some (kI (sWt T x (T 0).toNat))) ((kMC ++ w), f, g) := by
  refine kF_of (by decide) (by simp [k_one]) (Nat.le_of_ble_eq_true rfl) (L := [some (kA (4)), some (kI (x)), none, none]) rfl ?_
  have hF := RF_FO hT hR
  have n0 := hT.1
  have n1 := hT.2.1
  have r0 := hR.1
  have r1 := hR.2.1
  refine kw_iconst dX2_weightOf_0 ⟨by decide, by decide⟩ ?_
  refine kw_istore_n dX2_weightOf_1 (by decide) trivial (L2 := [some (kA (4)), some (kI (x)), some (kI (0)), none]) rfl ?_
  refine kw_iconst dX2_weightOf_2 ⟨by decide, by decide⟩ ?_
  refine kw_istore_n dX2_weightOf_3 (by decide) trivial (L2 := [some (kA (4)), some (kI (x)), some (kI (0)), some (kI (0))]) rfl ?_
  exact l_weightOf hg hT hR hx _ 0 ⟨by omega, by omega⟩ (Nat.lt_succ_self _)
theorem l_sticks {E : kEnv} {w0 : List (Nat × Nat)} {f : Nat → Int → Int} {g : Nat → Int → Option Nat} {T s : Int → Int} {w v X : Int} (hg : kG g) (hT : mTO T) (hS : mSO T s) (hR : RF T f) (hI : Sim T f 10 s) (hD : ∀ b, 0 ≤ b → b < T 0 → f 11 b = s b) (h28 : 0 ≤ s 28 ∧ s 28 ≤ 99) (hwv : (0 ≤ w ∧ w ≤ 99) ∧ (0 ≤ v ∧ v ≤ 1)) (zX : X = kFirst (fun x => oStC T s w x = true) 256 0) : ∀ (n : Nat) (x fi : Int), (0 ≤ x ∧ x ≤ 256) → (256 - x).toNat < n → X = (if fi ≠ -4 then fi else kFirst (fun x => oStC T s w x = true) (256 - x).toNat x) → kW E 2 0 0 M_X6_sticks 30 [some (kA 0), some (kI w), some (kI v), some (kI (sCnt (oStC T s w) x.toNat)), some (kI fi), some (kI x)] [] ((kMC ++ w0), f, g) (fun r h' => r = some (kI (sSticks T s w v)) ∧ h' = ((kMC ++ w0), f, g)) := by
  intro n
  induction n with
  | zero => intro x fi _ y; omega
  | succ n ih =>
    intro x fi y0 y1 z1
    have qc := sCnt_rng (c := oStC T s w) x.toNat
    have hF := RF_FO hT hR
    have n0 := hT.1
    have n1 := hT.2.1
    have r0 := hR.1
    have r1 := hR.2.1
    have hSO := Sim_SO hT hS hR hI (by omega)
    have e28 := hI.1
    have e2 := hI.2.1
    have sg := hSO.2.1
    refine kw_iload dX6_sticks_30 rfl ?_
    refine kw_sipush dX6_sticks_32 (by decide) (by decide) ?_
    refine kw_icmp_ge (tgt := 86) dX6_sticks_35 (by decide) (fun h1 => ?_) (fun h1 => ?_)
    · refine kw_iload_n dX6_sticks_86 rfl ?_
      refine kw_if_ne (tgt := 94) dX6_sticks_87 (by decide) (fun h2 => ?_) (fun h2 => ?_)
      · refine kw_iload dX6_sticks_94 rfl ?_
        have e5 := z1
        rw [show (256 - x).toNat = 0 by omega, kFirst] at e5
        refine kv_ri dX6_sticks_96 rfl ?_ rfl
        rw [sSticks_C hT hS hwv]
        rw [if_neg (by omega), ← zX, e5]
        split <;> omega
      · refine kw_iload_n dX6_sticks_90 rfl ?_
        refine kw_goto (tgt := 96) dX6_sticks_91 (by decide) ?_
        have e5 := z1
        rw [show (256 - x).toNat = 0 by omega, kFirst] at e5
        refine kv_ri dX6_sticks_96 rfl ?_ rfl
        rw [sSticks_C hT hS hwv]
        rw [if_pos (by omega), show x = 256 by omega]
        rfl
    · refine kw_iload dX6_sticks_38 rfl ?_
      refine kw_aload_n dX6_sticks_40 rfl ?_
      refine kv_getR (b := 10) dX6_sticks_41 kf_X6_26 rfl rfl rfl (hg (0, 2, 10) (by decide)) ?_
      refine kv_getI (kz := 2) dX6_sticks_44 kf_X6_221 rfl rfl rfl rfl ?_
      refine kw_iconst dX6_sticks_47 ⟨by decide, by decide⟩ ?_
      refine kv_not dX6_sticks_48 (by omega) (by omega) ?_
      refine kv_andn dX6_sticks_49 (by omega) (by omega) (by omega) (by omega) ?_
      refine kw_if_ne (tgt := 80) dX6_sticks_50 (by decide) (fun h3 => ?_) (fun h3 => ?_)
      · refine kw_iinc dX6_sticks_80 (by decide) rfl ⟨by omega, by omega⟩ trivial (L2 := [some (kA (0)), some (kI (w)), some (kI (v)), some (kI (sCnt (oStC T s w) x.toNat)), some (kI (fi)), some (kI (x + 1))]) rfl ?_
        refine kw_goto (tgt := 30) dX6_sticks_83 (by decide) ?_
        have oc : oStC T s w x = false := by
          unfold oStC
          rw [← e2]
          simp only [Bool.and_eq_false_iff, decide_eq_true_eq, decide_eq_false_iff_not]
          omega
        have e3 := sCnt_s (c := oStC T s w) y0.1
        rw [oc] at e3
        rw [if_neg (by decide), Int.add_zero] at e3
        have e4 := z1
        rw [show (256 - x).toNat = (256 - (x + 1)).toNat + 1 by omega, kFirst, oc] at e4
        rw [if_neg (show ¬ (false = true) by decide)] at e4
        rw [← e3]
        refine ih (x + 1) _ ⟨by omega, by omega⟩ (by omega) ?_
        exact e4
      · refine kw_aload_n dX6_sticks_53 rfl ?_
        refine kv_getR (b := 4) dX6_sticks_54 kf_X6_19 rfl rfl rfl (hg (0, 1, 4) (by decide)) ?_
        refine kw_iload dX6_sticks_57 rfl ?_
        refine kv_callV1 (M2 := M_X2_weightOf) (As := [kI (x)]) dX6_sticks_59 ml_X6_224 q_X2_weightOf rfl rfl rfl (Nat.le_of_ble_eq_true rfl) (c_weightOf hg hT hR ⟨by omega, by omega⟩) (by omega) ?_
        refine kw_iload_n dX6_sticks_62 rfl ?_
        refine kw_icmp_ne (tgt := 80) dX6_sticks_63 (by decide) (fun h4 => ?_) (fun h4 => ?_)
        · refine kw_iinc dX6_sticks_80 (by decide) rfl ⟨by omega, by omega⟩ trivial (L2 := [some (kA (0)), some (kI (w)), some (kI (v)), some (kI (sCnt (oStC T s w) x.toNat)), some (kI (fi)), some (kI (x + 1))]) rfl ?_
          refine kw_goto (tgt := 30) dX6_sticks_83 (by decide) ?_
          have oc : oStC T s w x = false := by
            unfold oStC
            rw [← e2]
            simp only [Bool.and_eq_false_iff, decide_eq_true_eq, decide_eq_false_iff_not]
            omega
          have e3 := sCnt_s (c := oStC T s w) y0.1
          rw [oc] at e3
          rw [if_neg (by decide), Int.add_zero] at e3
          have e4 := z1
          rw [show (256 - x).toNat = (256 - (x + 1)).toNat + 1 by omega, kFirst, oc] at e4
          rw [if_neg (show ¬ (false = true) by decide)] at e4
          rw [← e3]
          refine ih (x + 1) _ ⟨by omega, by omega⟩ (by omega) ?_
          exact e4
        · refine kw_iinc dX6_sticks_66 (by decide) rfl ⟨by omega, by omega⟩ trivial (L2 := [some (kA (0)), some (kI (w)), some (kI (v)), some (kI ((sCnt (oStC T s w) x.toNat) + 1)), some (kI (fi)), some (kI (x))]) rfl ?_
          refine kw_iload dX6_sticks_69 rfl ?_
          refine kw_bipush dX6_sticks_71 (by decide) (by decide) ?_
          refine kw_icmp_ne (tgt := 80) dX6_sticks_73 (by decide) (fun h5 => ?_) (fun h5 => ?_)
          · refine kw_iinc dX6_sticks_80 (by decide) rfl ⟨by omega, by omega⟩ trivial (L2 := [some (kA (0)), some (kI (w)), some (kI (v)), some (kI ((sCnt (oStC T s w) x.toNat) + 1)), some (kI (fi)), some (kI (x + 1))]) rfl ?_
            refine kw_goto (tgt := 30) dX6_sticks_83 (by decide) ?_
            have oc : oStC T s w x = true := by
              unfold oStC
              rw [← e2]
              simp only [Bool.and_eq_true, decide_eq_true_eq, decide_eq_false_iff_not]
              omega
            have e3 := sCnt_s (c := oStC T s w) y0.1
            rw [oc] at e3
            rw [if_pos rfl] at e3
            have e4 := z1
            rw [show (256 - x).toNat = (256 - (x + 1)).toNat + 1 by omega, kFirst, oc] at e4
            rw [if_pos (show true = true from rfl)] at e4
            rw [← e3]
            refine ih (x + 1) _ ⟨by omega, by omega⟩ (by omega) ?_
            rw [if_pos (by omega)]
            rw [if_pos (by omega)] at e4
            exact e4
          · refine kw_iload dX6_sticks_76 rfl ?_
            refine kw_istore dX6_sticks_78 (by decide) trivial (L2 := [some (kA (0)), some (kI (w)), some (kI (v)), some (kI ((sCnt (oStC T s w) x.toNat) + 1)), some (kI (x)), some (kI (x))]) rfl ?_
            refine kw_iinc dX6_sticks_80 (by decide) rfl ⟨by omega, by omega⟩ trivial (L2 := [some (kA (0)), some (kI (w)), some (kI (v)), some (kI ((sCnt (oStC T s w) x.toNat) + 1)), some (kI (x)), some (kI (x + 1))]) rfl ?_
            refine kw_goto (tgt := 30) dX6_sticks_83 (by decide) ?_
            have oc : oStC T s w x = true := by
              unfold oStC
              rw [← e2]
              simp only [Bool.and_eq_true, decide_eq_true_eq, decide_eq_false_iff_not]
              omega
            have e3 := sCnt_s (c := oStC T s w) y0.1
            rw [oc] at e3
            rw [if_pos rfl] at e3
            have e4 := z1
            rw [show (256 - x).toNat = (256 - (x + 1)).toNat + 1 by omega, kFirst, oc] at e4
            rw [if_pos (show true = true from rfl)] at e4
            rw [← e3]
            refine ih (x + 1) _ ⟨by omega, by omega⟩ (by omega) ?_
            rw [if_pos (by omega)]
            rw [if_neg (by omega)] at e4
            exact e4
theorem c_sticks {E : kEnv} {w0 : List (Nat × Nat)} {f : Nat → Int → Int} {g : Nat → Int → Option Nat} {T s : Int → Int} {w v : Int} (hg : kG g) (hT : mTO T) (hS : mSO T s) (hR : RF T f) (hI : Sim T f 10 s) (hD : ∀ b, 0 ≤ b → b < T 0 → f 11 b = s b) (h28 : 0 ≤ s 28 ∧ s 28 ≤ 99) : kF E 2 M_X6_sticks [kA (0), kI (w), kI (v)] ((kMC ++ w0), f, g) (some (kI (sSticks T s w v))) ((kMC ++ w0), f, g) := by
  refine kF_of (by decide) (by simp [k_one]) (Nat.le_of_ble_eq_true rfl) (L := [some (kA (0)), some (kI (w)), some (kI (v)), none, none, none]) rfl ?_
  have hF := RF_FO hT hR
  have n0 := hT.1
  have n1 := hT.2.1
  have r0 := hR.1
  have r1 := hR.2.1
  have hSO := Sim_SO hT hS hR hI (by omega)
  have e28 := hI.1
  have e2 := hI.2.1
  have sg := hSO.2.1
  refine kw_iload_n dX6_sticks_0 rfl ?_
  refine kw_iconst dX6_sticks_1 ⟨by decide, by decide⟩ ?_
  refine kw_bipush dX6_sticks_2 (by decide) (by decide) ?_
  refine kv_callS1 (M2 := M_X6_isWithin) (As := [kI (w), kI (0), kI (99)]) dX6_sticks_4 ml_X6_72 q_X6_isWithin rfl (Nat.le_of_ble_eq_true rfl) (c_isWithin) (by omega) ?_
  refine kv_ifeqB (tgt := 19) dX6_sticks_7 (by decide) (fun h1 => ?_) (fun h1 => ?_)
  · refine kw_iconst dX6_sticks_19 ⟨by decide, by decide⟩ ?_
    exact kv_ri dX6_sticks_20 rfl (Eq.symm (by unfold sSticks; rw [if_neg (by omega)])) rfl
  · refine kw_iload_n dX6_sticks_10 rfl ?_
    refine kw_iconst dX6_sticks_11 ⟨by decide, by decide⟩ ?_
    refine kw_iconst dX6_sticks_12 ⟨by decide, by decide⟩ ?_
    refine kv_callS1 (M2 := M_X6_isWithin) (As := [kI (v), kI (0), kI (1)]) dX6_sticks_13 ml_X6_72 q_X6_isWithin rfl (Nat.le_of_ble_eq_true rfl) (c_isWithin) (by omega) ?_
    refine kv_ifneB (tgt := 21) dX6_sticks_16 (by decide) (fun h2 => ?_) (fun h2 => ?_)
    · refine kw_iconst dX6_sticks_21 ⟨by decide, by decide⟩ ?_
      refine kw_istore_n dX6_sticks_22 (by decide) trivial (L2 := [some (kA (0)), some (kI (w)), some (kI (v)), some (kI (0)), none, none]) rfl ?_
      refine kw_bipush dX6_sticks_23 (by decide) (by decide) ?_
      refine kw_istore dX6_sticks_25 (by decide) trivial (L2 := [some (kA (0)), some (kI (w)), some (kI (v)), some (kI (0)), some (kI (-4)), none]) rfl ?_
      refine kw_iconst dX6_sticks_27 ⟨by decide, by decide⟩ ?_
      refine kw_istore dX6_sticks_28 (by decide) trivial (L2 := [some (kA (0)), some (kI (w)), some (kI (v)), some (kI (0)), some (kI (-4)), some (kI (0))]) rfl ?_
      exact l_sticks hg hT hS hR hI hD h28 (by omega) rfl _ 0 (-4) ⟨by omega, by omega⟩ (Nat.lt_succ_self _) (if_neg (by decide)).symm
    · refine kw_iconst dX6_sticks_19 ⟨by decide, by decide⟩ ?_
      exact kv_ri dX6_sticks_20 rfl (Eq.symm (by unfold sSticks; rw [if_neg (by omega)])) rfl
