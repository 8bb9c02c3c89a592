/-! bits of small numbers; rules for shifts and masks -/
abbrev kbit (x b : Int) : Int := x / 2 ^ b.toNat % 2
theorem kb_sl : ∀ n, n < 32 → ((nI n &&& 31).toBitVec.smod 32).toNat = n := by decide +kernel
theorem k_nI {x : Int} (h : 0 ≤ x) : Int32.ofInt x = nI x.toNat := by
  obtain ⟨n, rfl⟩ := Int.eq_ofNat_of_zero_le h
  exact Int32.ofInt_eq_ofNat
theorem k_nI2 (n : Nat) : nI n = Int32.ofInt (n : Int) := Int32.ofInt_eq_ofNat.symm
theorem k_pow {b : Int} (h0 : 0 ≤ b) (h1 : b < 8) : (1 : Int) ≤ 2 ^ b.toNat ∧ (2 : Int) ^ b.toNat ≤ 128 := by
  rcases (show b = 0 ∨ b = 1 ∨ b = 2 ∨ b = 3 ∨ b = 4 ∨ b = 5 ∨ b = 6 ∨ b = 7 by omega) with rfl | rfl | rfl | rfl | rfl | rfl | rfl | rfl <;> decide
theorem k_pow30 {b : Int} (h0 : 0 ≤ b) (h1 : b < 31) : k_in (2 ^ b.toNat) := by
  have : ∀ n : Nat, n < 31 → -2147483648 ≤ (2 : Int) ^ n ∧ (2 : Int) ^ n ≤ 2147483647 := by decide +kernel
  exact this b.toNat (by omega)
theorem k_or : ∀ n, n < 256 → ∀ b, b < 8 → n / 2 ^ b % 2 = 0 → nI n ||| nI (2 ^ b) = nI (n + 2 ^ b) := by decide +kernel
section KW9
variable {E : kEnv} {d mc ms : Nat} {M : kMd} {pc : Nat} {L : kLs} {S : List kV} {h : kH} {Q : Option kV → kH → Prop}
theorem kv_shr {x y : Int} (hd : decode M.2.1 pc = .ok (.ishr, 1)) (h0 : 0 ≤ x) (h1 : x ≤ 2147483647) (h2 : 0 ≤ y) (h3 : y < 31) (k : kW E d mc ms M (pc + 1) L (kI (x / 2 ^ y.toNat) :: S) h Q) : kW E d mc ms M pc L (kI y :: kI x :: S) h Q := by
  have hp : (0 : Int) < 2 ^ y.toNat := Int.pow_pos (by decide)
  refine kw_ishrG hd ⟨by have := Int.ediv_nonneg h0 (Int.le_of_lt hp); omega, by have := Int.ediv_le_self (2 ^ y.toNat) h0; omega⟩ ?_ k
  obtain ⟨n, rfl⟩ := Int.eq_ofNat_of_zero_le h0
  obtain ⟨j, rfl⟩ := Int.eq_ofNat_of_zero_le h2
  rw [Int32.ofInt_eq_ofNat, Int32.ofInt_eq_ofNat]
  have := pk_shrN (n := n) (by omega) (nI j &&& 31) j (kb_sl j (by omega))
  show nI n >>> (nI j &&& 31) = _
  rw [this, k_nI2]
  congr 1
theorem kv_and1 {x : Int} (hd : decode M.2.1 pc = .ok (.iand, 1)) (h0 : 0 ≤ x) (h1 : x ≤ 2147483647) (k : kW E d mc ms M (pc + 1) L (kI (x % 2) :: S) h Q) : kW E d mc ms M pc L (kI 1 :: kI x :: S) h Q := by
  refine kw_iandG hd ⟨by omega, by omega⟩ ?_ k
  obtain ⟨n, rfl⟩ := Int.eq_ofNat_of_zero_le h0
  rw [Int32.ofInt_eq_ofNat]
  have := pk_andN (n := n) (by omega) (m := Int32.ofInt 1) 1 (by decide)
  show nI n &&& Int32.ofInt 1 = _
  rw [this, k_nI2]
  congr 1
theorem kv_shl1 {y : Int} (hd : decode M.2.1 pc = .ok (.ishl, 1)) (h2 : 0 ≤ y) (h3 : y < 31) (k : kW E d mc ms M (pc + 1) L (kI (2 ^ y.toNat) :: S) h Q) : kW E d mc ms M pc L (kI y :: kI 1 :: S) h Q := by
  refine kw_ishlG hd (k_pow30 h2 h3) ?_ k
  obtain ⟨j, rfl⟩ := Int.eq_ofNat_of_zero_le h2
  have h4 : ∀ j, j < 31 → 1 * 2 ^ j < 2 ^ 32 := by decide +kernel
  have := pk_shlN (n := 1) (nI j &&& 31) j (kb_sl j (by omega)) (h4 j (by omega))
  show nI 1 <<< (Int32.ofInt j &&& 31) = _
  rw [Int32.ofInt_eq_ofNat]
  show nI 1 <<< (nI j &&& 31) = _
  rw [this, k_nI2]
  congr 1
  simp
theorem kv_orb {x b : Int} (hd : decode M.2.1 pc = .ok (.ior, 1)) (h0 : 0 ≤ x) (h1 : x < 256) (h2 : 0 ≤ b) (h3 : b < 8) (hb : kbit x b = 0) (k : kW E d mc ms M (pc + 1) L (kI (x + 2 ^ b.toNat) :: S) h Q) : kW E d mc ms M pc L (kI (2 ^ b.toNat) :: kI x :: S) h Q := by
  have hp := k_pow h2 h3
  refine kw_iorG hd ⟨by omega, by omega⟩ ?_ k
  obtain ⟨n, rfl⟩ := Int.eq_ofNat_of_zero_le h0
  obtain ⟨j, rfl⟩ := Int.eq_ofNat_of_zero_le h2
  have e1 : ((2 : Int) ^ ((j : Nat) : Int).toNat) = ((2 ^ j : Nat) : Int) := by simp
  rw [e1, Int32.ofInt_eq_ofNat, Int32.ofInt_eq_ofNat]
  have hb2 : n / 2 ^ j % 2 = 0 := by
    have hb3 : ((n / 2 ^ j % 2 : Nat) : Int) = 0 := by
      rw [← hb]
      simp [kbit, Int.natCast_ediv, Int.natCast_emod]
    omega
  have := k_or n (by omega) j (by omega) hb2
  show nI n ||| nI (2 ^ j) = _
  rw [this, k_nI2]
  congr 1
end KW9
theorem k_divb {x b : Int} (h0 : 0 ≤ x) (h1 : x < 256) : 0 ≤ x / 2 ^ b.toNat ∧ x / 2 ^ b.toNat < 256 := by
  have hp : (0 : Int) < 2 ^ b.toNat := Int.pow_pos (by decide)
  exact ⟨Int.ediv_nonneg h0 (Int.le_of_lt hp), by have := Int.ediv_le_self (2 ^ b.toNat) h0; omega⟩
