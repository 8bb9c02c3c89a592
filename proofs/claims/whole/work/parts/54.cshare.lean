/-! the class: who can take, find, share -/
theorem kBits_get {c : Int → Prop} [DecidablePred c] : ∀ (n i : Nat), kbit (kBits c n) (i : Int) = 1 ↔ i < n ∧ c (i : Int)
  | 0, i => by simp [kBits, kbit]
  | n + 1, i => by
    have ih := kBits_get (c := c) n i
    have hl := kBits_lt (c := c) n
    have hp : (0 : Int) < 2 ^ n := Int.pow_pos (by decide)
    rw [kBits]
    by_cases hc : c (n : Int)
    · rw [if_pos hc]
      by_cases e : i = n
      · subst e
        have q : kbit (kBits c i + 2 ^ i) (i : Int) = 1 := by
          unfold kbit
          rw [Int.toNat_natCast, show kBits c i + 2 ^ i = kBits c i + 2 ^ i * 1 by omega, Int.add_mul_ediv_left _ _ (by omega), Int.ediv_eq_zero_of_lt hl.1 hl.2]
          rfl
        exact ⟨fun _ => ⟨by omega, hc⟩, fun _ => q⟩
      · by_cases hi : i < n
        · have q : kbit (kBits c n + 2 ^ n) (i : Int) = kbit (kBits c n) (i : Int) := by
            unfold kbit
            rw [Int.toNat_natCast, show (2 : Int) ^ n = 2 ^ i * (2 ^ (n - i - 1) * 2) by rw [← Int.pow_succ, ← Int.pow_add]; congr 1; omega, Int.add_mul_ediv_left _ _ (by have : (0 : Int) < 2 ^ i := Int.pow_pos (by decide); omega), Int.add_mul_emod_self_right]
          rw [q, ih]
          exact ⟨fun z => ⟨by omega, z.2⟩, fun z => ⟨hi, z.2⟩⟩
        · have q : kbit (kBits c n + 2 ^ n) (i : Int) = 0 := by
            unfold kbit
            have h2 : (2 : Int) ^ (n + 1) ≤ 2 ^ i := by
              have h3 : (1 : Int) ≤ 2 ^ (i - (n + 1)) := Int.pow_pos (by decide)
              have h4 : (0 : Int) ≤ 2 ^ (n + 1) := Int.le_of_lt (Int.pow_pos (by decide))
              have z := Int.mul_le_mul_of_nonneg_left h3 h4
              rw [Int.mul_one, ← Int.pow_add, show n + 1 + (i - (n + 1)) = i by omega] at z
              exact z
            rw [Int.pow_succ] at h2
            rw [Int.toNat_natCast, Int.ediv_eq_zero_of_lt (by omega) (by omega)]
            rfl
          rw [q]
          exact ⟨fun z => absurd z (by decide), fun z => by omega⟩
    · rw [if_neg hc, Int.add_zero, ih]
      constructor
      · exact fun z => ⟨by omega, z.2⟩
      · intro z
        refine ⟨?_, z.2⟩
        rcases Nat.lt_or_ge i n with q | q
        · exact q
        · exact absurd (show c (n : Int) from (show i = n by omega) ▸ z.2) hc
/-- what lies outside what the dealing writes -/
def dOut (f f2 : Nat → Int → Int) : Prop := ∀ a : Nat, a < 39 ∨ 44 < a → f2 a = f a
theorem dOut_rf {f : Nat → Int → Int} : dOut f f := fun _ _ => rfl
theorem dOut_u {f f2 : Nat → Int → Int} {a : Nat} {i v : Int} (h : dOut f f2) (ha : 39 ≤ a ∧ a ≤ 44) : dOut f (k_u f2 a i v) := fun c hc => (show k_u f2 a i v c = f2 c from by funext j; exact k_u_ne (by omega)).trans (h c hc)
theorem dOut_R {T : Int → Int} {f f2 : Nat → Int → Int} (h : dOut f f2) (hR : RF T f) : RF T f2 := RF_mono hR (fun b hb => h b (by omega))
theorem dOut_S {T s : Int → Int} {f f2 : Nat → Int → Int} (h : dOut f f2) (hI : Sim T f 10 s) : Sim T f2 10 s := Sim_mono hI (h 10 (by omega)) (h 11 (by omega))
def sF (T s : Int → Int) : Nat → Int
  | 0 => 0
  | n + 1 => sF T s n + fr T s 0 0 n
theorem sF_s {T s : Int → Int} {i : Int} (h : 0 ≤ i) : sF T s (i + 1).toNat = sF T s i.toNat + fr T s 0 0 i.toNat := by
  rw [show (i + 1).toNat = i.toNat + 1 by omega, sF]
theorem fr_0 {T s : Int → Int} {i : Int} (hT : mTO T) (h : 0 ≤ i) : fr T s 0 0 i.toNat = if i < T 1 then T (29 + i) - s (24 + i) else 0 := by
  have n1 := hT.2.1
  have w3 := tmn T
  unfold fr
  rw [Nat.zero_min, k_nat h]
  by_cases q : i < T 1
  · rw [if_pos q, if_pos (by omega), gsm]; omega
  · rw [if_neg q, if_neg (by omega)]
theorem sF_rng {T s : Int → Int} (hT : mTO T) (hS : mSO T s) (hC : mCO T s) : ∀ n : Nat, 0 ≤ sF T s n ∧ sF T s n ≤ 40 * n
  | 0 => by simp [sF]
  | n + 1 => by
    have ih := sF_rng hT hS hC n
    have z := fr_rng (b := 0) (q := 0) (i := n) hT hS hC (by rw [Nat.zero_min]; rfl)
    rw [sF]
    omega
def tkr (T s : Int → Int) (k : Int) : Int := if k < T 0 then kBits (fun i => mCan T s i k) (T 1).toNat else 0
theorem tkr_rng {T s : Int → Int} {k : Int} (hT : mTO T) : 0 ≤ tkr T s k ∧ tkr T s k < 256 := by
  have n1 := hT.2.1
  have hl := kBits_lt (c := fun i => mCan T s i k) (T 1).toNat
  have hp := k_pow4 (T 1).toNat (by omega)
  unfold tkr
  split <;> omega
/-- from b on the rows of who can and of what is left stand -/
def dRw (T s : Int → Int) (f : Nat → Int → Int) (b : Int) : Prop := f 41 8 = 0 ∧ (0 ≤ f 41 b ∧ f 41 b ≤ 20 * (8 - b)) ∧ ∀ k : Int, b ≤ k → k < 8 → f 40 k = tkr T s k ∧ f 41 k = f 41 (k + 1) + (if f 40 k = 0 then 0 else f 7 k)
theorem dRw_s {T s : Int → Int} {f : Nat → Int → Int} {b x y : Int} (h : dRw T s f (b + 1)) (hb : 0 ≤ b ∧ b < 8) (hx : x = tkr T s b) (hy : y = f 41 (b + 1) + (if x = 0 then 0 else f 7 b)) (hw : x = 0 ∨ (0 ≤ f 7 b ∧ f 7 b ≤ 20)) : dRw T s (k_u (k_u f 40 b x) 41 b y) b := by
  obtain ⟨h1, h2, h3⟩ := h
  refine ⟨?_, ?_, fun k k0 k1 => ?_⟩
  · rw [k_u_ne2 (by omega), k_u_ne (by decide)]; exact h1
  · rw [k_u_self, hy]; split <;> omega
  · rw [k_u_ne (a := 41) (b := 40) (by decide), k_u_ne (a := 41) (b := 7) (by decide), k_u_ne (a := 40) (b := 7) (by decide)]
    by_cases e : k = b
    · rw [e, k_u_self, k_u_self, k_u_ne2 (by omega), k_u_ne (by decide)]
      exact ⟨hx, hy⟩
    · rw [k_u_ne2 (a := 40) e, k_u_ne2 (a := 41) e, k_u_ne (by decide), k_u_ne2 (by omega), k_u_ne (by decide)]
      exact h3 k (by omega) k1
theorem dRw_St {T s : Int → Int} {f : Nat → Int → Int} (hT : mTO T) (hR : RF T f) (h : dRw T s f 0) : dSt T s f := by
  have n0 := hT.1
  have n1 := hT.2.1
  have w3 := tmn T
  obtain ⟨h1, h2, h3⟩ := h
  refine ⟨fun k hk => (hR.2.2.2.2.2.1 (k : Int) (by omega) (by omega)).2.2, fun k hk => ?_, h1, fun k hk => (h3 (k : Int) (by omega) (by omega)).2⟩
  have z := (h3 (k : Int) (by omega) (by omega)).1
  have z2 := tkr_rng (s := s) (k := (k : Int)) hT
  refine ⟨by omega, fun q => ?_, fun i hi => ?_⟩
  · rw [z]; exact if_neg (by omega)
  · rw [z]
    unfold tkr
    by_cases q : (k : Int) < T 0
    · rw [if_pos q, kBits_get]
      exact ⟨fun y => ⟨by omega, y.1, y.2⟩, fun y => ⟨y.2.1, y.2.2⟩⟩
    · rw [if_neg q]
      exact ⟨fun y => by simp [kbit] at y, fun y => by omega⟩
theorem l_takersOf {E : kEnv} {w : List (Nat × Nat)} {f : Nat → Int → Int} {g : Nat → Int → Option Nat} {T s : Int → Int} {b : Int} (hg : kG g) (hT : mTO T) (hS : mSO T s) (hR : RF T f) (hI : Sim T f 10 s) (hD : ∀ b, 0 ≤ b → b < T 0 → f 11 b = s b) (h28 : 0 ≤ s 28 ∧ s 28 ≤ 99) (hb : 0 ≤ b ∧ b < T 0) : ∀ (n : Nat) (i : Int), (0 ≤ i ∧ i ≤ T 1) → (T 1 - i).toNat < n → kW E 4 0 0 M_X1_takersOf 5 [some (kA (39)), some (kA (10)), some (kI (b)), some (kI (kBits (fun i => mCan T s i b) i.toNat)), some (kI (i))] [] ((kMC ++ w), f, g) (fun r h' => r = some (kI (kBits (fun i => mCan T s i b) (T 1).toNat)) ∧ h' = ((kMC ++ w), f, g)) := by
  intro n
  induction n with
  | zero => intro i _ y; omega
  | succ n ih =>
    intro i y0 y1
    have hF := RF_FO hT hR
    have n0 := hT.1
    have n1 := hT.2.1
    have r0 := hR.1
    have r1 := hR.2.1
    have hSO := Sim_SO hT hS hR hI (by omega)
    have e28 := hI.1
    have e2 := hI.2.1
    have sg := hSO.2.1
    have hl := kBits_lt (c := fun i => mCan T s i b) i.toNat
    have hp := k_pow4 i.toNat (by omega)
    refine kw_iload dX1_takersOf_5 rfl ?_
    refine kw_aload_n dX1_takersOf_7 rfl ?_
    refine kv_getR (b := 4) dX1_takersOf_8 kf_X1_27 rfl rfl rfl (hg (39, 0, 4) (by decide)) ?_
    refine kv_getI (kz := 6) dX1_takersOf_11 kf_X1_64 rfl rfl rfl rfl ?_
    refine kw_icmp_ge (tgt := 44) dX1_takersOf_14 (by decide) (fun h1 => ?_) (fun h1 => ?_)
    · refine kw_iload_n dX1_takersOf_44 rfl ?_
      exact kv_ri dX1_takersOf_45 rfl (by rw [show i = T 1 by omega]) rfl
    · refine kw_aload_n dX1_takersOf_17 rfl ?_
      refine kv_getR (b := 4) dX1_takersOf_18 kf_X1_27 rfl rfl rfl (hg (39, 0, 4) (by decide)) ?_
      refine kw_aload_n dX1_takersOf_21 rfl ?_
      refine kw_iload dX1_takersOf_22 rfl ?_
      refine kw_iload_n dX1_takersOf_24 rfl ?_
      refine kv_callV1 (M2 := M_X2_canTake) (As := [kA (10), kI (i), kI (b)]) dX1_takersOf_25 ml_X1_67 q_X2_canTake rfl rfl rfl (Nat.le_of_ble_eq_true rfl) (c_canO hg hT hS hR hI hD h28 ⟨by omega, by omega⟩ ⟨by omega, by omega⟩) (by omega) ?_
      refine kv_ifeqB (tgt := 38) dX1_takersOf_28 (by decide) (fun h2 => ?_) (fun h2 => ?_)
      · refine kw_iinc dX1_takersOf_38 (by decide) rfl ⟨by omega, by omega⟩ trivial (L2 := [some (kA (39)), some (kA (10)), some (kI (b)), some (kI (kBits (fun i => mCan T s i b) i.toNat)), some (kI (i + 1))]) rfl ?_
        refine kw_goto (tgt := 5) dX1_takersOf_41 (by decide) ?_
        have e1 := kBits_s (c := fun i => mCan T s i b) y0.1
        rw [if_neg (fun z => h2 (oCan_i.mpr z)), Int.add_zero] at e1
        rw [← e1]
        exact ih (i + 1) ⟨by omega, by omega⟩ (by omega)
      · refine kw_iload_n dX1_takersOf_31 rfl ?_
        refine kw_iconst dX1_takersOf_32 ⟨by decide, by decide⟩ ?_
        refine kw_iload dX1_takersOf_33 rfl ?_
        refine kv_shl1 dX1_takersOf_35 (by omega) (by omega) ?_
        refine kv_orb (b := i) dX1_takersOf_36 (by omega) (by omega) (by omega) (by omega) (by rw [← k_nat y0.1]; simp only [Int.toNat_natCast]; exact kBits_bit) ?_
        refine kw_istore_n dX1_takersOf_37 (by decide) trivial (L2 := [some (kA (39)), some (kA (10)), some (kI (b)), some (kI ((kBits (fun i => mCan T s i b) i.toNat) + 2 ^ i.toNat)), some (kI (i))]) rfl ?_
        refine kw_iinc dX1_takersOf_38 (by decide) rfl ⟨by omega, by omega⟩ trivial (L2 := [some (kA (39)), some (kA (10)), some (kI (b)), some (kI ((kBits (fun i => mCan T s i b) i.toNat) + 2 ^ i.toNat)), some (kI (i + 1))]) rfl ?_
        refine kw_goto (tgt := 5) dX1_takersOf_41 (by decide) ?_
        have e1 := kBits_s (c := fun i => mCan T s i b) y0.1
        rw [if_pos (oCan_i.mp h2)] at e1
        rw [← e1]
        exact ih (i + 1) ⟨by omega, by omega⟩ (by omega)
theorem c_takersOf {E : kEnv} {w : List (Nat × Nat)} {f : Nat → Int → Int} {g : Nat → Int → Option Nat} {T s : Int → Int} {b : Int} (hg : kG g) (hT : mTO T) (hS : mSO T s) (hR : RF T f) (hI : Sim T f 10 s) (hD : ∀ b, 0 ≤ b → b < T 0 → f 11 b = s b) (h28 : 0 ≤ s 28 ∧ s 28 ≤ 99) (hb : 0 ≤ b ∧ b < T 0) : kF E 4 M_X1_takersOf [kA (39), kA (10), kI (b)] ((kMC ++ w), f, g) (some (kI (kBits (fun i => mCan T s i b) (T 1).toNat))) ((kMC ++ w), f, g) := by
  refine kF_of (by decide) (by simp [k_one]) (Nat.le_of_ble_eq_true rfl) (L := [some (kA (39)), some (kA (10)), some (kI (b)), none, none]) rfl ?_
  have hF := RF_FO hT hR
  have n0 := hT.1
  have n1 := hT.2.1
  have r0 := hR.1
  have r1 := hR.2.1
  have hSO := Sim_SO hT hS hR hI (by omega)
  have e28 := hI.1
  have e2 := hI.2.1
  have sg := hSO.2.1
  refine kw_iconst dX1_takersOf_0 ⟨by decide, by decide⟩ ?_
  refine kw_istore_n dX1_takersOf_1 (by decide) trivial (L2 := [some (kA (39)), some (kA (10)), some (kI (b)), some (kI (0)), none]) rfl ?_
  refine kw_iconst dX1_takersOf_2 ⟨by decide, by decide⟩ ?_
  refine kw_istore dX1_takersOf_3 (by decide) trivial (L2 := [some (kA (39)), some (kA (10)), some (kI (b)), some (kI (0)), some (kI (0))]) rfl ?_
  exact l_takersOf hg hT hS hR hI hD h28 hb _ 0 ⟨by omega, by omega⟩ (Nat.lt_succ_self _)
theorem l_find1 {E : kEnv} {w : List (Nat × Nat)} {f : Nat → Int → Int} {g : Nat → Int → Option Nat} {T s : Int → Int} {d : Nat} {Q : Option kV → kH → Prop} (hd : 5 ≤ d) (hg : kG g) (hT : mTO T) (hS : mSO T s) (hR : RF T f) (hI : Sim T f 10 s) (hD : ∀ b, 0 ≤ b → b < T 0 → f 11 b = s b) (h28 : 0 ≤ s 28 ∧ s 28 ≤ 99) (hC : mCO T s) (hx : ∀ fc, dOut f fc → (∀ j, 0 ≤ j → j < 4 → fc 42 j = fr T s 0 0 j.toNat) → kW E d 0 0 M_X1_find 59 [some (kA 39), some (kA 10), some (kI (sF T s (4 : Int).toNat)), some (kI 4)] [] ((kMC ++ w), fc, g) Q) : ∀ (n : Nat) (i : Int) (fc : Nat → Int → Int), (0 ≤ i ∧ i ≤ 4) → (4 - i).toNat < n → dOut f fc → (∀ j, 0 ≤ j → j < i → fc 42 j = fr T s 0 0 j.toNat) → kW E d 0 0 M_X1_find 4 [some (kA 39), some (kA 10), some (kI (sF T s i.toNat)), some (kI i)] [] ((kMC ++ w), fc, g) Q := by
  intro n
  induction n with
  | zero => intro i fc _ y; omega
  | succ n ih =>
    intro i fc y0 y1 z1 z2
    have hRc := dOut_R z1 hR
    have hIc := dOut_S z1 hI
    have n0 := hT.1
    have n1 := hT.2.1
    have r1 := hRc.2.1
    refine kw_iload_n dX1_find_4 rfl ?_
    refine kw_iconst dX1_find_5 ⟨by decide, by decide⟩ ?_
    refine kw_icmp_ge (tgt := 59) dX1_find_6 (by decide) (fun h1 => ?_) (fun h1 => ?_)
    · have e4 : i = 4 := by omega
      subst e4
      exact hx fc z1 z2
    · refine kw_aload_n dX1_find_9 rfl ?_
      refine kv_getR (b := 42) dX1_find_10 kf_X1_18 rfl rfl rfl (hg (39, 3, 42) (by decide)) ?_
      refine kw_iload_n dX1_find_13 rfl ?_
      refine kw_aload_n dX1_find_14 rfl ?_
      refine kv_getR (b := 4) dX1_find_15 kf_X1_27 rfl rfl rfl (hg (39, 0, 4) (by decide)) ?_
      refine kw_iload_n dX1_find_18 rfl ?_
      refine kv_callV1 (M2 := M_X2_hasTenant) (As := [kI (i)]) dX1_find_19 ml_X1_31 q_X2_hasTenant rfl rfl rfl (Nat.le_of_ble_eq_true rfl) (c_hasTenant hg) (by omega) ?_
      refine kv_ifeqB (tgt := 42) dX1_find_22 (by decide) (fun h2 => ?_) (fun h2 => ?_)
      · refine kw_iconst dX1_find_42 ⟨by decide, by decide⟩ ?_
        refine kv_iast dX1_find_43 rfl (by omega) (by omega) ?_
        refine kw_iload_n dX1_find_44 rfl ?_
        refine kw_aload_n dX1_find_45 rfl ?_
        refine kv_getR (b := 42) dX1_find_46 kf_X1_18 rfl rfl rfl (hg (39, 3, 42) (by decide)) ?_
        refine kw_iload_n dX1_find_49 rfl ?_
        refine kv_iald dX1_find_50 rfl (by omega) (by omega) (k_u_self) ?_
        have u6 := sF_rng hT hS hC i.toNat
        refine kw_iadd dX1_find_51 ⟨by omega, by omega⟩ ?_
        refine kw_istore_n dX1_find_52 (by decide) trivial (L2 := [some (kA (39)), some (kA (10)), some (kI ((sF T s i.toNat) + 0)), some (kI (i))]) rfl ?_
        refine kw_iinc dX1_find_53 (by decide) rfl ⟨by omega, by omega⟩ trivial (L2 := [some (kA (39)), some (kA (10)), some (kI ((sF T s i.toNat) + 0)), some (kI (i + 1))]) rfl ?_
        refine kw_goto (tgt := 4) dX1_find_56 (by decide) ?_
        have e1 := fr_0 (s := s) hT y0.1
        rw [if_neg (by omega)] at e1
        have e2 := sF_s (T := T) (s := s) y0.1
        rw [e1] at e2
        rw [show sF T s i.toNat + (0) = sF T s (i + 1).toNat by omega]
        exact ih (i + 1) _ ⟨by omega, by omega⟩ (by omega) (dOut_u z1 ⟨by decide, by decide⟩) (fun j j0 j1 => by
          by_cases e : j = i
          · rw [e, k_u_self, e1]
          · rw [k_u_ne2 e]; exact z2 j j0 (by omega))
      · refine kw_aload_n dX1_find_25 rfl ?_
        refine kv_getR (b := 4) dX1_find_26 kf_X1_27 rfl rfl rfl (hg (39, 0, 4) (by decide)) ?_
        refine kw_iload_n dX1_find_29 rfl ?_
        refine kv_callV1 (M2 := M_X2_strength) (As := [kI (i)]) dX1_find_30 ml_X1_37 q_X2_strength rfl rfl rfl (Nat.le_of_ble_eq_true rfl) (show kF E 0 M_X2_strength [kA 4, kI i] ((kMC ++ w), fc, g) (some (kI (fc 8 i))) ((kMC ++ w), fc, g) from c_strength hg ⟨by omega, by omega⟩) (by omega) ?_
        have u1 := (hRc.2.2.2.2.2.2 i (by omega) (by omega)).1
        have u2 := (hT.2.2.2.2.2.2 i (by omega) (by omega)).1
        refine kw_aload_n dX1_find_33 rfl ?_
        refine kw_iload_n dX1_find_34 rfl ?_
        refine kv_callV1 (M2 := M_X4_carried) (As := [kI (i)]) dX1_find_35 ml_X1_41 q_X4_carried rfl rfl rfl (Nat.le_of_ble_eq_true rfl) (show kF E 0 M_X4_carried [kA 10, kI i] ((kMC ++ w), fc, g) (some (kI (fc 11 (16 + i)))) ((kMC ++ w), fc, g) from c_carriedR (by unfold kSA; omega) hg (by omega)) (by omega) ?_
        have u3 : fc 11 (16 + i) = s (24 + i) := (hIc.2.2.2.1 i (by omega) (by omega)).2.2
        have u4 := (hS.2.2 i (by omega) (by omega)).2.2
        refine kw_isub dX1_find_38 ⟨by omega, by omega⟩ ?_
        refine kw_goto (tgt := 43) dX1_find_39 (by decide) ?_
        refine kv_iast dX1_find_43 rfl (by omega) (by omega) ?_
        refine kw_iload_n dX1_find_44 rfl ?_
        refine kw_aload_n dX1_find_45 rfl ?_
        refine kv_getR (b := 42) dX1_find_46 kf_X1_18 rfl rfl rfl (hg (39, 3, 42) (by decide)) ?_
        refine kw_iload_n dX1_find_49 rfl ?_
        refine kv_iald dX1_find_50 rfl (by omega) (by omega) (k_u_self) ?_
        have u6 := sF_rng hT hS hC i.toNat
        refine kw_iadd dX1_find_51 ⟨by omega, by omega⟩ ?_
        refine kw_istore_n dX1_find_52 (by decide) trivial (L2 := [some (kA (39)), some (kA (10)), some (kI ((sF T s i.toNat) + ((fc 8 i) - (fc 11 (16 + i))))), some (kI (i))]) rfl ?_
        refine kw_iinc dX1_find_53 (by decide) rfl ⟨by omega, by omega⟩ trivial (L2 := [some (kA (39)), some (kA (10)), some (kI ((sF T s i.toNat) + ((fc 8 i) - (fc 11 (16 + i))))), some (kI (i + 1))]) rfl ?_
        refine kw_goto (tgt := 4) dX1_find_56 (by decide) ?_
        have e1 := fr_0 (s := s) hT y0.1
        rw [if_pos (by omega)] at e1
        have e2 := sF_s (T := T) (s := s) y0.1
        rw [e1] at e2
        rw [show sF T s i.toNat + (fc 8 i - fc 11 (16 + i)) = sF T s (i + 1).toNat by omega]
        exact ih (i + 1) _ ⟨by omega, by omega⟩ (by omega) (dOut_u z1 ⟨by decide, by decide⟩) (fun j j0 j1 => by
          by_cases e : j = i
          · rw [e, k_u_self, e1]; omega
          · rw [k_u_ne2 e]; exact z2 j j0 (by omega))
theorem l_find2 {E : kEnv} {w : List (Nat × Nat)} {f : Nat → Int → Int} {g : Nat → Int → Option Nat} {T s : Int → Int} {d : Nat} {S : Int} {f42 : Int → Int} {Q : Option kV → kH → Prop} (hd : 5 ≤ d) (hg : kG g) (hT : mTO T) (hS : mSO T s) (hR : RF T f) (hI : Sim T f 10 s) (hD : ∀ b, 0 ≤ b → b < T 0 → f 11 b = s b) (h28 : 0 ≤ s 28 ∧ s 28 ≤ 99) (hx : ∀ fc, dOut f fc → dRw T s fc 0 → fc 42 = f42 → kW E d 0 0 M_X1_find 143 [some (kA 39), some (kA 10), some (kI (S)), some (kI (-1))] [] ((kMC ++ w), fc, g) Q) : ∀ (n : Nat) (b : Int) (fc : Nat → Int → Int), (-1 ≤ b ∧ b ≤ 7) → (b + 1).toNat < n → dOut f fc → dRw T s fc (b + 1) → fc 42 = f42 → kW E d 0 0 M_X1_find 70 [some (kA 39), some (kA 10), some (kI (S)), some (kI b)] [] ((kMC ++ w), fc, g) Q := by
  intro n
  induction n with
  | zero => intro b fc _ y; omega
  | succ n ih =>
    intro b fc y0 y1 z1 z2 z3
    have hRc := dOut_R z1 hR
    have hIc := dOut_S z1 hI
    have hDc : ∀ b, 0 ≤ b → b < T 0 → fc 11 b = s b := fun b a c => by rw [z1 11 (by omega)]; exact hD b a c
    have n0 := hT.1
    have n1 := hT.2.1
    have r0 := hRc.1
    have zr := z2.2.1
    have hkl := kBits_lt (c := fun i => mCan T s i b) (T 1).toNat
    have hkp := k_pow4 (T 1).toNat (by omega)
    refine kw_iload_n dX1_find_70 rfl ?_
    refine kw_if_lt (tgt := 143) dX1_find_71 (by decide) (fun h1 => ?_) (fun h1 => ?_)
    · have e4 : b = -1 := by omega
      subst e4
      exact hx fc z1 z2 z3
    · refine kw_aload_n dX1_find_74 rfl ?_
      refine kv_getR (b := 40) dX1_find_75 kf_X1_9 rfl rfl rfl (hg (39, 1, 40) (by decide)) ?_
      refine kw_iload_n dX1_find_78 rfl ?_
      refine kw_aload_n dX1_find_79 rfl ?_
      refine kv_getR (b := 4) dX1_find_80 kf_X1_27 rfl rfl rfl (hg (39, 0, 4) (by decide)) ?_
      refine kw_iload_n dX1_find_83 rfl ?_
      refine kv_callV1 (M2 := M_X2_hasBough) (As := [kI (b)]) dX1_find_84 ml_X1_46 q_X2_hasBough rfl rfl rfl (Nat.le_of_ble_eq_true rfl) (c_hasBough hg) (by omega) ?_
      refine kv_ifeqB (tgt := 99) dX1_find_87 (by decide) (fun h2 => ?_) (fun h2 => ?_)
      · refine kw_iconst dX1_find_99 ⟨by decide, by decide⟩ ?_
        refine kv_iast dX1_find_100 rfl (by omega) (by omega) ?_
        refine kw_aload_n dX1_find_101 rfl ?_
        refine kv_getR (b := 41) dX1_find_102 kf_X1_15 rfl rfl rfl (hg (39, 2, 41) (by decide)) ?_
        refine kw_iload_n dX1_find_105 rfl ?_
        refine kw_aload_n dX1_find_106 rfl ?_
        refine kv_getR (b := 41) dX1_find_107 kf_X1_15 rfl rfl rfl (hg (39, 2, 41) (by decide)) ?_
        refine kw_iload_n dX1_find_110 rfl ?_
        refine kw_iconst dX1_find_111 ⟨by decide, by decide⟩ ?_
        refine kw_iadd dX1_find_112 ⟨by omega, by omega⟩ ?_
        refine kv_iald dX1_find_113 rfl (by omega) (by omega) (k_u_ne (by omega)) ?_
        refine kw_aload_n dX1_find_114 rfl ?_
        refine kv_getR (b := 40) dX1_find_115 kf_X1_9 rfl rfl rfl (hg (39, 1, 40) (by decide)) ?_
        refine kw_iload_n dX1_find_118 rfl ?_
        refine kv_iald dX1_find_119 rfl (by omega) (by omega) (k_u_self) ?_
        refine kw_if_ne (tgt := 127) dX1_find_120 (by decide) (kt := fun h => absurd h (by decide)) (kf := fun _ => ?_)
        refine kw_iconst dX1_find_123 ⟨by decide, by decide⟩ ?_
        refine kw_goto (tgt := 135) dX1_find_124 (by decide) ?_
        refine kw_iadd dX1_find_135 ⟨by omega, by omega⟩ ?_
        refine kv_iast dX1_find_136 rfl (by omega) (by omega) ?_
        refine kw_iinc dX1_find_137 (by decide) rfl ⟨by omega, by omega⟩ trivial (L2 := [some (kA (39)), some (kA (10)), some (kI (S)), some (kI (b + (-1)))]) rfl ?_
        refine kw_goto (tgt := 70) dX1_find_140 (by decide) ?_
        refine ih (b + (-1)) _ ⟨by omega, by omega⟩ (by omega) (dOut_u (dOut_u z1 ⟨by decide, by decide⟩) ⟨by decide, by decide⟩) ?_ ?_
        · rw [show b + (-1) + 1 = b by omega]
          refine dRw_s z2 ⟨by omega, by omega⟩ (by unfold tkr; first | rw [if_pos (by omega)] | rw [if_neg (by omega)]) ?_ ?_
          · first
              | rw [if_pos (by omega)]
              | (rw [if_neg (by omega)]; omega)
              | rw [if_pos rfl]
          · first
              | exact Or.inl rfl
              | exact Or.inl (by omega)
              | exact Or.inr (by omega)
        · rw [← z3]
          funext j
          rw [k_u_ne (by decide), k_u_ne (by decide)]
      · refine kw_aload_n dX1_find_90 rfl ?_
        refine kw_aload_n dX1_find_91 rfl ?_
        refine kw_iload_n dX1_find_92 rfl ?_
        refine kv_callV1 (M2 := M_X1_takersOf) (As := [kA (10), kI (b)]) dX1_find_93 ml_X1_49 q_X1_takersOf rfl rfl rfl (Nat.le_of_ble_eq_true rfl) (show kF E 4 M_X1_takersOf [kA 39, kA 10, kI b] ((kMC ++ w), fc, g) (some (kI (kBits (fun i => mCan T s i b) (T 1).toNat))) ((kMC ++ w), fc, g) from c_takersOf hg hT hS hRc hIc hDc h28 ⟨by omega, by omega⟩) (by omega) ?_
        have v1 := hRc.2.2.2.2.2.1 b (by omega) (by omega)
        have v2 := hT.2.2.2.2.2.1 b (by omega) (by omega)
        refine kw_goto (tgt := 100) dX1_find_96 (by decide) ?_
        refine kv_iast dX1_find_100 rfl (by omega) (by omega) ?_
        refine kw_aload_n dX1_find_101 rfl ?_
        refine kv_getR (b := 41) dX1_find_102 kf_X1_15 rfl rfl rfl (hg (39, 2, 41) (by decide)) ?_
        refine kw_iload_n dX1_find_105 rfl ?_
        refine kw_aload_n dX1_find_106 rfl ?_
        refine kv_getR (b := 41) dX1_find_107 kf_X1_15 rfl rfl rfl (hg (39, 2, 41) (by decide)) ?_
        refine kw_iload_n dX1_find_110 rfl ?_
        refine kw_iconst dX1_find_111 ⟨by decide, by decide⟩ ?_
        refine kw_iadd dX1_find_112 ⟨by omega, by omega⟩ ?_
        refine kv_iald dX1_find_113 rfl (by omega) (by omega) (k_u_ne (by omega)) ?_
        refine kw_aload_n dX1_find_114 rfl ?_
        refine kv_getR (b := 40) dX1_find_115 kf_X1_9 rfl rfl rfl (hg (39, 1, 40) (by decide)) ?_
        refine kw_iload_n dX1_find_118 rfl ?_
        refine kv_iald dX1_find_119 rfl (by omega) (by omega) (k_u_self) ?_
        refine kw_if_ne (tgt := 127) dX1_find_120 (by decide) (fun h3 => ?_) (fun h3 => ?_)
        · refine kw_aload_n dX1_find_127 rfl ?_
          refine kv_getR (b := 4) dX1_find_128 kf_X1_27 rfl rfl rfl (hg (39, 0, 4) (by decide)) ?_
          refine kw_iload_n dX1_find_131 rfl ?_
          refine kv_callV1 (M2 := M_X2_weight) (As := [kI (b)]) dX1_find_132 ml_X1_53 q_X2_weight rfl rfl rfl (Nat.le_of_ble_eq_true rfl) (c_weight hg ⟨by omega, by omega⟩) (by omega) ?_
          have v3 : (k_u fc 40 b (kBits (fun i => mCan T s i b) (T 1).toNat)) 7 b = fc 7 b := k_u_ne (by decide)
          refine kw_iadd dX1_find_135 ⟨by omega, by omega⟩ ?_
          refine kv_iast dX1_find_136 rfl (by omega) (by omega) ?_
          refine kw_iinc dX1_find_137 (by decide) rfl ⟨by omega, by omega⟩ trivial (L2 := [some (kA (39)), some (kA (10)), some (kI (S)), some (kI (b + (-1)))]) rfl ?_
          refine kw_goto (tgt := 70) dX1_find_140 (by decide) ?_
          refine ih (b + (-1)) _ ⟨by omega, by omega⟩ (by omega) (dOut_u (dOut_u z1 ⟨by decide, by decide⟩) ⟨by decide, by decide⟩) ?_ ?_
          · rw [show b + (-1) + 1 = b by omega]
            refine dRw_s z2 ⟨by omega, by omega⟩ (by unfold tkr; first | rw [if_pos (by omega)] | rw [if_neg (by omega)]) ?_ ?_
            · first
                | rw [if_pos (by omega)]
                | (rw [if_neg (by omega)]; omega)
                | rw [if_pos rfl]
            · first
                | exact Or.inl rfl
                | exact Or.inl (by omega)
                | exact Or.inr (by omega)
          · rw [← z3]
            funext j
            rw [k_u_ne (by decide), k_u_ne (by decide)]
        · refine kw_iconst dX1_find_123 ⟨by decide, by decide⟩ ?_
          refine kw_goto (tgt := 135) dX1_find_124 (by decide) ?_
          refine kw_iadd dX1_find_135 ⟨by omega, by omega⟩ ?_
          refine kv_iast dX1_find_136 rfl (by omega) (by omega) ?_
          refine kw_iinc dX1_find_137 (by decide) rfl ⟨by omega, by omega⟩ trivial (L2 := [some (kA (39)), some (kA (10)), some (kI (S)), some (kI (b + (-1)))]) rfl ?_
          refine kw_goto (tgt := 70) dX1_find_140 (by decide) ?_
          refine ih (b + (-1)) _ ⟨by omega, by omega⟩ (by omega) (dOut_u (dOut_u z1 ⟨by decide, by decide⟩) ⟨by decide, by decide⟩) ?_ ?_
          · rw [show b + (-1) + 1 = b by omega]
            refine dRw_s z2 ⟨by omega, by omega⟩ (by unfold tkr; first | rw [if_pos (by omega)] | rw [if_neg (by omega)]) ?_ ?_
            · first
                | rw [if_pos (by omega)]
                | (rw [if_neg (by omega)]; omega)
                | rw [if_pos rfl]
            · first
                | exact Or.inl rfl
                | exact Or.inl (by omega)
                | exact Or.inr (by omega)
          · rw [← z3]
            funext j
            rw [k_u_ne (by decide), k_u_ne (by decide)]
theorem c_find {E : kEnv} {w : List (Nat × Nat)} {f : Nat → Int → Int} {g : Nat → Int → Option Nat} {T s : Int → Int}  (hg : kG g) (hT : mTO T) (hS : mSO T s) (hR : RF T f) (hI : Sim T f 10 s) (hD : ∀ b, 0 ≤ b → b < T 0 → f 11 b = s b) (h28 : 0 ≤ s 28 ∧ s 28 ≤ 99) (hC : mCO T s) : kFE E 12 M_X1_find [kA (39), kA (10)] ((kMC ++ w), f, g) (none) (kMC ++ w) (fun f2 => dOut f f2 ∧ dBe T s f2 (tM T ^ tn T)) g := by
  refine kFE_of (by decide) (by simp [k_one]) (Nat.le_of_ble_eq_true rfl) (L := [some (kA (39)), some (kA (10)), none, none]) rfl ?_
  have hF := RF_FO hT hR
  have n0 := hT.1
  have n1 := hT.2.1
  have r0 := hR.1
  have r1 := hR.2.1
  have hSO := Sim_SO hT hS hR hI (by omega)
  have e28 := hI.1
  have e2 := hI.2.1
  have sg := hSO.2.1
  refine kw_iconst dX1_find_0 ⟨by decide, by decide⟩ ?_
  refine kw_istore_n dX1_find_1 (by decide) trivial (L2 := [some (kA (39)), some (kA (10)), some (kI (0)), none]) rfl ?_
  refine kw_iconst dX1_find_2 ⟨by decide, by decide⟩ ?_
  refine kw_istore_n dX1_find_3 (by decide) trivial (L2 := [some (kA (39)), some (kA (10)), some (kI (0)), some (kI (0))]) rfl ?_
  refine l_find1 (f := f) (by omega) hg hT hS hR hI hD h28 hC (fun fc o1 p1 => ?_) _ 0 f ⟨by omega, by omega⟩ (Nat.lt_succ_self _) dOut_rf (fun j j0 j1 => by omega)
  refine kw_aload_n dX1_find_59 rfl ?_
  refine kv_getR (b := 41) dX1_find_60 kf_X1_15 rfl rfl rfl (hg (39, 2, 41) (by decide)) ?_
  refine kw_bipush dX1_find_63 (by decide) (by decide) ?_
  refine kw_iconst dX1_find_65 ⟨by decide, by decide⟩ ?_
  refine kv_iast dX1_find_66 rfl (by omega) (by omega) ?_
  refine kw_bipush dX1_find_67 (by decide) (by decide) ?_
  refine kw_istore_n dX1_find_69 (by decide) trivial (L2 := [some (kA (39)), some (kA (10)), some (kI (sF T s (4 : Int).toNat)), some (kI (7))]) rfl ?_
  refine l_find2 (f := f) (f42 := fc 42) (by omega) hg hT hS hR hI hD h28 (fun fc2 o2 q1 q2 => ?_) _ 7 _ ⟨by omega, by omega⟩ (Nat.lt_succ_self _) (dOut_u o1 ⟨by decide, by decide⟩) ⟨k_u_self, ?_, fun k k0 k1 => by omega⟩ (by funext j; exact k_u_ne (by decide))
  · have eh : had T 0 0 = 0 := by unfold had; rw [Nat.zero_min, gsm]
    have ef : fa T s 0 0 = sF T s (4 : Int).toNat := by
      show _ = 0 + fr T s 0 0 0 + fr T s 0 0 1 + fr T s 0 0 2 + fr T s 0 0 3
      unfold fa
      omega
    have hP : dPr T s (k_u fc2 39 6 (-1)) 0 0 := by
      refine ⟨dSt_mono (dRw_St hT (dOut_R o2 hR) q1) ?_ ?_ ?_, fun i hi => ?_, fun k hk => by omega, by rw [Nat.zero_min]; rfl, ?_⟩
      · funext j; exact k_u_ne (by decide)
      · funext j; exact k_u_ne (by decide)
      · funext j; exact k_u_ne (by decide)
      · rw [k_u_ne (by decide), q2, p1 (i : Int) (by omega) (by omega), Int.toNat_natCast]
      · have e0 : lo T 0 0 = 0 := Nat.mul_zero _
        rw [e0]
        exact ⟨k_u_self, fun q => absurd q (by unfold bst; decide)⟩
    refine kw_aload_n dX1_find_143 rfl ?_
    refine kw_iconst dX1_find_144 ⟨by decide, by decide⟩ ?_
    refine kv_putI (kz := 6) dX1_find_145 kp_X1_56 rfl rfl (fun h => by cases h) rfl ?_
    refine kw_aload_n dX1_find_148 rfl ?_
    refine kw_iconst dX1_find_149 ⟨by decide, by decide⟩ ?_
    refine kw_iconst dX1_find_150 ⟨by decide, by decide⟩ ?_
    refine kw_iload_n dX1_find_151 rfl ?_
    refine kv_callS0E (M2 := M_X1_deal) (As := [kA (39), kI (0), kI (0), kI (sF T s (4 : Int).toNat)]) dX1_find_152 ml_X1_60 q_X1_deal rfl (Nat.le_of_ble_eq_true rfl) ((by have z := c_deal (E := E) (w := w) hg hT hS hC 9 0 0 _ (by omega) (by omega) hP; rw [eh, ef] at z; exact z)) (by omega) (fun f9 hf9 => ?_)
    obtain ⟨u1, u2⟩ := hf9
    refine kv_rvE dX1_find_155 rfl ⟨fun a ha => ?_, ?_⟩
    · rw [u1.1 a (by omega) (by omega) (by omega) (by omega), show k_u fc2 39 6 (-1) a = fc2 a from by funext j; exact k_u_ne (by omega)]
      exact o2 a ha
    · rw [show tM T ^ tn T = lo T 0 (0 + 1) by unfold lo KK; rw [Nat.sub_zero]; omega]
      exact u2
  · rw [show (7 : Int) + 1 = 8 by decide, k_u_self]
    omega
theorem c_share {E : kEnv} {w : List (Nat × Nat)} {f : Nat → Int → Int} {g : Nat → Int → Option Nat} {T s : Int → Int} {v : Int} (hg : kG g) (hT : mTO T) (hS : mSO T s) (hR : RF T f) (hI : Sim T f 10 s) (hD : ∀ b, 0 ≤ b → b < T 0 → f 11 b = s b) (h28 : 0 ≤ s 28 ∧ s 28 ≤ 99) (hC : mCO T s) : kFE E 13 M_X6_share [kA (0), kI (v)] ((kMC ++ w), f, g) (some (kI (sShare T s v))) (kMC ++ w) (fun f2 => dOut f f2) g := by
  refine kFE_of (by decide) (by simp [k_one]) (Nat.le_of_ble_eq_true rfl) (L := [some (kA (0)), some (kI (v))]) rfl ?_
  have hF := RF_FO hT hR
  have n0 := hT.1
  have n1 := hT.2.1
  have r0 := hR.1
  have r1 := hR.2.1
  have hSO := Sim_SO hT hS hR hI (by omega)
  have e28 := hI.1
  have e2 := hI.2.1
  have sg := hSO.2.1
  refine kw_iload_n dX6_share_0 rfl ?_
  refine kw_iconst dX6_share_1 ⟨by decide, by decide⟩ ?_
  refine kw_icmp_eq (tgt := 18) dX6_share_2 (by decide) (fun h1 => ?_) (fun h1 => ?_)
  · refine kw_aload_n dX6_share_18 rfl ?_
    refine kv_getR (b := 39) dX6_share_19 kf_X6_54 rfl rfl rfl (hg (0, 6, 39) (by decide)) ?_
    refine kw_aload_n dX6_share_22 rfl ?_
    refine kv_getR (b := 10) dX6_share_23 kf_X6_26 rfl rfl rfl (hg (0, 2, 10) (by decide)) ?_
    refine kv_callV0E (M2 := M_X1_find) (As := [kA (10)]) dX6_share_26 ml_X6_201 q_X1_find rfl rfl rfl (Nat.le_of_ble_eq_true rfl) (c_find hg hT hS hR hI hD h28 hC) (by omega) (fun f9 hf9 => ?_)
    obtain ⟨u1, u2, u3⟩ := hf9
    have u4 := bst_pos (s := s) hT
    have w3 := tmn T
    refine kw_iload_n dX6_share_29 rfl ?_
    refine kw_iconst dX6_share_30 ⟨by decide, by decide⟩ ?_
    refine kw_icmp_ne (tgt := 44) dX6_share_31 (by decide) (fun h2 => ?_) (fun h2 => ?_)
    · refine kw_aload_n dX6_share_44 rfl ?_
      refine kv_getR (b := 39) dX6_share_45 kf_X6_54 rfl rfl rfl (hg (0, 6, 39) (by decide)) ?_
      refine kw_iload_n dX6_share_48 rfl ?_
      refine kv_callV1 (M2 := M_X1_whoHas) (As := [kI (v)]) dX6_share_49 ml_X6_207 q_X1_whoHas rfl rfl rfl (Nat.le_of_ble_eq_true rfl) (c_whoHas hg ⟨by omega, by omega⟩) (by omega) ?_
      have u5 := u3 u4 v.toNat (by omega)
      rw [k_nat (by omega)] at u5
      exact kv_riE dX6_share_52 rfl (Eq.symm (by unfold sShare; rw [if_neg (by omega), if_pos (by omega)]; exact u5.symm)) u1
    · refine kw_aload_n dX6_share_34 rfl ?_
      refine kv_getR (b := 39) dX6_share_35 kf_X6_54 rfl rfl rfl (hg (0, 6, 39) (by decide)) ?_
      refine kv_getI (kz := 6) dX6_share_38 kf_X6_204 rfl rfl rfl rfl ?_
      refine kw_goto (tgt := 52) dX6_share_41 (by decide) ?_
      exact kv_riE dX6_share_52 rfl (Eq.symm (by unfold sShare; rw [if_pos (by omega)]; exact u2.symm)) u1
  · refine kw_aload_n dX6_share_5 rfl ?_
    refine kv_getR (b := 4) dX6_share_6 kf_X6_19 rfl rfl rfl (hg (0, 1, 4) (by decide)) ?_
    refine kw_iload_n dX6_share_9 rfl ?_
    refine kv_callV1 (M2 := M_X2_hasBough) (As := [kI (v)]) dX6_share_10 ml_X6_97 q_X2_hasBough rfl rfl rfl (Nat.le_of_ble_eq_true rfl) (c_hasBough hg) (by omega) ?_
    refine kv_ifneB (tgt := 18) dX6_share_13 (by decide) (fun h3 => ?_) (fun h3 => ?_)
    · refine kw_aload_n dX6_share_18 rfl ?_
      refine kv_getR (b := 39) dX6_share_19 kf_X6_54 rfl rfl rfl (hg (0, 6, 39) (by decide)) ?_
      refine kw_aload_n dX6_share_22 rfl ?_
      refine kv_getR (b := 10) dX6_share_23 kf_X6_26 rfl rfl rfl (hg (0, 2, 10) (by decide)) ?_
      refine kv_callV0E (M2 := M_X1_find) (As := [kA (10)]) dX6_share_26 ml_X6_201 q_X1_find rfl rfl rfl (Nat.le_of_ble_eq_true rfl) (c_find hg hT hS hR hI hD h28 hC) (by omega) (fun f9 hf9 => ?_)
      obtain ⟨u1, u2, u3⟩ := hf9
      have u4 := bst_pos (s := s) hT
      have w3 := tmn T
      refine kw_iload_n dX6_share_29 rfl ?_
      refine kw_iconst dX6_share_30 ⟨by decide, by decide⟩ ?_
      refine kw_icmp_ne (tgt := 44) dX6_share_31 (by decide) (fun h4 => ?_) (fun h4 => ?_)
      · refine kw_aload_n dX6_share_44 rfl ?_
        refine kv_getR (b := 39) dX6_share_45 kf_X6_54 rfl rfl rfl (hg (0, 6, 39) (by decide)) ?_
        refine kw_iload_n dX6_share_48 rfl ?_
        refine kv_callV1 (M2 := M_X1_whoHas) (As := [kI (v)]) dX6_share_49 ml_X6_207 q_X1_whoHas rfl rfl rfl (Nat.le_of_ble_eq_true rfl) (c_whoHas hg ⟨by omega, by omega⟩) (by omega) ?_
        have u5 := u3 u4 v.toNat (by omega)
        rw [k_nat (by omega)] at u5
        exact kv_riE dX6_share_52 rfl (Eq.symm (by unfold sShare; rw [if_neg (by omega), if_pos (by omega)]; exact u5.symm)) u1
      · refine kw_aload_n dX6_share_34 rfl ?_
        refine kv_getR (b := 39) dX6_share_35 kf_X6_54 rfl rfl rfl (hg (0, 6, 39) (by decide)) ?_
        refine kv_getI (kz := 6) dX6_share_38 kf_X6_204 rfl rfl rfl rfl ?_
        refine kw_goto (tgt := 52) dX6_share_41 (by decide) ?_
        exact kv_riE dX6_share_52 rfl (Eq.symm (by unfold sShare; rw [if_pos (by omega)]; exact u2.symm)) u1
    · refine kw_iconst dX6_share_16 ⟨by decide, by decide⟩ ?_
      exact kv_riE dX6_share_17 rfl (Eq.symm (by unfold sShare; rw [if_neg (by omega), if_neg (by omega)])) dOut_rf
