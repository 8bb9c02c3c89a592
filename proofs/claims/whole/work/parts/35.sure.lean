/-! sure -/
def kCm (n : Int) : Nat → Int
  | 0 => 1
  | k + 1 => if 10 % ((k : Int) + 2) = 0 ∧ n % ((k : Int) + 2) = 0 then (k : Int) + 2 else kCm n k
theorem kCm_s {n d : Int} (h : 2 ≤ d) : kCm n (d - 1).toNat = if 10 % d = 0 ∧ n % d = 0 then d else kCm n (d - 1 - 1).toNat := by
  rw [show (d - 1).toNat = (d - 1 - 1).toNat + 1 by omega, kCm, show (((d - 1 - 1).toNat : Nat) : Int) + 2 = d by omega]
theorem kCm_rng {n : Int} : ∀ k : Nat, k ≤ 9 → 1 ≤ kCm n k ∧ kCm n k ≤ 10
  | 0, _ => by simp [kCm]
  | k + 1, h => by
    have ih := kCm_rng (n := n) k (by omega)
    rw [kCm]
    split
    · omega
    · exact ih
theorem k_pw1 : ∀ q : Nat, q ≤ 10 → ∀ k : Nat, k ≤ 8 → (0 : Int) ≤ (q : Int) ^ k ∧ (q : Int) ^ k ≤ 100000000 := by decide
theorem k_pw {m : Int} {k : Nat} (h : 0 ≤ m ∧ m ≤ 10) (hk : k ≤ 8) : 0 ≤ m ^ k ∧ m ^ k ≤ 100000000 := by
  have h1 := k_pw1 m.toNat (by omega) k hk
  rw [show ((m.toNat : Nat) : Int) = m by omega] at h1
  exact h1
theorem k_pws {m k : Int} (h : 0 ≤ k) : m ^ (k + 1).toNat = m ^ k.toNat * m := by
  rw [show (k + 1).toNat = k.toNat + 1 by omega, Int.pow_succ]
def sSure (T s : Int → Int) (i n x part : Int) : Int := if (0 ≤ i ∧ i ≤ T 1 - 1) ∧ (0 ≤ n ∧ n ≤ 8) ∧ (0 ≤ x ∧ x ≤ 10) ∧ (0 ≤ part ∧ part ≤ 1) then (if s (16 + i) ≤ T 2 then 1 else ((if part = 0 then 10 - x else 10) / kCm (10 - x) 9) ^ n.toNat) else -1
theorem l_common {E : kEnv} {h : kH} {n y : Int} (hn : 0 ≤ n ∧ n ≤ 10) : ∀ (k : Nat) (d : Int), (1 ≤ d ∧ d ≤ 10) → d.toNat < k → y = kCm n (d - 1).toNat → kW E 0 0 0 M_X6_commonWithTen 3 [some (kI n), some (kI d)] [] h (fun r h' => r = some (kI y) ∧ h' = h) := by
  intro k
  induction k with
  | zero => intro d _ q; omega
  | succ k ih =>
    intro d y0 y1 z1
    refine kw_iload_n dX6_commonWithTen_3 rfl ?_
    refine kw_iconst dX6_commonWithTen_4 ⟨by decide, by decide⟩ ?_
    refine kw_icmp_le (tgt := 29) dX6_commonWithTen_5 (by decide) (fun h1 => ?_) (fun h1 => ?_)
    · refine kw_iconst dX6_commonWithTen_29 ⟨by decide, by decide⟩ ?_
      exact kv_ri dX6_commonWithTen_30 rfl (by rw [z1]; first | (rw [show (d - 1).toNat = 0 by omega]; rfl) | rw [kCm_s (by omega), if_pos ⟨by omega, by omega⟩]) rfl
    · refine kw_bipush dX6_commonWithTen_8 (by decide) (by decide) ?_
      refine kw_iload_n dX6_commonWithTen_10 rfl ?_
      refine kw_irem dX6_commonWithTen_11 (by omega) (by omega) ?_
      refine kw_if_ne (tgt := 23) dX6_commonWithTen_12 (by decide) (fun h2 => ?_) (fun h2 => ?_)
      · refine kw_iinc dX6_commonWithTen_23 (by decide) rfl ⟨by omega, by omega⟩ trivial (L2 := [some (kI (n)), some (kI (d + (-1)))]) rfl ?_
        refine kw_goto (tgt := 3) dX6_commonWithTen_26 (by decide) ?_
        rw [kCm_s (by omega), if_neg (by rintro ⟨q1, q2⟩; omega)] at z1
        exact ih (d - 1) ⟨by omega, by omega⟩ (by omega) z1
      · refine kw_iload_n dX6_commonWithTen_15 rfl ?_
        refine kw_iload_n dX6_commonWithTen_16 rfl ?_
        refine kw_irem dX6_commonWithTen_17 (by omega) (by omega) ?_
        refine kw_if_ne (tgt := 23) dX6_commonWithTen_18 (by decide) (fun h3 => ?_) (fun h3 => ?_)
        · refine kw_iinc dX6_commonWithTen_23 (by decide) rfl ⟨by omega, by omega⟩ trivial (L2 := [some (kI (n)), some (kI (d + (-1)))]) rfl ?_
          refine kw_goto (tgt := 3) dX6_commonWithTen_26 (by decide) ?_
          rw [kCm_s (by omega), if_neg (by rintro ⟨q1, q2⟩; omega)] at z1
          exact ih (d - 1) ⟨by omega, by omega⟩ (by omega) z1
        · refine kw_iload_n dX6_commonWithTen_21 rfl ?_
          exact kv_ri dX6_commonWithTen_22 rfl (by rw [z1]; first | (rw [show (d - 1).toNat = 0 by omega]; rfl) | rw [kCm_s (by omega), if_pos ⟨by omega, by omega⟩]) rfl
theorem c_common {E : kEnv} {h : kH} {n : Int} (hn : 0 ≤ n ∧ n ≤ 10) : kF E 0 M_X6_commonWithTen [kI n] h (some (kI (kCm n 9))) h := by
  refine kF_of (by decide) (by simp [k_one]) (Nat.le_of_ble_eq_true rfl) (L := [some (kI n), none]) rfl ?_
  refine kw_bipush dX6_commonWithTen_0 (by decide) (by decide) ?_
  refine kw_istore_n dX6_commonWithTen_2 (by decide) trivial (L2 := [some (kI n), some (kI 10)]) rfl ?_
  exact l_common hn _ 10 ⟨by omega, by omega⟩ (Nat.lt_succ_self _) rfl
theorem l_sure {E : kEnv} {w : List (Nat × Nat)} {f : Nat → Int → Int} {g : Nat → Int → Option Nat} {i n x part cm base : Int} (hn : 0 ≤ n ∧ n ≤ 8) (hb : 0 ≤ base ∧ base ≤ 10) : ∀ (m : Nat) (k pw : Int), (0 ≤ k ∧ k ≤ n) → (n - k).toNat < m → pw = base ^ k.toNat → kW E 3 0 0 M_X6_sure 97 [some (kA 0), some (kI i), some (kI n), some (kI x), some (kI part), some (kI cm), some (kI base), some (kI pw), some (kI k)] [] ((kMC ++ w), f, g) (fun r h' => r = some (kI (base ^ n.toNat)) ∧ h' = ((kMC ++ w), f, g)) := by
  intro m
  induction m with
  | zero => intro k pw _ q; omega
  | succ m ih =>
    intro k pw y0 y1 z1
    have hp := k_pw hb (show k.toNat ≤ 8 by omega)
    rw [← z1] at hp
    have hp1 : 0 ≤ pw * base := Int.mul_nonneg hp.1 hb.1
    have hp2 : pw * base ≤ pw * 10 := Int.mul_le_mul_of_nonneg_left hb.2 hp.1
    refine kw_iload dX6_sure_97 rfl ?_
    refine kw_iload_n dX6_sure_99 rfl ?_
    refine kw_icmp_ge (tgt := 116) dX6_sure_100 (by decide) (fun h1 => ?_) (fun h1 => ?_)
    · refine kw_iload dX6_sure_116 rfl ?_
      exact kv_ri dX6_sure_118 rfl (by rw [z1, show k = n by omega]) rfl
    · refine kw_iload dX6_sure_103 rfl ?_
      refine kw_iload dX6_sure_105 rfl ?_
      refine kw_imul dX6_sure_107 ⟨by omega, by omega⟩ ?_
      refine kw_istore dX6_sure_108 (by decide) trivial (L2 := [some (kA (0)), some (kI (i)), some (kI (n)), some (kI (x)), some (kI (part)), some (kI (cm)), some (kI (base)), some (kI (pw * base)), some (kI (k))]) rfl ?_
      refine kw_iinc dX6_sure_110 (by decide) rfl ⟨by omega, by omega⟩ trivial (L2 := [some (kA (0)), some (kI (i)), some (kI (n)), some (kI (x)), some (kI (part)), some (kI (cm)), some (kI (base)), some (kI (pw * base)), some (kI (k + 1))]) rfl ?_
      refine kw_goto (tgt := 97) dX6_sure_113 (by decide) ?_
      exact ih (k + 1) (pw * base) ⟨by omega, by omega⟩ (by omega) (by rw [k_pws y0.1, z1])
theorem c_sure {E : kEnv} {w : List (Nat × Nat)} {f : Nat → Int → Int} {g : Nat → Int → Option Nat} {T s : Int → Int} {i n x part : Int} (hg : kG g) (hT : mTO T) (hS : mSO T s) (hR : RF T f) (hI : Sim T f 10 s) (hD : ∀ b, 0 ≤ b → b < T 0 → f 11 b = s b) (h28 : 0 ≤ s 28 ∧ s 28 ≤ 99) : kF E 3 M_X6_sure [kA (0), kI (i), kI (n), kI (x), kI (part)] ((kMC ++ w), f, g) (some (kI (sSure T s i n x part))) ((kMC ++ w), f, g) := by
  refine kF_of (by decide) (by simp [k_one]) (Nat.le_of_ble_eq_true rfl) (L := [some (kA (0)), some (kI (i)), some (kI (n)), some (kI (x)), some (kI (part)), none, none, none, none]) rfl ?_
  have hF := RF_FO hT hR
  have n0 := hT.1
  have n1 := hT.2.1
  have r0 := hR.1
  have r1 := hR.2.1
  have hSO := Sim_SO hT hS hR hI (by omega)
  have e28 := hI.1
  have e2 := hI.2.1
  have sg := hSO.2.1
  have r2 := hR.2.2.1
  have ki2 : ∀ _ : Unit, 0 ≤ i → i < T 1 → f 11 (12 + i) = s (16 + i) := fun _ x y => (hI.2.2.2.1 i x y).2.1
  refine kw_aload_n dX6_sure_0 rfl ?_
  refine kv_getR (b := 4) dX6_sure_1 kf_X6_19 rfl rfl rfl (hg (0, 1, 4) (by decide)) ?_
  refine kw_iload_n dX6_sure_4 rfl ?_
  refine kv_callV1 (M2 := M_X2_hasTenant) (As := [kI (i)]) dX6_sure_5 ml_X6_131 q_X2_hasTenant rfl rfl rfl (Nat.le_of_ble_eq_true rfl) (c_hasTenant hg) (by omega) ?_
  refine kv_ifeqB (tgt := 41) dX6_sure_8 (by decide) (fun h1 => ?_) (fun h1 => ?_)
  · refine kw_iconst dX6_sure_41 ⟨by decide, by decide⟩ ?_
    exact kv_ri dX6_sure_42 rfl (Eq.symm (by unfold sSure; first | (rw [if_neg (by omega)]; done) | (rw [if_pos (by omega), if_pos (by have z := ki2 () (by omega) (by omega); omega)]))) rfl
  · refine kw_iload_n dX6_sure_11 rfl ?_
    refine kw_iconst dX6_sure_12 ⟨by decide, by decide⟩ ?_
    refine kw_bipush dX6_sure_13 (by decide) (by decide) ?_
    refine kv_callS1 (M2 := M_X6_isWithin) (As := [kI (n), kI (0), kI (8)]) dX6_sure_15 ml_X6_72 q_X6_isWithin rfl (Nat.le_of_ble_eq_true rfl) (c_isWithin) (by omega) ?_
    refine kv_ifeqB (tgt := 41) dX6_sure_18 (by decide) (fun h2 => ?_) (fun h2 => ?_)
    · refine kw_iconst dX6_sure_41 ⟨by decide, by decide⟩ ?_
      exact kv_ri dX6_sure_42 rfl (Eq.symm (by unfold sSure; first | (rw [if_neg (by omega)]; done) | (rw [if_pos (by omega), if_pos (by have z := ki2 () (by omega) (by omega); omega)]))) rfl
    · refine kw_iload_n dX6_sure_21 rfl ?_
      refine kw_iconst dX6_sure_22 ⟨by decide, by decide⟩ ?_
      refine kw_bipush dX6_sure_23 (by decide) (by decide) ?_
      refine kv_callS1 (M2 := M_X6_isWithin) (As := [kI (x), kI (0), kI (10)]) dX6_sure_25 ml_X6_72 q_X6_isWithin rfl (Nat.le_of_ble_eq_true rfl) (c_isWithin) (by omega) ?_
      refine kv_ifeqB (tgt := 41) dX6_sure_28 (by decide) (fun h3 => ?_) (fun h3 => ?_)
      · refine kw_iconst dX6_sure_41 ⟨by decide, by decide⟩ ?_
        exact kv_ri dX6_sure_42 rfl (Eq.symm (by unfold sSure; first | (rw [if_neg (by omega)]; done) | (rw [if_pos (by omega), if_pos (by have z := ki2 () (by omega) (by omega); omega)]))) rfl
      · refine kw_iload dX6_sure_31 rfl ?_
        refine kw_iconst dX6_sure_33 ⟨by decide, by decide⟩ ?_
        refine kw_iconst dX6_sure_34 ⟨by decide, by decide⟩ ?_
        refine kv_callS1 (M2 := M_X6_isWithin) (As := [kI (part), kI (0), kI (1)]) dX6_sure_35 ml_X6_72 q_X6_isWithin rfl (Nat.le_of_ble_eq_true rfl) (c_isWithin) (by omega) ?_
        refine kv_ifneB (tgt := 43) dX6_sure_38 (by decide) (fun h4 => ?_) (fun h4 => ?_)
        · refine kw_aload_n dX6_sure_43 rfl ?_
          refine kv_getR (b := 10) dX6_sure_44 kf_X6_26 rfl rfl rfl (hg (0, 2, 10) (by decide)) ?_
          refine kw_iload_n dX6_sure_47 rfl ?_
          refine kv_callV1 (M2 := M_X4_reach) (As := [kI (i)]) dX6_sure_48 ml_X6_134 q_X4_reach rfl rfl rfl (Nat.le_of_ble_eq_true rfl) (show kF E 0 M_X4_reach [kA 10, kI i] ((kMC ++ w), f, g) (some (kI (f 11 (12 + i)))) ((kMC ++ w), f, g) from c_reachR (by unfold kSA; omega) hg (by omega)) (by omega) ?_
          refine kw_aload_n dX6_sure_51 rfl ?_
          refine kv_getR (b := 4) dX6_sure_52 kf_X6_19 rfl rfl rfl (hg (0, 1, 4) (by decide)) ?_
          refine kv_getI (kz := 7) dX6_sure_55 kf_X6_234 rfl rfl rfl rfl ?_
          refine kw_icmp_gt (tgt := 63) dX6_sure_58 (by decide) (fun h5 => ?_) (fun h5 => ?_)
          · refine kw_bipush dX6_sure_63 (by decide) (by decide) ?_
            refine kw_iload_n dX6_sure_65 rfl ?_
            refine kw_isub dX6_sure_66 ⟨by omega, by omega⟩ ?_
            refine kv_callS1 (M2 := M_X6_commonWithTen) (As := [kI (10 - x)]) dX6_sure_67 ml_X6_237 q_X6_commonWithTen rfl (Nat.le_of_ble_eq_true rfl) (c_common (by omega)) (by omega) ?_
            have hk := kCm_rng (n := (10 - x)) 9 (by omega)
            refine kw_istore dX6_sure_70 (by decide) trivial (L2 := [some (kA (0)), some (kI (i)), some (kI (n)), some (kI (x)), some (kI (part)), some (kI (kCm (10 - x) 9)), none, none, none]) rfl ?_
            refine kw_iload dX6_sure_72 rfl ?_
            refine kw_if_ne (tgt := 84) dX6_sure_74 (by decide) (fun h6 => ?_) (fun h6 => ?_)
            · refine kw_bipush dX6_sure_84 (by decide) (by decide) ?_
              refine kw_iload dX6_sure_86 rfl ?_
              refine kw_idiv dX6_sure_88 (by omega) (by omega) ?_
              refine kw_istore dX6_sure_89 (by decide) trivial (L2 := [some (kA (0)), some (kI (i)), some (kI (n)), some (kI (x)), some (kI (part)), some (kI (kCm (10 - x) 9)), some (kI (10 / (kCm (10 - x) 9))), none, none]) rfl ?_
              refine kw_iconst dX6_sure_91 ⟨by decide, by decide⟩ ?_
              refine kw_istore dX6_sure_92 (by decide) trivial (L2 := [some (kA (0)), some (kI (i)), some (kI (n)), some (kI (x)), some (kI (part)), some (kI (kCm (10 - x) 9)), some (kI (10 / (kCm (10 - x) 9))), some (kI (1)), none]) rfl ?_
              refine kw_iconst dX6_sure_94 ⟨by decide, by decide⟩ ?_
              refine kw_istore dX6_sure_95 (by decide) trivial (L2 := [some (kA (0)), some (kI (i)), some (kI (n)), some (kI (x)), some (kI (part)), some (kI (kCm (10 - x) 9)), some (kI (10 / (kCm (10 - x) 9))), some (kI (1)), some (kI (0))]) rfl ?_
              have hd1 := Int.ediv_nonneg (a := 10) (b := kCm (10 - x) 9) (by omega) (by omega)
              have hd2 := Int.ediv_le_self (a := 10) (kCm (10 - x) 9) (by omega)
              unfold sSure
              rw [if_pos (by omega), if_neg (by have z := ki2 () (by omega) (by omega); omega), if_neg (by omega)]
              exact l_sure (by omega) ⟨hd1, by omega⟩ _ 0 1 ⟨by omega, by omega⟩ (Nat.lt_succ_self _) (by simp)
            · refine kw_bipush dX6_sure_77 (by decide) (by decide) ?_
              refine kw_iload_n dX6_sure_79 rfl ?_
              refine kw_isub dX6_sure_80 ⟨by omega, by omega⟩ ?_
              refine kw_goto (tgt := 86) dX6_sure_81 (by decide) ?_
              refine kw_iload dX6_sure_86 rfl ?_
              refine kw_idiv dX6_sure_88 (by omega) (by omega) ?_
              refine kw_istore dX6_sure_89 (by decide) trivial (L2 := [some (kA (0)), some (kI (i)), some (kI (n)), some (kI (x)), some (kI (part)), some (kI (kCm (10 - x) 9)), some (kI ((10 - x) / (kCm (10 - x) 9))), none, none]) rfl ?_
              refine kw_iconst dX6_sure_91 ⟨by decide, by decide⟩ ?_
              refine kw_istore dX6_sure_92 (by decide) trivial (L2 := [some (kA (0)), some (kI (i)), some (kI (n)), some (kI (x)), some (kI (part)), some (kI (kCm (10 - x) 9)), some (kI ((10 - x) / (kCm (10 - x) 9))), some (kI (1)), none]) rfl ?_
              refine kw_iconst dX6_sure_94 ⟨by decide, by decide⟩ ?_
              refine kw_istore dX6_sure_95 (by decide) trivial (L2 := [some (kA (0)), some (kI (i)), some (kI (n)), some (kI (x)), some (kI (part)), some (kI (kCm (10 - x) 9)), some (kI ((10 - x) / (kCm (10 - x) 9))), some (kI (1)), some (kI (0))]) rfl ?_
              have hd1 := Int.ediv_nonneg (a := (10 - x)) (b := kCm (10 - x) 9) (by omega) (by omega)
              have hd2 := Int.ediv_le_self (a := (10 - x)) (kCm (10 - x) 9) (by omega)
              unfold sSure
              rw [if_pos (by omega), if_neg (by have z := ki2 () (by omega) (by omega); omega), if_pos (by omega)]
              exact l_sure (by omega) ⟨hd1, by omega⟩ _ 0 1 ⟨by omega, by omega⟩ (Nat.lt_succ_self _) (by simp)
          · refine kw_iconst dX6_sure_61 ⟨by decide, by decide⟩ ?_
            exact kv_ri dX6_sure_62 rfl (Eq.symm (by unfold sSure; first | (rw [if_neg (by omega)]; done) | (rw [if_pos (by omega), if_pos (by have z := ki2 () (by omega) (by omega); omega)]))) rfl
        · refine kw_iconst dX6_sure_41 ⟨by decide, by decide⟩ ?_
          exact kv_ri dX6_sure_42 rfl (Eq.symm (by unfold sSure; first | (rw [if_neg (by omega)]; done) | (rw [if_pos (by omega), if_pos (by have z := ki2 () (by omega) (by omega); omega)]))) rfl
