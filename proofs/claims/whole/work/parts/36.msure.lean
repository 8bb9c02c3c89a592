/-! sure, of the model -/
theorem k_gcd {a b : Int} (h : 0 ≤ a) (hb : 0 < b) : Nat.gcd a.toNat b.toNat = Nat.gcd b.toNat (a % b).toNat := by
  rw [Nat.gcd_comm a.toNat b.toNat, Nat.gcd_rec b.toNat a.toNat, Nat.gcd_comm]
  congr 1
  exact (Int.toNat_emod h (Int.le_of_lt hb)).symm
theorem sSure_t : ∀ q : Nat, q ≤ 10 → ∀ k : Nat, k ≤ 8 → (((q : Int) ^ k) / ((Nat.gcd ((q : Int) ^ k).toNat ((10 : Int) ^ k).toNat : Nat) : Int) = ((q : Int) / kCm q 9) ^ k ∧ ((10 : Int) ^ k) / ((Nat.gcd ((q : Int) ^ k).toNat ((10 : Int) ^ k).toNat : Nat) : Int) = ((10 : Int) / kCm q 9) ^ k) := by decide +kernel
theorem sSure_u {x : Int} {k : Nat} (h : 0 ≤ x ∧ x ≤ 10) (hk : k ≤ 8) : (10 - x) ^ k / ((Nat.gcd ((10 - x) ^ k).toNat ((10 : Int) ^ k).toNat : Nat) : Int) = ((10 - x) / kCm (10 - x) 9) ^ k ∧ ((10 : Int) ^ k) / ((Nat.gcd ((10 - x) ^ k).toNat ((10 : Int) ^ k).toNat : Nat) : Int) = ((10 : Int) / kCm (10 - x) 9) ^ k := by
  have h1 := sSure_t (10 - x).toNat (by omega) k hk
  rw [show (((10 - x).toNat : Nat) : Int) = 10 - x by omega] at h1
  exact h1
theorem l_meuc {E : kEnv} {f : Nat → Int → Int} {s : Int → Int} {g : Nat → Int → Option Nat} {d : Nat} {i n x part ab be : Int} {y : Nat} {Q : Option kV → kH → Prop} (hx : ∀ o : Option kV, kW E d 0 0 M_X7_sure 126 [some (kA 45), some (kI i), some (kI n), some (kI x), some (kI part), some (kI ab), some (kI be), some (kI (y : Int)), some (kI 0), o] [] ((kMC ++ kMM), kst f 50 s, g) Q) : ∀ (m : Nat) (a b : Int) (o : Option kV), (0 ≤ a ∧ 0 ≤ b) → b.toNat < m → y = Nat.gcd a.toNat b.toNat → kW E d 0 0 M_X7_sure 103 [some (kA 45), some (kI i), some (kI n), some (kI x), some (kI part), some (kI ab), some (kI be), some (kI a), some (kI b), o] [] ((kMC ++ kMM), kst f 50 s, g) Q := by
  intro m
  induction m with
  | zero => intro a b o _ q; omega
  | succ m ih =>
    intro a b o y0 y1 z1
    refine kw_iload dX7_sure_103 rfl ?_
    refine kw_if_le (tgt := 126) dX7_sure_105 (by decide) (fun h1 => ?_) (fun h1 => ?_)
    · have e0 : b = 0 := by omega
      subst e0
      have e1 : y = a.toNat := by rw [z1]; exact Nat.gcd_zero_right _
      have e2 : a = (y : Int) := by omega
      subst e2
      exact hx o
    · refine kw_iload dX7_sure_108 rfl ?_
      refine kw_iload dX7_sure_110 rfl ?_
      have zz0 := Int.emod_nonneg a (show b ≠ 0 by omega)
      have zz1 := Int.emod_lt_of_pos a (show 0 < b by omega)
      refine kw_irem dX7_sure_112 (by omega) (by omega) ?_
      refine kw_istore dX7_sure_113 (by decide) trivial (L2 := [some (kA (45)), some (kI (i)), some (kI (n)), some (kI (x)), some (kI (part)), some (kI (ab)), some (kI (be)), some (kI (a)), some (kI (b)), some (kI (a % b))]) rfl ?_
      refine kw_iload dX7_sure_115 rfl ?_
      refine kw_istore dX7_sure_117 (by decide) trivial (L2 := [some (kA (45)), some (kI (i)), some (kI (n)), some (kI (x)), some (kI (part)), some (kI (ab)), some (kI (be)), some (kI (b)), some (kI (b)), some (kI (a % b))]) rfl ?_
      refine kw_iload dX7_sure_119 rfl ?_
      refine kw_istore dX7_sure_121 (by decide) trivial (L2 := [some (kA (45)), some (kI (i)), some (kI (n)), some (kI (x)), some (kI (part)), some (kI (ab)), some (kI (be)), some (kI (b)), some (kI (a % b)), some (kI (a % b))]) rfl ?_
      refine kw_goto (tgt := 103) dX7_sure_123 (by decide) ?_
      exact ih b (a % b) _ (by omega) (by omega) (by rw [z1]; exact k_gcd y0.1 (by omega))
theorem l_mpow {E : kEnv} {f : Nat → Int → Int} {s : Int → Int} {g : Nat → Int → Option Nat} {d : Nat} {i n x part : Int} {Q : Option kV → kH → Prop} (hm : kGM g) (hT : mTO (f 47)) (hS : mSO (f 47) s) (h28 : 0 ≤ s 28 ∧ s 28 ≤ 99) (hi : 0 ≤ i ∧ i < f 47 1) (hn : 0 ≤ n ∧ n ≤ 8) (hq : 0 ≤ x ∧ x ≤ 10)
    (hx1 : ¬ s (16 + i) ≤ f 47 2 ∨ n = 0 → ∀ o1 o2 : Option kV, kW E d 0 0 M_X7_sure 95 [some (kA 45), some (kI i), some (kI n), some (kI x), some (kI part), some (kI ((10 - x) ^ n.toNat)), some (kI (10 ^ n.toNat)), some (kI n), o1, o2] [] ((kMC ++ kMM), kst f 50 s, g) Q) (hx0 : s (16 + i) ≤ f 47 2 → ∀ o1 o2 : Option kV, kW E d 0 0 M_X7_sure 95 [some (kA 45), some (kI i), some (kI n), some (kI x), some (kI part), some (kI 1), some (kI 1), some (kI 0), o1, o2] [] ((kMC ++ kMM), kst f 50 s, g) Q) : ∀ (m : Nat) (k ab be : Int) (o1 o2 : Option kV), (0 ≤ k ∧ k ≤ n) → (n - k).toNat < m → ab = (10 - x) ^ k.toNat → be = 10 ^ k.toNat → (0 < k → ¬ s (16 + i) ≤ f 47 2) → kW E d 0 0 M_X7_sure 49 [some (kA 45), some (kI i), some (kI n), some (kI x), some (kI part), some (kI ab), some (kI be), some (kI k), o1, o2] [] ((kMC ++ kMM), kst f 50 s, g) Q := by
  intro m
  induction m with
  | zero => intro k ab be o1 o2 _ q; omega
  | succ m ih =>
    intro k ab be o1 o2 y0 y1 z1 z2 hk
    have n0 := hT.1
    have n1 := hT.2.1
    have hp := k_pw (m := 10 - x) (k := k.toNat) (by omega) (by omega)
    have hp9 := k_pw (m := 10) (k := k.toNat) (by omega) (by omega)
    rw [← z1] at hp
    rw [← z2] at hp9
    have hp1 : 0 ≤ ab * (10 - x) := Int.mul_nonneg hp.1 (by omega)
    have hp2 : ab * (10 - x) ≤ ab * 10 := Int.mul_le_mul_of_nonneg_left (by omega) hp.1
    refine kw_iload dX7_sure_49 rfl ?_
    refine kw_iload_n dX7_sure_51 rfl ?_
    refine kw_icmp_ge (tgt := 95) dX7_sure_52 (by decide) (fun h1 => ?_) (fun h1 => ?_)
    · by_cases qk : k = n
      · subst qk
        rw [z1, z2]
        by_cases qq : s (16 + i) ≤ f 47 2
        · refine hx1 (Or.inr ?_) o1 o2
          rcases Int.lt_or_eq_of_le y0.1 with q | q
          · exact absurd qq (hk q)
          · exact q.symm
        · exact hx1 (Or.inl qq) o1 o2
      · have e1 : k = 0 := by
          rcases Int.lt_or_eq_of_le y0.1 with q | q
          · exact absurd (show s (16 + i) ≤ f 47 2 by omega) (hk q)
          · exact q.symm
        subst e1
        rw [show ab = 1 by rw [z1]; simp, show be = 1 by rw [z2]; simp]
        exact hx0 (by omega) o1 o2
    · refine kw_aload_n dX7_sure_55 rfl ?_
      refine kv_getR (b := 50) dX7_sure_56 kf_X7_22 rfl rfl rfl (hm (45, 5, 50) (by decide)) ?_
      refine kw_bipush dX7_sure_59 (by decide) (by decide) ?_
      refine kw_iload_n dX7_sure_61 rfl ?_
      refine kw_iadd dX7_sure_62 ⟨by omega, by omega⟩ ?_
      refine kv_iald dX7_sure_63 rfl (by omega) (by omega) (congrFun kst_self _) ?_
      refine kw_aload_n dX7_sure_64 rfl ?_
      refine kv_getR (b := 47) dX7_sure_65 kf_X7_13 rfl rfl rfl (hm (45, 2, 47) (by decide)) ?_
      refine kw_iconst dX7_sure_68 ⟨by decide, by decide⟩ ?_
      refine kv_iald dX7_sure_69 rfl (by omega) (by omega) (congrFun (kst_ne (by decide)) _) ?_
      refine kw_icmp_le (tgt := 95) dX7_sure_70 (by decide) (fun h2 => ?_) (fun h2 => ?_)
      · by_cases qk : k = n
        · subst qk
          rw [z1, z2]
          by_cases qq : s (16 + i) ≤ f 47 2
          · refine hx1 (Or.inr ?_) o1 o2
            rcases Int.lt_or_eq_of_le y0.1 with q | q
            · exact absurd qq (hk q)
            · exact q.symm
          · exact hx1 (Or.inl qq) o1 o2
        · have e1 : k = 0 := by
            rcases Int.lt_or_eq_of_le y0.1 with q | q
            · exact absurd (show s (16 + i) ≤ f 47 2 by omega) (hk q)
            · exact q.symm
          subst e1
          rw [show ab = 1 by rw [z1]; simp, show be = 1 by rw [z2]; simp]
          exact hx0 (by omega) o1 o2
      · refine kw_iload dX7_sure_73 rfl ?_
        refine kw_bipush dX7_sure_75 (by decide) (by decide) ?_
        refine kw_iload_n dX7_sure_77 rfl ?_
        refine kw_isub dX7_sure_78 ⟨by omega, by omega⟩ ?_
        refine kw_imul dX7_sure_79 ⟨by omega, by omega⟩ ?_
        refine kw_istore dX7_sure_80 (by decide) trivial (L2 := [some (kA (45)), some (kI (i)), some (kI (n)), some (kI (x)), some (kI (part)), some (kI (ab * (10 - x))), some (kI (be)), some (kI (k)), o1, o2]) rfl ?_
        refine kw_iload dX7_sure_82 rfl ?_
        refine kw_bipush dX7_sure_84 (by decide) (by decide) ?_
        refine kw_imul dX7_sure_86 ⟨by omega, by omega⟩ ?_
        refine kw_istore dX7_sure_87 (by decide) trivial (L2 := [some (kA (45)), some (kI (i)), some (kI (n)), some (kI (x)), some (kI (part)), some (kI (ab * (10 - x))), some (kI (be * 10)), some (kI (k)), o1, o2]) rfl ?_
        refine kw_iinc dX7_sure_89 (by decide) rfl ⟨by omega, by omega⟩ trivial (L2 := [some (kA (45)), some (kI (i)), some (kI (n)), some (kI (x)), some (kI (part)), some (kI (ab * (10 - x))), some (kI (be * 10)), some (kI (k + 1)), o1, o2]) rfl ?_
        refine kw_goto (tgt := 49) dX7_sure_92 (by decide) ?_
        exact ih (k + 1) _ _ o1 o2 ⟨by omega, by omega⟩ (by omega) (by rw [k_pws y0.1, z1]) (by rw [k_pws y0.1, z2]) (fun _ => by omega)
theorem l_msend {E : kEnv} {f : Nat → Int → Int} {s : Int → Int} {g : Nat → Int → Option Nat} {d : Nat} {i n x part ab be k y : Int} {o1 o2 : Option kV} (hp : 0 ≤ part ∧ part ≤ 1) (ha : 0 ≤ ab) (hb : 0 < be) (e1 : y = if part = 0 then ab / ((Nat.gcd ab.toNat be.toNat : Nat) : Int) else be / ((Nat.gcd ab.toNat be.toNat : Nat) : Int)) : kW E d 0 0 M_X7_sure 95 [some (kA 45), some (kI i), some (kI n), some (kI x), some (kI part), some (kI ab), some (kI be), some (kI k), o1, o2] [] ((kMC ++ kMM), kst f 50 s, g) (fun r h' => r = some (kI y) ∧ h' = ((kMC ++ kMM), kst f 50 s, g)) := by
  have hg0 : 0 < Nat.gcd ab.toNat be.toNat := Nat.gcd_pos_of_pos_right _ (by omega)
  refine kw_iload dX7_sure_95 rfl ?_
  refine kw_istore dX7_sure_97 (by decide) trivial (L2 := [some (kA (45)), some (kI (i)), some (kI (n)), some (kI (x)), some (kI (part)), some (kI (ab)), some (kI (be)), some (kI (ab)), o1, o2]) rfl ?_
  refine kw_iload dX7_sure_99 rfl ?_
  refine kw_istore dX7_sure_101 (by decide) trivial (L2 := [some (kA (45)), some (kI (i)), some (kI (n)), some (kI (x)), some (kI (part)), some (kI (ab)), some (kI (be)), some (kI (ab)), some (kI (be)), o2]) rfl ?_
  refine l_meuc (y := Nat.gcd ab.toNat be.toNat) (fun o => ?_) _ ab be _ ⟨by omega, by omega⟩ (Nat.lt_succ_self _) rfl
  refine kw_iload dX7_sure_126 rfl ?_
  refine kw_if_ne (tgt := 139) dX7_sure_128 (by decide) (fun h1 => ?_) (fun h1 => ?_)
  · refine kw_iload dX7_sure_139 rfl ?_
    refine kw_iload dX7_sure_141 rfl ?_
    refine kw_idiv dX7_sure_143 (by omega) (by omega) ?_
    exact kv_ri dX7_sure_144 rfl (by rw [e1, if_neg (by omega)]) rfl
  · refine kw_iload dX7_sure_131 rfl ?_
    refine kw_iload dX7_sure_133 rfl ?_
    refine kw_idiv dX7_sure_135 (by omega) (by omega) ?_
    refine kw_goto (tgt := 144) dX7_sure_136 (by decide) ?_
    exact kv_ri dX7_sure_144 rfl (by rw [e1, if_pos (by omega)]) rfl
theorem c_msure {E : kEnv} {f : Nat → Int → Int} {s : Int → Int} {g : Nat → Int → Option Nat} {i n x part : Int} (hm : kGM g) (hT : mTO (f 47)) (hS : mSO (f 47) s) (h28 : 0 ≤ s 28 ∧ s 28 ≤ 99) : kF E 3 M_X7_sure [kA (45), kI (i), kI (n), kI (x), kI (part)] ((kMC ++ kMM), kst f 50 s, g) (some (kI (sSure (f 47) s i n x part))) ((kMC ++ kMM), kst f 50 s, g) := by
  refine kF_of (by decide) (by simp [k_one]) (Nat.le_of_ble_eq_true rfl) (L := [some (kA (45)), some (kI (i)), some (kI (n)), some (kI (x)), some (kI (part)), none, none, none, none, none]) rfl ?_
  have n0 := hT.1
  have n1 := hT.2.1
  refine kw_aload_n dX7_sure_0 rfl ?_
  refine kw_iload_n dX7_sure_1 rfl ?_
  refine kv_callV1 (M2 := M_X7_isTenant) (As := [kI (i)]) dX7_sure_2 ml_X7_100 q_X7_isTenant rfl rfl rfl (Nat.le_of_ble_eq_true rfl) (c_misTenant hm hT) (by omega) ?_
  refine kv_ifeqB (tgt := 38) dX7_sure_5 (by decide) (fun h1 => ?_) (fun h1 => ?_)
  · refine kw_iconst dX7_sure_38 ⟨by decide, by decide⟩ ?_
    exact kv_ri dX7_sure_39 rfl (Eq.symm (by unfold sSure; rw [if_neg (by omega)])) rfl
  · refine kw_iload_n dX7_sure_8 rfl ?_
    refine kw_iconst dX7_sure_9 ⟨by decide, by decide⟩ ?_
    refine kw_bipush dX7_sure_10 (by decide) (by decide) ?_
    refine kv_callS1 (M2 := M_X7_in) (As := [kI (n), kI (0), kI (8)]) dX7_sure_12 ml_X7_54 q_X7_in rfl (Nat.le_of_ble_eq_true rfl) (c_min) (by omega) ?_
    refine kv_ifeqB (tgt := 38) dX7_sure_15 (by decide) (fun h2 => ?_) (fun h2 => ?_)
    · refine kw_iconst dX7_sure_38 ⟨by decide, by decide⟩ ?_
      exact kv_ri dX7_sure_39 rfl (Eq.symm (by unfold sSure; rw [if_neg (by omega)])) rfl
    · refine kw_iload_n dX7_sure_18 rfl ?_
      refine kw_iconst dX7_sure_19 ⟨by decide, by decide⟩ ?_
      refine kw_bipush dX7_sure_20 (by decide) (by decide) ?_
      refine kv_callS1 (M2 := M_X7_in) (As := [kI (x), kI (0), kI (10)]) dX7_sure_22 ml_X7_54 q_X7_in rfl (Nat.le_of_ble_eq_true rfl) (c_min) (by omega) ?_
      refine kv_ifeqB (tgt := 38) dX7_sure_25 (by decide) (fun h3 => ?_) (fun h3 => ?_)
      · refine kw_iconst dX7_sure_38 ⟨by decide, by decide⟩ ?_
        exact kv_ri dX7_sure_39 rfl (Eq.symm (by unfold sSure; rw [if_neg (by omega)])) rfl
      · refine kw_iload dX7_sure_28 rfl ?_
        refine kw_iconst dX7_sure_30 ⟨by decide, by decide⟩ ?_
        refine kw_iconst dX7_sure_31 ⟨by decide, by decide⟩ ?_
        refine kv_callS1 (M2 := M_X7_in) (As := [kI (part), kI (0), kI (1)]) dX7_sure_32 ml_X7_54 q_X7_in rfl (Nat.le_of_ble_eq_true rfl) (c_min) (by omega) ?_
        refine kv_ifneB (tgt := 40) dX7_sure_35 (by decide) (fun h4 => ?_) (fun h4 => ?_)
        · refine kw_iconst dX7_sure_40 ⟨by decide, by decide⟩ ?_
          refine kw_istore dX7_sure_41 (by decide) trivial (L2 := [some (kA (45)), some (kI (i)), some (kI (n)), some (kI (x)), some (kI (part)), some (kI (1)), none, none, none, none]) rfl ?_
          refine kw_iconst dX7_sure_43 ⟨by decide, by decide⟩ ?_
          refine kw_istore dX7_sure_44 (by decide) trivial (L2 := [some (kA (45)), some (kI (i)), some (kI (n)), some (kI (x)), some (kI (part)), some (kI (1)), some (kI (1)), none, none, none]) rfl ?_
          refine kw_iconst dX7_sure_46 ⟨by decide, by decide⟩ ?_
          refine kw_istore dX7_sure_47 (by decide) trivial (L2 := [some (kA (45)), some (kI (i)), some (kI (n)), some (kI (x)), some (kI (part)), some (kI (1)), some (kI (1)), some (kI (0)), none, none]) rfl ?_
          refine l_mpow hm hT hS h28 (by omega) (by omega) (by omega) (fun q o1 o2 => ?_) (fun q o1 o2 => ?_) _ 0 1 1 _ _ ⟨by omega, by omega⟩ (Nat.lt_succ_self _) (by simp) (by simp) (fun q => absurd q (by omega))
          · have hu := sSure_u (x := x) (k := n.toNat) (by omega) (by omega)
            have ha := k_pw (m := 10 - x) (k := n.toNat) (by omega) (by omega)
            refine l_msend (by omega) ha.1 (Int.pow_pos (by decide)) ?_
            unfold sSure
            rw [if_pos (by omega), hu.1, hu.2]
            by_cases q2 : s (16 + i) ≤ f 47 2
            · have q3 : n = 0 := by omega
              rw [if_pos q2, q3]
              simp
            · rw [if_neg q2]
              split <;> rfl
          · refine l_msend (by omega) (by decide) (by decide) ?_
            unfold sSure
            rw [if_pos (by omega), if_pos q]
            split <;> rfl
        · refine kw_iconst dX7_sure_38 ⟨by decide, by decide⟩ ?_
          exact kv_ri dX7_sure_39 rfl (Eq.symm (by unfold sSure; rw [if_neg (by omega)])) rfl
