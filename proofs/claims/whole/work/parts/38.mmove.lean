/-! the model: hook, ring, pass, undo, keep, back -/
theorem kKe_b {f : Nat → Int → Int} {s : Int → Int} {b : Nat} (h : b ≠ 51) (h2 : b ≠ 45) : kKe f s b = f b := by
  funext j
  unfold kKe
  split
  · unfold kKp
    rw [k_u_ne h2]
    exact (if_neg (fun z => h z.1)).trans ((k_u_ne h2).trans (if_neg (fun z => h z.1)))
  · unfold kKp
    rw [k_u_ne h2]
    exact if_neg (fun z => h z.1)
def sHook (T s : Int → Int) (i r : Int) : Int := if (0 ≤ i ∧ i ≤ T 1 - 1) ∧ (1 ≤ r ∧ r ≤ 20) then s (16 + i) else -1
def sRing (T s : Int → Int) (b : Int) : Int := if 0 ≤ b ∧ b ≤ T 0 - 1 then (if s b ≤ s 28 ∨ s (8 + b) = 1 then -2 else s b) else -1
def mPs : Nat → (Int → Int) → Int → Int
  | 0, s => s
  | n + 1, s => mPass (mPs n s)
theorem mPs_28 {s : Int → Int} : ∀ n : Nat, mPs n s 28 = s 28 + n
  | 0 => by simp [mPs]
  | n + 1 => by rw [mPs, mPass_d, mPs_28 n]; omega
def sPass (s : Int → Int) (n : Int) : Int := if 1 ≤ n ∧ n ≤ 30 then (if s 28 + n ≤ 99 then s 28 + n else -2) else -1
theorem c_mhook {E : kEnv} {f : Nat → Int → Int} {s : Int → Int} {g : Nat → Int → Option Nat} {i r : Int} (hm : kGM g) (hT : mTO (f 47)) (hS : mSO (f 47) s) (h28 : 0 ≤ s 28 ∧ s 28 ≤ 99) (hk : 0 ≤ f 45 7 ∧ f 45 7 ≤ 8) : kF E 2 M_X7_hook [kA (45), kI (i), kI (r)] ((kMC ++ kMM), kst f 50 s, g) (some (kI (sHook (f 47) s i r))) ((kMC ++ kMM), if (0 ≤ i ∧ i ≤ f 47 1 - 1) ∧ (1 ≤ r ∧ r ≤ 20) then kst (kKe f s) 50 (upi s (16 + i) r) else kst f 50 s, g) := by
  refine kF_of (by decide) (by simp [k_one]) (Nat.le_of_ble_eq_true rfl) (L := [some (kA (45)), some (kI (i)), some (kI (r)), none]) rfl ?_
  have n0 := hT.1
  have n1 := hT.2.1
  refine kw_aload_n dX7_hook_0 rfl ?_
  refine kw_iload_n dX7_hook_1 rfl ?_
  refine kv_callV1 (M2 := M_X7_isTenant) (As := [kI (i)]) dX7_hook_2 ml_X7_100 q_X7_isTenant rfl rfl rfl (Nat.le_of_ble_eq_true rfl) (c_misTenant hm hT) (by omega) ?_
  refine kv_ifeqB (tgt := 18) dX7_hook_5 (by decide) (fun h1 => ?_) (fun h1 => ?_)
  · refine kw_iconst dX7_hook_18 ⟨by decide, by decide⟩ ?_
    exact kv_ri dX7_hook_19 rfl (Eq.symm (by unfold sHook; first | (rw [if_neg (by omega)]; done) | (rw [if_pos (by omega)]; done) | rw [if_pos (by omega), if_pos (by omega)] | rw [if_pos (by omega), if_neg (by omega)])) (by first | rw [if_pos (by omega)] | rw [if_neg (by omega)])
  · refine kw_iload_n dX7_hook_8 rfl ?_
    refine kw_iconst dX7_hook_9 ⟨by decide, by decide⟩ ?_
    refine kw_bipush dX7_hook_10 (by decide) (by decide) ?_
    refine kv_callS1 (M2 := M_X7_in) (As := [kI (r), kI (1), kI (20)]) dX7_hook_12 ml_X7_54 q_X7_in rfl (Nat.le_of_ble_eq_true rfl) (c_min) (by omega) ?_
    refine kv_ifneB (tgt := 20) dX7_hook_15 (by decide) (fun h2 => ?_) (fun h2 => ?_)
    · refine kw_aload_n dX7_hook_20 rfl ?_
      refine kv_callV0 (M2 := M_X7_keeps) (As := []) dX7_hook_21 ml_X7_113 q_X7_keeps rfl rfl rfl (Nat.le_of_ble_eq_true rfl) (c_mkeeps hm hk) (by omega) ?_
      refine kw_aload_n dX7_hook_24 rfl ?_
      refine kv_getR (b := 50) dX7_hook_25 kf_X7_22 rfl rfl rfl (hm (45, 5, 50) (by decide)) ?_
      refine kw_bipush dX7_hook_28 (by decide) (by decide) ?_
      refine kw_iload_n dX7_hook_30 rfl ?_
      refine kw_iadd dX7_hook_31 ⟨by omega, by omega⟩ ?_
      refine kv_iald dX7_hook_32 rfl (by omega) (by omega) (congrFun kst_self _) ?_
      refine kw_istore_n dX7_hook_33 (by decide) trivial (L2 := [some (kA (45)), some (kI (i)), some (kI (r)), some (kI (s (16 + i)))]) rfl ?_
      refine kw_aload_n dX7_hook_34 rfl ?_
      refine kv_getR (b := 50) dX7_hook_35 kf_X7_22 rfl rfl rfl (hm (45, 5, 50) (by decide)) ?_
      refine kw_bipush dX7_hook_38 (by decide) (by decide) ?_
      refine kw_iload_n dX7_hook_40 rfl ?_
      refine kw_iadd dX7_hook_41 ⟨by omega, by omega⟩ ?_
      refine kw_iload_n dX7_hook_42 rfl ?_
      refine kv_iast dX7_hook_43 rfl (by omega) (by omega) ?_
      rw [kst_u]
      refine kw_iload_n dX7_hook_44 rfl ?_
      exact kv_ri dX7_hook_45 rfl (Eq.symm (by unfold sHook; first | (rw [if_neg (by omega)]; done) | (rw [if_pos (by omega)]; done) | rw [if_pos (by omega), if_pos (by omega)] | rw [if_pos (by omega), if_neg (by omega)])) (by first | rw [if_pos (by omega)] | rw [if_neg (by omega)])
    · refine kw_iconst dX7_hook_18 ⟨by decide, by decide⟩ ?_
      exact kv_ri dX7_hook_19 rfl (Eq.symm (by unfold sHook; first | (rw [if_neg (by omega)]; done) | (rw [if_pos (by omega)]; done) | rw [if_pos (by omega), if_pos (by omega)] | rw [if_pos (by omega), if_neg (by omega)])) (by first | rw [if_pos (by omega)] | rw [if_neg (by omega)])
theorem c_mring {E : kEnv} {f : Nat → Int → Int} {s : Int → Int} {g : Nat → Int → Option Nat} {b : Int} (hm : kGM g) (hT : mTO (f 47)) (hS : mSO (f 47) s) (h28 : 0 ≤ s 28 ∧ s 28 ≤ 99) (hk : 0 ≤ f 45 7 ∧ f 45 7 ≤ 8) : kF E 2 M_X7_ring [kA (45), kI (b)] ((kMC ++ kMM), kst f 50 s, g) (some (kI (sRing (f 47) s b))) ((kMC ++ kMM), if (0 ≤ b ∧ b ≤ f 47 0 - 1) ∧ ¬ (s b ≤ s 28 ∨ s (8 + b) = 1) then kst (kKe f s) 50 (upi s b (s 28)) else kst f 50 s, g) := by
  refine kF_of (by decide) (by simp [k_one]) (Nat.le_of_ble_eq_true rfl) (L := [some (kA (45)), some (kI (b)), none]) rfl ?_
  have n0 := hT.1
  have n1 := hT.2.1
  refine kw_aload_n dX7_ring_0 rfl ?_
  refine kw_iload_n dX7_ring_1 rfl ?_
  refine kv_callV1 (M2 := M_X7_isBough) (As := [kI (b)]) dX7_ring_2 ml_X7_90 q_X7_isBough rfl rfl rfl (Nat.le_of_ble_eq_true rfl) (c_misBough hm hT) (by omega) ?_
  refine kv_ifneB (tgt := 10) dX7_ring_5 (by decide) (fun h1 => ?_) (fun h1 => ?_)
  · refine kw_aload_n dX7_ring_10 rfl ?_
    refine kw_iload_n dX7_ring_11 rfl ?_
    refine kw_aload_n dX7_ring_12 rfl ?_
    refine kv_getR (b := 50) dX7_ring_13 kf_X7_22 rfl rfl rfl (hm (45, 5, 50) (by decide)) ?_
    refine kw_bipush dX7_ring_16 (by decide) (by decide) ?_
    refine kv_iald dX7_ring_18 rfl (by omega) (by omega) (congrFun kst_self _) ?_
    refine kv_callV1 (M2 := M_X7_isDead) (As := [kI (b), kI (s 28)]) dX7_ring_19 ml_X7_93 q_X7_isDead rfl rfl rfl (Nat.le_of_ble_eq_true rfl) (c_misDead hm (by omega)) (by omega) ?_
    refine kv_ifneB (tgt := 38) dX7_ring_22 (by decide) (fun h2 => ?_) (fun h2 => ?_)
    · refine kw_bipush dX7_ring_38 (by decide) (by decide) ?_
      exact kv_ri dX7_ring_40 rfl (Eq.symm (by unfold sRing; first | (rw [if_neg (by omega)]; done) | (rw [if_pos (by omega)]; done) | rw [if_pos (by omega), if_pos (by omega)] | rw [if_pos (by omega), if_neg (by omega)])) (by first | rw [if_pos (by omega)] | rw [if_neg (by omega)])
    · refine kw_aload_n dX7_ring_25 rfl ?_
      refine kv_getR (b := 50) dX7_ring_26 kf_X7_22 rfl rfl rfl (hm (45, 5, 50) (by decide)) ?_
      refine kw_bipush dX7_ring_29 (by decide) (by decide) ?_
      refine kw_iload_n dX7_ring_31 rfl ?_
      refine kw_iadd dX7_ring_32 ⟨by omega, by omega⟩ ?_
      refine kv_iald dX7_ring_33 rfl (by omega) (by omega) (congrFun kst_self _) ?_
      refine kw_iconst dX7_ring_34 ⟨by decide, by decide⟩ ?_
      refine kw_icmp_ne (tgt := 41) dX7_ring_35 (by decide) (fun h3 => ?_) (fun h3 => ?_)
      · refine kw_aload_n dX7_ring_41 rfl ?_
        refine kv_callV0 (M2 := M_X7_keeps) (As := []) dX7_ring_42 ml_X7_113 q_X7_keeps rfl rfl rfl (Nat.le_of_ble_eq_true rfl) (c_mkeeps hm hk) (by omega) ?_
        refine kw_aload_n dX7_ring_45 rfl ?_
        refine kv_getR (b := 50) dX7_ring_46 kf_X7_22 rfl rfl rfl (hm (45, 5, 50) (by decide)) ?_
        refine kw_iload_n dX7_ring_49 rfl ?_
        refine kv_iald dX7_ring_50 rfl (by omega) (by omega) (congrFun kst_self _) ?_
        refine kw_istore_n dX7_ring_51 (by decide) trivial (L2 := [some (kA (45)), some (kI (b)), some (kI (s b))]) rfl ?_
        refine kw_aload_n dX7_ring_52 rfl ?_
        refine kv_getR (b := 50) dX7_ring_53 kf_X7_22 rfl rfl rfl (hm (45, 5, 50) (by decide)) ?_
        refine kw_iload_n dX7_ring_56 rfl ?_
        refine kw_aload_n dX7_ring_57 rfl ?_
        refine kv_getR (b := 50) dX7_ring_58 kf_X7_22 rfl rfl rfl (hm (45, 5, 50) (by decide)) ?_
        refine kw_bipush dX7_ring_61 (by decide) (by decide) ?_
        refine kv_iald dX7_ring_63 rfl (by omega) (by omega) (congrFun kst_self _) ?_
        refine kv_iast dX7_ring_64 rfl (by omega) (by omega) ?_
        rw [kst_u]
        refine kw_iload_n dX7_ring_65 rfl ?_
        exact kv_ri dX7_ring_66 rfl (Eq.symm (by unfold sRing; first | (rw [if_neg (by omega)]; done) | (rw [if_pos (by omega)]; done) | rw [if_pos (by omega), if_pos (by omega)] | rw [if_pos (by omega), if_neg (by omega)])) (by first | rw [if_pos (by omega)] | rw [if_neg (by omega)])
      · refine kw_bipush dX7_ring_38 (by decide) (by decide) ?_
        exact kv_ri dX7_ring_40 rfl (Eq.symm (by unfold sRing; first | (rw [if_neg (by omega)]; done) | (rw [if_pos (by omega)]; done) | rw [if_pos (by omega), if_pos (by omega)] | rw [if_pos (by omega), if_neg (by omega)])) (by first | rw [if_pos (by omega)] | rw [if_neg (by omega)])
  · refine kw_iconst dX7_ring_8 ⟨by decide, by decide⟩ ?_
    exact kv_ri dX7_ring_9 rfl (Eq.symm (by unfold sRing; first | (rw [if_neg (by omega)]; done) | (rw [if_pos (by omega)]; done) | rw [if_pos (by omega), if_pos (by omega)] | rw [if_pos (by omega), if_neg (by omega)])) (by first | rw [if_pos (by omega)] | rw [if_neg (by omega)])
theorem l_mpass {E : kEnv} {f : Nat → Int → Int} {s : Int → Int} {g : Nat → Int → Option Nat} {m : Int} (hm : kGM g) (hT : mTO (f 47)) (hS : mSO (f 47) s) (h28 : 0 ≤ s 28 ∧ s 28 ≤ 99) (hn : 1 ≤ m ∧ m ≤ 30) : ∀ (n : Nat) (k : Int), (0 ≤ k ∧ k ≤ m) → (m - k).toNat < n → kW E 1 0 0 M_X7_pass 35 [some (kA 45), some (kI m), some (kI k)] [] ((kMC ++ kMM), kst (kKe f s) 50 (mPs k.toNat s), g) (fun r h' => r = some (kI (s 28 + m)) ∧ h' = ((kMC ++ kMM), kst (kKe f s) 50 (mPs m.toNat s), g)) := by
  intro n
  induction n with
  | zero => intro k _ q; omega
  | succ n ih =>
    intro k y0 y1
    refine kw_iload_n dX7_pass_35 rfl ?_
    refine kw_iload_n dX7_pass_36 rfl ?_
    refine kw_icmp_ge (tgt := 50) dX7_pass_37 (by decide) (fun h1 => ?_) (fun h1 => ?_)
    · refine kw_aload_n dX7_pass_50 rfl ?_
      refine kv_getR (b := 50) dX7_pass_51 kf_X7_22 rfl rfl rfl (hm (45, 5, 50) (by decide)) ?_
      refine kw_bipush dX7_pass_54 (by decide) (by decide) ?_
      refine kv_iald dX7_pass_56 rfl (by omega) (by omega) (congrFun kst_self _) ?_
      exact kv_ri dX7_pass_57 rfl (by rw [mPs_28]; omega) (by rw [show k = m by omega])
    · refine kw_aload_n dX7_pass_40 rfl ?_
      refine kv_callV0 (M2 := M_X7_passes) (As := []) dX7_pass_41 ml_X7_120 q_X7_passes rfl rfl rfl (Nat.le_of_ble_eq_true rfl) (c_mpasses (f := kKe f s) (s := mPs k.toNat s) hm (by rw [mPs_28]; omega)) (by omega) ?_
      refine kw_iinc dX7_pass_44 (by decide) rfl ⟨by omega, by omega⟩ trivial (L2 := [some (kA (45)), some (kI (m)), some (kI (k + 1))]) rfl ?_
      refine kw_goto (tgt := 35) dX7_pass_47 (by decide) ?_
      rw [show mPass (mPs k.toNat s) = mPs (k + 1).toNat s by rw [show (k + 1).toNat = k.toNat + 1 by omega, mPs]]
      exact ih (k + 1) ⟨by omega, by omega⟩ (by omega)
theorem c_mpass {E : kEnv} {f : Nat → Int → Int} {s : Int → Int} {g : Nat → Int → Option Nat} {m : Int} (hm : kGM g) (hT : mTO (f 47)) (hS : mSO (f 47) s) (h28 : 0 ≤ s 28 ∧ s 28 ≤ 99) (hk : 0 ≤ f 45 7 ∧ f 45 7 ≤ 8) : kF E 1 M_X7_pass [kA (45), kI (m)] ((kMC ++ kMM), kst f 50 s, g) (some (kI (sPass s m))) ((kMC ++ kMM), if (1 ≤ m ∧ m ≤ 30) ∧ s 28 + m ≤ 99 then kst (kKe f s) 50 (mPs m.toNat s) else kst f 50 s, g) := by
  refine kF_of (by decide) (by simp [k_one]) (Nat.le_of_ble_eq_true rfl) (L := [some (kA (45)), some (kI (m)), none]) rfl ?_
  have n0 := hT.1
  have n1 := hT.2.1
  refine kw_iload_n dX7_pass_0 rfl ?_
  refine kw_iconst dX7_pass_1 ⟨by decide, by decide⟩ ?_
  refine kw_bipush dX7_pass_2 (by decide) (by decide) ?_
  refine kv_callS1 (M2 := M_X7_in) (As := [kI (m), kI (1), kI (30)]) dX7_pass_4 ml_X7_54 q_X7_in rfl (Nat.le_of_ble_eq_true rfl) (c_min) (by omega) ?_
  refine kv_ifneB (tgt := 12) dX7_pass_7 (by decide) (fun h1 => ?_) (fun h1 => ?_)
  · refine kw_aload_n dX7_pass_12 rfl ?_
    refine kv_getR (b := 50) dX7_pass_13 kf_X7_22 rfl rfl rfl (hm (45, 5, 50) (by decide)) ?_
    refine kw_bipush dX7_pass_16 (by decide) (by decide) ?_
    refine kv_iald dX7_pass_18 rfl (by omega) (by omega) (congrFun kst_self _) ?_
    refine kw_iload_n dX7_pass_19 rfl ?_
    refine kw_iadd dX7_pass_20 ⟨by omega, by omega⟩ ?_
    refine kw_bipush dX7_pass_21 (by decide) (by decide) ?_
    refine kw_icmp_le (tgt := 29) dX7_pass_23 (by decide) (fun h2 => ?_) (fun h2 => ?_)
    · refine kw_aload_n dX7_pass_29 rfl ?_
      refine kv_callV0 (M2 := M_X7_keeps) (As := []) dX7_pass_30 ml_X7_113 q_X7_keeps rfl rfl rfl (Nat.le_of_ble_eq_true rfl) (c_mkeeps hm hk) (by omega) ?_
      refine kw_iconst dX7_pass_33 ⟨by decide, by decide⟩ ?_
      refine kw_istore_n dX7_pass_34 (by decide) trivial (L2 := [some (kA (45)), some (kI (m)), some (kI (0))]) rfl ?_
      unfold sPass
      rw [if_pos (by omega), if_pos (by omega), if_pos (by omega)]
      exact l_mpass hm hT hS h28 (by omega) _ 0 ⟨by omega, by omega⟩ (Nat.lt_succ_self _)
    · refine kw_bipush dX7_pass_26 (by decide) (by decide) ?_
      exact kv_ri dX7_pass_28 rfl (Eq.symm (by unfold sPass; first | (rw [if_neg (by omega)]; done) | (rw [if_pos (by omega)]; done) | rw [if_pos (by omega), if_pos (by omega)] | rw [if_pos (by omega), if_neg (by omega)])) (by first | rw [if_pos (by omega)] | rw [if_neg (by omega)])
  · refine kw_iconst dX7_pass_10 ⟨by decide, by decide⟩ ?_
    exact kv_ri dX7_pass_11 rfl (Eq.symm (by unfold sPass; first | (rw [if_neg (by omega)]; done) | (rw [if_pos (by omega)]; done) | rw [if_pos (by omega), if_pos (by omega)] | rw [if_pos (by omega), if_neg (by omega)])) (by first | rw [if_pos (by omega)] | rw [if_neg (by omega)])
theorem l_mundo {E : kEnv} {f : Nat → Int → Int} {s : Int → Int} {g : Nat → Int → Option Nat} {d : Nat} {c : Int} {Q : Option kV → kH → Prop} (hm : kGM g) (hc : f 45 7 = c ∧ 0 ≤ c ∧ c ≤ 7) (hx : kW E d 0 0 M_X7_undo 54 [some (kA (45)), some (kI (29))] [] ((kMC ++ kMM), kst f 50 (kGt s f 51 (29 * c) 29), g) Q) : ∀ (n : Nat) (k : Int), (0 ≤ k ∧ k ≤ 29) → (29 - k).toNat < n → kW E d 0 0 M_X7_undo 22 [some (kA (45)), some (kI (k))] [] ((kMC ++ kMM), kst f 50 (kGt s f 51 (29 * c) k), g) Q := by
  intro n
  induction n with
  | zero => intro k _ q; omega
  | succ n ih =>
    intro k y0 y1
    refine kw_iload_n dX7_undo_22 rfl ?_
    refine kw_bipush dX7_undo_23 (by decide) (by decide) ?_
    refine kw_icmp_ge (tgt := 54) dX7_undo_25 (by decide) (fun h1 => ?_) (fun h1 => ?_)
    · have e1 : k = 29 := by omega
      subst e1
      exact hx
    · refine kw_aload_n dX7_undo_28 rfl ?_
      refine kv_getR (b := 50) dX7_undo_29 kf_X7_22 rfl rfl rfl (hm (45, 5, 50) (by decide)) ?_
      refine kw_iload_n dX7_undo_32 rfl ?_
      refine kw_aload_n dX7_undo_33 rfl ?_
      refine kv_getR (b := 51) dX7_undo_34 kf_X7_25 rfl rfl rfl (hm (45, 6, 51) (by decide)) ?_
      refine kw_bipush dX7_undo_37 (by decide) (by decide) ?_
      refine kw_aload_n dX7_undo_39 rfl ?_
      refine kv_getI (kz := 7) dX7_undo_40 kf_X7_84 rfl rfl rfl (congrFun (kst_ne (by decide)) _) ?_
      refine kw_imul dX7_undo_43 ⟨by omega, by omega⟩ ?_
      refine kw_iload_n dX7_undo_44 rfl ?_
      refine kw_iadd dX7_undo_45 ⟨by omega, by omega⟩ ?_
      refine kv_iald dX7_undo_46 rfl (by omega) (by omega) (congrFun (kst_ne (by decide)) _) ?_
      refine kv_iast dX7_undo_47 rfl (by omega) (by omega) ?_
      rw [kst_u]
      refine kw_iinc dX7_undo_48 (by decide) rfl ⟨by omega, by omega⟩ trivial (L2 := [some (kA (45)), some (kI (k + 1))]) rfl ?_
      refine kw_goto (tgt := 22) dX7_undo_51 (by decide) ?_
      rw [hc.1, kGt_s y0.1]
      exact ih (k + 1) ⟨by omega, by omega⟩ (by omega)
def sUndo (n : Int) : Int := if n = 0 then -2 else n - 1
theorem c_mundo {E : kEnv} {f : Nat → Int → Int} {s : Int → Int} {g : Nat → Int → Option Nat}  (hm : kGM g) (hk : 0 ≤ f 45 7 ∧ f 45 7 ≤ 8) : kF E 0 M_X7_undo [kA (45)] ((kMC ++ kMM), kst f 50 s, g) (some (kI (sUndo (f 45 7)))) ((kMC ++ kMM), if f 45 7 = 0 then kst f 50 s else kst (k_u f 45 7 (f 45 7 - 1)) 50 (kGt s f 51 (29 * (f 45 7 - 1)) 29), g) := by
  refine kF_of (by decide) (by simp [k_one]) (Nat.le_of_ble_eq_true rfl) (L := [some (kA (45)), none]) rfl ?_
  refine kw_aload_n dX7_undo_0 rfl ?_
  refine kv_getI (kz := 7) dX7_undo_1 kf_X7_84 rfl rfl rfl (congrFun (kst_ne (by decide)) _) ?_
  refine kw_if_ne (tgt := 10) dX7_undo_4 (by decide) (fun h1 => ?_) (fun h1 => ?_)
  · refine kw_aload_n dX7_undo_10 rfl ?_
    refine kw_dup dX7_undo_11 trivial ?_
    refine kv_getI (kz := 7) dX7_undo_12 kf_X7_84 rfl rfl rfl (congrFun (kst_ne (by decide)) _) ?_
    refine kw_iconst dX7_undo_15 ⟨by decide, by decide⟩ ?_
    refine kw_isub dX7_undo_16 ⟨by omega, by omega⟩ ?_
    refine kv_putI (kz := 7) dX7_undo_17 kp_X7_84 rfl rfl (fun h => by cases h) rfl ?_
    rw [kst_uc (by decide)]
    refine kw_iconst dX7_undo_20 ⟨by decide, by decide⟩ ?_
    refine kw_istore_n dX7_undo_21 (by decide) trivial (L2 := [some (kA (45)), some (kI (0))]) rfl ?_
    unfold sUndo
    rw [if_neg (by omega), if_neg (by omega)]
    have e1 : kGt s (k_u f 45 7 (f 45 7 - 1)) 51 (29 * (f 45 7 - 1)) 29 = kGt s f 51 (29 * (f 45 7 - 1)) 29 := by
      unfold kGt
      rw [show (k_u f 45 7 (f 45 7 - 1)) 51 = f 51 from funext (fun j => k_u_ne (by omega))]
    have h := l_mundo (E := E) (f := (k_u f 45 7 (f 45 7 - 1))) (s := s) (d := 0) (c := f 45 7 - 1) hm ⟨k_u_self, by omega, by omega⟩ (Q := (fun r h' => r = some (kI (f 45 7 - 1)) ∧ h' = ((kMC ++ kMM), kst (k_u f 45 7 (f 45 7 - 1)) 50 (kGt s f 51 (29 * (f 45 7 - 1)) 29), g))) ?_ _ 0 ⟨by omega, by omega⟩ (Nat.lt_succ_self _)
    · rw [kGt_0] at h
      exact h
    rw [e1]
    refine kw_aload_n dX7_undo_54 rfl ?_
    refine kv_getI (kz := 7) dX7_undo_55 kf_X7_84 rfl rfl rfl (congrFun (kst_ne (by decide)) _) ?_
    exact kv_ri dX7_undo_58 rfl k_u_self rfl
  · refine kw_bipush dX7_undo_7 (by decide) (by decide) ?_
    exact kv_ri dX7_undo_9 rfl (Eq.symm (by unfold sUndo; first | (rw [if_neg (by omega)]; done) | (rw [if_pos (by omega)]; done) | rw [if_pos (by omega), if_pos (by omega)] | rw [if_pos (by omega), if_neg (by omega)])) (by first | rw [if_pos (by omega)] | rw [if_neg (by omega)])
theorem l_mkeep {E : kEnv} {f : Nat → Int → Int} {s : Int → Int} {g : Nat → Int → Option Nat} {d : Nat} {c : Int} {Q : Option kV → kH → Prop} (hm : kGM g) (hc : f 45 9 = c ∧ 0 ≤ c ∧ c ≤ 1) (hx : kW E d 0 0 M_X7_keep 45 [some (kA (45)), some (kI (29))] [] ((kMC ++ kMM), kst (kPu f s 52 (29 * c) 29) 50 s, g) Q) : ∀ (n : Nat) (k : Int), (0 ≤ k ∧ k ≤ 29) → (29 - k).toNat < n → kW E d 0 0 M_X7_keep 13 [some (kA (45)), some (kI (k))] [] ((kMC ++ kMM), kst ((kPu f s 52 (29 * c) k)) 50 s, g) Q := by
  intro n
  induction n with
  | zero => intro k _ q; omega
  | succ n ih =>
    intro k y0 y1
    have ek : kPu f s 52 (29 * c) k 45 9 = c := (if_neg (by omega)).trans hc.1
    refine kw_iload_n dX7_keep_13 rfl ?_
    refine kw_bipush dX7_keep_14 (by decide) (by decide) ?_
    refine kw_icmp_ge (tgt := 45) dX7_keep_16 (by decide) (fun h1 => ?_) (fun h1 => ?_)
    · have e1 : k = 29 := by omega
      subst e1
      exact hx
    · refine kw_aload_n dX7_keep_19 rfl ?_
      refine kv_getR (b := 52) dX7_keep_20 kf_X7_28 rfl rfl rfl (hm (45, 8, 52) (by decide)) ?_
      refine kw_bipush dX7_keep_23 (by decide) (by decide) ?_
      refine kw_aload_n dX7_keep_25 rfl ?_
      refine kv_getI (kz := 9) dX7_keep_26 kf_X7_87 rfl rfl rfl (congrFun (kst_ne (by decide)) _) ?_
      refine kw_imul dX7_keep_29 ⟨by omega, by omega⟩ ?_
      refine kw_iload_n dX7_keep_30 rfl ?_
      refine kw_iadd dX7_keep_31 ⟨by omega, by omega⟩ ?_
      refine kw_aload_n dX7_keep_32 rfl ?_
      refine kv_getR (b := 50) dX7_keep_33 kf_X7_22 rfl rfl rfl (hm (45, 5, 50) (by decide)) ?_
      refine kw_iload_n dX7_keep_36 rfl ?_
      refine kv_iald dX7_keep_37 rfl (by omega) (by omega) (congrFun kst_self _) ?_
      refine kv_iast dX7_keep_38 rfl (by omega) (by omega) ?_
      rw [kst_uc (by decide)]
      refine kw_iinc dX7_keep_39 (by decide) rfl ⟨by omega, by omega⟩ trivial (L2 := [some (kA (45)), some (kI (k + 1))]) rfl ?_
      refine kw_goto (tgt := 13) dX7_keep_42 (by decide) ?_
      rw [ek, kPu_s y0.1]
      exact ih (k + 1) ⟨by omega, by omega⟩ (by omega)
def sKeep (n : Int) : Int := if n = 2 then -3 else n + 1
theorem c_mkeep {E : kEnv} {f : Nat → Int → Int} {s : Int → Int} {g : Nat → Int → Option Nat}  (hm : kGM g) (hk : 0 ≤ f 45 9 ∧ f 45 9 ≤ 2) : kF E 0 M_X7_keep [kA (45)] ((kMC ++ kMM), kst f 50 s, g) (some (kI (sKeep (f 45 9)))) ((kMC ++ kMM), if f 45 9 = 2 then kst f 50 s else kst (k_u (kPu f s 52 (29 * f 45 9) 29) 45 9 (f 45 9 + 1)) 50 s, g) := by
  refine kF_of (by decide) (by simp [k_one]) (Nat.le_of_ble_eq_true rfl) (L := [some (kA (45)), none]) rfl ?_
  refine kw_aload_n dX7_keep_0 rfl ?_
  refine kv_getI (kz := 9) dX7_keep_1 kf_X7_87 rfl rfl rfl (congrFun (kst_ne (by decide)) _) ?_
  refine kw_iconst dX7_keep_4 ⟨by decide, by decide⟩ ?_
  refine kw_icmp_ne (tgt := 11) dX7_keep_5 (by decide) (fun h1 => ?_) (fun h1 => ?_)
  · refine kw_iconst dX7_keep_11 ⟨by decide, by decide⟩ ?_
    refine kw_istore_n dX7_keep_12 (by decide) trivial (L2 := [some (kA (45)), some (kI (0))]) rfl ?_
    unfold sKeep
    rw [if_neg (by omega), if_neg (by omega)]
    have ek : (kPu f s 52 (29 * f 45 9) 29) 45 9 = f 45 9 := if_neg (by omega)
    have h := l_mkeep (E := E) (f := f) (s := s) (d := 0) (c := f 45 9) hm ⟨rfl, by omega, by omega⟩ (Q := (fun r h' => r = some (kI (f 45 9 + 1)) ∧ h' = ((kMC ++ kMM), kst (k_u (kPu f s 52 (29 * f 45 9) 29) 45 9 (f 45 9 + 1)) 50 s, g))) ?_ _ 0 ⟨by omega, by omega⟩ (Nat.lt_succ_self _)
    · rw [kPu_0] at h
      exact h
    refine kw_aload_n dX7_keep_45 rfl ?_
    refine kw_dup dX7_keep_46 trivial ?_
    refine kv_getI (kz := 9) dX7_keep_47 kf_X7_87 rfl rfl rfl (congrFun (kst_ne (by decide)) _) ?_
    refine kw_iconst dX7_keep_50 ⟨by decide, by decide⟩ ?_
    refine kw_iadd dX7_keep_51 ⟨by omega, by omega⟩ ?_
    refine kv_putI (kz := 9) dX7_keep_52 kp_X7_87 rfl rfl (fun h => by cases h) rfl ?_
    rw [kst_uc (by decide)]
    refine kw_aload_n dX7_keep_55 rfl ?_
    refine kv_getI (kz := 9) dX7_keep_56 kf_X7_87 rfl rfl rfl ((congrFun (kst_ne (by decide)) _).trans (k_u_self)) ?_
    exact kv_ri dX7_keep_59 rfl (by first | rw [k_u_self, ek] | rw [ek]) (by rw [ek])
  · refine kw_bipush dX7_keep_8 (by decide) (by decide) ?_
    exact kv_ri dX7_keep_10 rfl (Eq.symm (by unfold sKeep; first | (rw [if_neg (by omega)]; done) | (rw [if_pos (by omega)]; done) | rw [if_pos (by omega), if_pos (by omega)] | rw [if_pos (by omega), if_neg (by omega)])) (by first | rw [if_pos (by omega)] | rw [if_neg (by omega)])
theorem l_mback {E : kEnv} {f : Nat → Int → Int} {s : Int → Int} {g : Nat → Int → Option Nat} {d : Nat} {c : Int} {Q : Option kV → kH → Prop} (hm : kGM g) (hc : f 45 9 = c ∧ 0 ≤ c ∧ c ≤ 1) (hx : kW E d 0 0 M_X7_back 54 [some (kA (45)), some (kI (29))] [] ((kMC ++ kMM), kst f 50 (kGt s f 52 (29 * c) 29), g) Q) : ∀ (n : Nat) (k : Int), (0 ≤ k ∧ k ≤ 29) → (29 - k).toNat < n → kW E d 0 0 M_X7_back 22 [some (kA (45)), some (kI (k))] [] ((kMC ++ kMM), kst f 50 (kGt s f 52 (29 * c) k), g) Q := by
  intro n
  induction n with
  | zero => intro k _ q; omega
  | succ n ih =>
    intro k y0 y1
    refine kw_iload_n dX7_back_22 rfl ?_
    refine kw_bipush dX7_back_23 (by decide) (by decide) ?_
    refine kw_icmp_ge (tgt := 54) dX7_back_25 (by decide) (fun h1 => ?_) (fun h1 => ?_)
    · have e1 : k = 29 := by omega
      subst e1
      exact hx
    · refine kw_aload_n dX7_back_28 rfl ?_
      refine kv_getR (b := 50) dX7_back_29 kf_X7_22 rfl rfl rfl (hm (45, 5, 50) (by decide)) ?_
      refine kw_iload_n dX7_back_32 rfl ?_
      refine kw_aload_n dX7_back_33 rfl ?_
      refine kv_getR (b := 52) dX7_back_34 kf_X7_28 rfl rfl rfl (hm (45, 8, 52) (by decide)) ?_
      refine kw_bipush dX7_back_37 (by decide) (by decide) ?_
      refine kw_aload_n dX7_back_39 rfl ?_
      refine kv_getI (kz := 9) dX7_back_40 kf_X7_87 rfl rfl rfl (congrFun (kst_ne (by decide)) _) ?_
      refine kw_imul dX7_back_43 ⟨by omega, by omega⟩ ?_
      refine kw_iload_n dX7_back_44 rfl ?_
      refine kw_iadd dX7_back_45 ⟨by omega, by omega⟩ ?_
      refine kv_iald dX7_back_46 rfl (by omega) (by omega) (congrFun (kst_ne (by decide)) _) ?_
      refine kv_iast dX7_back_47 rfl (by omega) (by omega) ?_
      rw [kst_u]
      refine kw_iinc dX7_back_48 (by decide) rfl ⟨by omega, by omega⟩ trivial (L2 := [some (kA (45)), some (kI (k + 1))]) rfl ?_
      refine kw_goto (tgt := 22) dX7_back_51 (by decide) ?_
      rw [hc.1, kGt_s y0.1]
      exact ih (k + 1) ⟨by omega, by omega⟩ (by omega)
theorem c_mback {E : kEnv} {f : Nat → Int → Int} {s : Int → Int} {g : Nat → Int → Option Nat}  (hm : kGM g) (hk : 0 ≤ f 45 9 ∧ f 45 9 ≤ 2) : kF E 0 M_X7_back [kA (45)] ((kMC ++ kMM), kst f 50 s, g) (some (kI (sUndo (f 45 9)))) ((kMC ++ kMM), if f 45 9 = 0 then kst f 50 s else kst (k_u (k_u f 45 9 (f 45 9 - 1)) 45 7 0) 50 (kGt s f 52 (29 * (f 45 9 - 1)) 29), g) := by
  refine kF_of (by decide) (by simp [k_one]) (Nat.le_of_ble_eq_true rfl) (L := [some (kA (45)), none]) rfl ?_
  refine kw_aload_n dX7_back_0 rfl ?_
  refine kv_getI (kz := 9) dX7_back_1 kf_X7_87 rfl rfl rfl (congrFun (kst_ne (by decide)) _) ?_
  refine kw_if_ne (tgt := 10) dX7_back_4 (by decide) (fun h1 => ?_) (fun h1 => ?_)
  · refine kw_aload_n dX7_back_10 rfl ?_
    refine kw_dup dX7_back_11 trivial ?_
    refine kv_getI (kz := 9) dX7_back_12 kf_X7_87 rfl rfl rfl (congrFun (kst_ne (by decide)) _) ?_
    refine kw_iconst dX7_back_15 ⟨by decide, by decide⟩ ?_
    refine kw_isub dX7_back_16 ⟨by omega, by omega⟩ ?_
    refine kv_putI (kz := 9) dX7_back_17 kp_X7_87 rfl rfl (fun h => by cases h) rfl ?_
    rw [kst_uc (by decide)]
    refine kw_iconst dX7_back_20 ⟨by decide, by decide⟩ ?_
    refine kw_istore_n dX7_back_21 (by decide) trivial (L2 := [some (kA (45)), some (kI (0))]) rfl ?_
    unfold sUndo
    rw [if_neg (by omega), if_neg (by omega)]
    have e1 : kGt s (k_u f 45 9 (f 45 9 - 1)) 52 (29 * (f 45 9 - 1)) 29 = kGt s f 52 (29 * (f 45 9 - 1)) 29 := by
      unfold kGt
      rw [show (k_u f 45 9 (f 45 9 - 1)) 52 = f 52 from funext (fun j => k_u_ne (by omega))]
    have h := l_mback (E := E) (f := (k_u f 45 9 (f 45 9 - 1))) (s := s) (d := 0) (c := f 45 9 - 1) hm ⟨k_u_self, by omega, by omega⟩ (Q := (fun r h' => r = some (kI (f 45 9 - 1)) ∧ h' = ((kMC ++ kMM), kst (k_u (k_u f 45 9 (f 45 9 - 1)) 45 7 0) 50 (kGt s f 52 (29 * (f 45 9 - 1)) 29), g))) ?_ _ 0 ⟨by omega, by omega⟩ (Nat.lt_succ_self _)
    · rw [kGt_0] at h
      exact h
    rw [e1]
    refine kw_aload_n dX7_back_54 rfl ?_
    refine kw_iconst dX7_back_55 ⟨by decide, by decide⟩ ?_
    refine kv_putI (kz := 7) dX7_back_56 kp_X7_84 rfl rfl (fun h => by cases h) rfl ?_
    rw [kst_uc (by decide)]
    refine kw_aload_n dX7_back_59 rfl ?_
    refine kv_getI (kz := 9) dX7_back_60 kf_X7_87 rfl rfl rfl ((congrFun (kst_ne (by decide)) _).trans (k_u_ne2 (by decide))) ?_
    exact kv_ri dX7_back_63 rfl (by first | exact k_u_self | exact (k_u_ne2 (by decide)).trans k_u_self) rfl
  · refine kw_bipush dX7_back_7 (by decide) (by decide) ?_
    exact kv_ri dX7_back_9 rfl (Eq.symm (by unfold sUndo; first | (rw [if_neg (by omega)]; done) | (rw [if_pos (by omega)]; done) | rw [if_pos (by omega), if_pos (by omega)] | rw [if_pos (by omega), if_neg (by omega)])) (by first | rw [if_pos (by omega)] | rw [if_neg (by omega)])
