/-! the model: count, weighs, write, wipe -/
def sGn (s : Int → Int) : Nat → Int
  | 0 => 0
  | n + 1 => sGn s n + s (8 + (n : Int))
theorem sGn_s {s : Int → Int} {i : Int} (h : 0 ≤ i) : sGn s (i + 1).toNat = sGn s i.toNat + s (8 + i) := by
  rw [show (i + 1).toNat = i.toNat + 1 by omega, sGn, k_nat h]
theorem sGn_rng {T s : Int → Int} (hS : mSO T s) : ∀ n : Nat, n ≤ 8 → 0 ≤ sGn s n ∧ sGn s n ≤ n
  | 0, _ => by simp [sGn]
  | n + 1, h => by
    have ih := sGn_rng hS n (by omega)
    have z := (hS.1 n (by omega) (by omega)).1
    rw [sGn]
    omega
def sWg (T s : Int → Int) : Nat → Int
  | 0 => 0
  | n + 1 => sWg T s n + s (8 + (n : Int)) * T (21 + (n : Int))
theorem sWg_s {T s : Int → Int} {i : Int} (h : 0 ≤ i) : sWg T s (i + 1).toNat = sWg T s i.toNat + s (8 + i) * T (21 + i) := by
  rw [show (i + 1).toNat = i.toNat + 1 by omega, sWg, k_nat h]
theorem sWg_rng {T s : Int → Int} (hT : mTO T) (hS : mSO T s) : ∀ n : Nat, n ≤ (T 0).toNat → 0 ≤ sWg T s n ∧ sWg T s n ≤ 20 * n
  | 0, _ => by simp [sWg]
  | n + 1, h => by
    have n0 := hT.1
    have ih := sWg_rng hT hS n (by omega)
    have z := (hS.1 n (by omega) (by omega)).1
    have t := (hT.2.2.2.2.2.1 n (by omega) (by omega)).2.2
    rw [sWg]
    rcases z with z | z
    · rw [z, Int.zero_mul]; omega
    · rw [z, Int.one_mul]; omega
def sCount (T s : Int → Int) (kn kp ty v : Int) : Int := if v = 0 then T 0 else if v = 1 then T 1 else if v = 2 then s 28 else if v = 3 then T 2 else if v = 4 then T 3 else if v = 5 then T 4 else if v = 6 then sGn s (T 0).toNat else if v = 7 then kn else if v = 8 then kp else if v = 9 then ty else -1
def sWrite (ty v : Int) : Int := if 32 ≤ v ∧ v ≤ 126 then (if ty = 200 then -3 else ty + 1) else -1
theorem l_mcount {E : kEnv} {f : Nat → Int → Int} {s : Int → Int} {g : Nat → Int → Option Nat} {v : Int} (hm : kGM g) (hT : mTO (f 47)) (hS : mSO (f 47) s) (h28 : 0 ≤ s 28 ∧ s 28 ≤ 99) : ∀ (n : Nat) (b : Int), (0 ≤ b ∧ b ≤ f 47 0) → (f 47 0 - b).toNat < n → kW E 0 0 0 M_X7_count 4 [some (kA (45)), some (kI (v)), some (kI (sGn s b.toNat)), some (kI (b))] [] ((kMC ++ kMM), kst f 50 s, g) (fun r h' => r = some (kI (sCount (f 47) s (f 45 7) (f 45 9) (f 45 1) v)) ∧ h' = ((kMC ++ kMM), kst f 50 s, g)) := by
  intro n
  induction n with
  | zero => intro b _ y; omega
  | succ n ih =>
    intro b y0 y1
    have n0 := hT.1
    have n1 := hT.2.1
    have qw := sGn_rng hS b.toNat (by omega)
    have gb : ∀ _ : Unit, 0 ≤ b → b < f 47 0 → s (8 + b) = 0 ∨ s (8 + b) = 1 := fun _ x y => (hS.1 b x (by omega)).1
    refine kw_iload_n dX7_count_4 rfl ?_
    refine kw_aload_n dX7_count_5 rfl ?_
    refine kv_getR (b := 47) dX7_count_6 kf_X7_13 rfl rfl rfl (hm (45, 2, 47) (by decide)) ?_
    refine kw_iconst dX7_count_9 ⟨by decide, by decide⟩ ?_
    refine kv_iald dX7_count_10 rfl (by omega) (by omega) (congrFun (kst_ne (by decide)) _) ?_
    refine kw_icmp_ge (tgt := 32) dX7_count_11 (by decide) (fun h1 => ?_) (fun h1 => ?_)
    · refine kw_iload_n dX7_count_32 rfl ?_
      rcases (show v = 0 ∨ v = 1 ∨ v = 2 ∨ v = 3 ∨ v = 4 ∨ v = 5 ∨ v = 6 ∨ v = 7 ∨ v = 8 ∨ v = 9 ∨ (v < 0 ∨ 9 < v) by omega) with h2 | h2 | h2 | h2 | h2 | h2 | h2 | h2 | h2 | h2 | h2
      · refine kw_tblIn (off := 55) (tgt := 88) dX7_count_33 (by omega) (by omega) (by rw [h2]; rfl) (by decide) ?_
        refine kw_aload_n dX7_count_88 rfl ?_
        refine kv_getR (b := 47) dX7_count_89 kf_X7_13 rfl rfl rfl (hm (45, 2, 47) (by decide)) ?_
        refine kw_iconst dX7_count_92 ⟨by decide, by decide⟩ ?_
        refine kv_iald dX7_count_93 rfl (by omega) (by omega) (congrFun (kst_ne (by decide)) _) ?_
        refine kv_ri dX7_count_94 rfl (Eq.symm ?_) rfl
        unfold sCount
        repeat rw [if_neg (by omega)]
        try rw [if_pos (by omega)]
        all_goals first
          | rfl
          | rw [show b = f 47 0 by omega]
      · refine kw_tblIn (off := 62) (tgt := 95) dX7_count_33 (by omega) (by omega) (by rw [h2]; rfl) (by decide) ?_
        refine kw_aload_n dX7_count_95 rfl ?_
        refine kv_getR (b := 47) dX7_count_96 kf_X7_13 rfl rfl rfl (hm (45, 2, 47) (by decide)) ?_
        refine kw_iconst dX7_count_99 ⟨by decide, by decide⟩ ?_
        refine kv_iald dX7_count_100 rfl (by omega) (by omega) (congrFun (kst_ne (by decide)) _) ?_
        refine kv_ri dX7_count_101 rfl (Eq.symm ?_) rfl
        unfold sCount
        repeat rw [if_neg (by omega)]
        try rw [if_pos (by omega)]
        all_goals first
          | rfl
          | rw [show b = f 47 0 by omega]
      · refine kw_tblIn (off := 69) (tgt := 102) dX7_count_33 (by omega) (by omega) (by rw [h2]; rfl) (by decide) ?_
        refine kw_aload_n dX7_count_102 rfl ?_
        refine kv_getR (b := 50) dX7_count_103 kf_X7_22 rfl rfl rfl (hm (45, 5, 50) (by decide)) ?_
        refine kw_bipush dX7_count_106 (by decide) (by decide) ?_
        refine kv_iald dX7_count_108 rfl (by omega) (by omega) (congrFun kst_self _) ?_
        refine kv_ri dX7_count_109 rfl (Eq.symm ?_) rfl
        unfold sCount
        repeat rw [if_neg (by omega)]
        try rw [if_pos (by omega)]
        all_goals first
          | rfl
          | rw [show b = f 47 0 by omega]
      · refine kw_tblIn (off := 77) (tgt := 110) dX7_count_33 (by omega) (by omega) (by rw [h2]; rfl) (by decide) ?_
        refine kw_aload_n dX7_count_110 rfl ?_
        refine kv_getR (b := 47) dX7_count_111 kf_X7_13 rfl rfl rfl (hm (45, 2, 47) (by decide)) ?_
        refine kw_iconst dX7_count_114 ⟨by decide, by decide⟩ ?_
        refine kv_iald dX7_count_115 rfl (by omega) (by omega) (congrFun (kst_ne (by decide)) _) ?_
        refine kv_ri dX7_count_116 rfl (Eq.symm ?_) rfl
        unfold sCount
        repeat rw [if_neg (by omega)]
        try rw [if_pos (by omega)]
        all_goals first
          | rfl
          | rw [show b = f 47 0 by omega]
      · refine kw_tblIn (off := 84) (tgt := 117) dX7_count_33 (by omega) (by omega) (by rw [h2]; rfl) (by decide) ?_
        refine kw_aload_n dX7_count_117 rfl ?_
        refine kv_getR (b := 47) dX7_count_118 kf_X7_13 rfl rfl rfl (hm (45, 2, 47) (by decide)) ?_
        refine kw_iconst dX7_count_121 ⟨by decide, by decide⟩ ?_
        refine kv_iald dX7_count_122 rfl (by omega) (by omega) (congrFun (kst_ne (by decide)) _) ?_
        refine kv_ri dX7_count_123 rfl (Eq.symm ?_) rfl
        unfold sCount
        repeat rw [if_neg (by omega)]
        try rw [if_pos (by omega)]
        all_goals first
          | rfl
          | rw [show b = f 47 0 by omega]
      · refine kw_tblIn (off := 91) (tgt := 124) dX7_count_33 (by omega) (by omega) (by rw [h2]; rfl) (by decide) ?_
        refine kw_aload_n dX7_count_124 rfl ?_
        refine kv_getR (b := 47) dX7_count_125 kf_X7_13 rfl rfl rfl (hm (45, 2, 47) (by decide)) ?_
        refine kw_iconst dX7_count_128 ⟨by decide, by decide⟩ ?_
        refine kv_iald dX7_count_129 rfl (by omega) (by omega) (congrFun (kst_ne (by decide)) _) ?_
        refine kv_ri dX7_count_130 rfl (Eq.symm ?_) rfl
        unfold sCount
        repeat rw [if_neg (by omega)]
        try rw [if_pos (by omega)]
        all_goals first
          | rfl
          | rw [show b = f 47 0 by omega]
      · refine kw_tblIn (off := 98) (tgt := 131) dX7_count_33 (by omega) (by omega) (by rw [h2]; rfl) (by decide) ?_
        refine kw_iload_n dX7_count_131 rfl ?_
        refine kv_ri dX7_count_132 rfl (Eq.symm ?_) rfl
        unfold sCount
        repeat rw [if_neg (by omega)]
        try rw [if_pos (by omega)]
        all_goals first
          | rfl
          | rw [show b = f 47 0 by omega]
      · refine kw_tblIn (off := 100) (tgt := 133) dX7_count_33 (by omega) (by omega) (by rw [h2]; rfl) (by decide) ?_
        refine kw_aload_n dX7_count_133 rfl ?_
        refine kv_getI (kz := 7) dX7_count_134 kf_X7_84 rfl rfl rfl (congrFun (kst_ne (by decide)) _) ?_
        refine kv_ri dX7_count_137 rfl (Eq.symm ?_) rfl
        unfold sCount
        repeat rw [if_neg (by omega)]
        try rw [if_pos (by omega)]
        all_goals first
          | rfl
          | rw [show b = f 47 0 by omega]
      · refine kw_tblIn (off := 105) (tgt := 138) dX7_count_33 (by omega) (by omega) (by rw [h2]; rfl) (by decide) ?_
        refine kw_aload_n dX7_count_138 rfl ?_
        refine kv_getI (kz := 9) dX7_count_139 kf_X7_87 rfl rfl rfl (congrFun (kst_ne (by decide)) _) ?_
        refine kv_ri dX7_count_142 rfl (Eq.symm ?_) rfl
        unfold sCount
        repeat rw [if_neg (by omega)]
        try rw [if_pos (by omega)]
        all_goals first
          | rfl
          | rw [show b = f 47 0 by omega]
      · refine kw_tblIn (off := 110) (tgt := 143) dX7_count_33 (by omega) (by omega) (by rw [h2]; rfl) (by decide) ?_
        refine kw_aload_n dX7_count_143 rfl ?_
        refine kv_getI (kz := 1) dX7_count_144 kf_X7_58 rfl rfl rfl (congrFun (kst_ne (by decide)) _) ?_
        refine kv_ri dX7_count_147 rfl (Eq.symm ?_) rfl
        unfold sCount
        repeat rw [if_neg (by omega)]
        try rw [if_pos (by omega)]
        all_goals first
          | rfl
          | rw [show b = f 47 0 by omega]
      · refine kw_tblOut (tgt := 148) dX7_count_33 (by omega) (by decide) ?_
        refine kw_iconst dX7_count_148 ⟨by decide, by decide⟩ ?_
        refine kv_ri dX7_count_149 rfl (Eq.symm ?_) rfl
        unfold sCount
        repeat rw [if_neg (by omega)]
        try rw [if_pos (by omega)]
        all_goals first
          | rfl
          | rw [show b = f 47 0 by omega]
    · refine kw_iload_n dX7_count_14 rfl ?_
      refine kw_aload_n dX7_count_15 rfl ?_
      refine kv_getR (b := 50) dX7_count_16 kf_X7_22 rfl rfl rfl (hm (45, 5, 50) (by decide)) ?_
      refine kw_bipush dX7_count_19 (by decide) (by decide) ?_
      refine kw_iload_n dX7_count_21 rfl ?_
      refine kw_iadd dX7_count_22 ⟨by omega, by omega⟩ ?_
      refine kv_iald dX7_count_23 rfl (by omega) (by omega) (congrFun kst_self _) ?_
      have gb0 := gb () y0.1 (by omega)
      refine kw_iadd dX7_count_24 ⟨by omega, by omega⟩ ?_
      refine kw_istore_n dX7_count_25 (by decide) trivial (L2 := [some (kA (45)), some (kI (v)), some (kI ((sGn s b.toNat) + (s (8 + b)))), some (kI (b))]) rfl ?_
      refine kw_iinc dX7_count_26 (by decide) rfl ⟨by omega, by omega⟩ trivial (L2 := [some (kA (45)), some (kI (v)), some (kI ((sGn s b.toNat) + (s (8 + b)))), some (kI (b + 1))]) rfl ?_
      refine kw_goto (tgt := 4) dX7_count_29 (by decide) ?_
      rw [← sGn_s y0.1]
      exact ih (b + 1) ⟨by omega, by omega⟩ (by omega)
theorem c_mcount {E : kEnv} {f : Nat → Int → Int} {s : Int → Int} {g : Nat → Int → Option Nat} {v : Int} (hm : kGM g) (hT : mTO (f 47)) (hS : mSO (f 47) s) (h28 : 0 ≤ s 28 ∧ s 28 ≤ 99) : kF E 0 M_X7_count [kA (45), kI (v)] ((kMC ++ kMM), kst f 50 s, g) (some (kI (sCount (f 47) s (f 45 7) (f 45 9) (f 45 1) v))) ((kMC ++ kMM), kst f 50 s, g) := by
  refine kF_of (by decide) (by simp [k_one]) (Nat.le_of_ble_eq_true rfl) (L := [some (kA (45)), some (kI (v)), none, none]) rfl ?_
  have n0 := hT.1
  have n1 := hT.2.1
  refine kw_iconst dX7_count_0 ⟨by decide, by decide⟩ ?_
  refine kw_istore_n dX7_count_1 (by decide) trivial (L2 := [some (kA (45)), some (kI (v)), some (kI (0)), none]) rfl ?_
  refine kw_iconst dX7_count_2 ⟨by decide, by decide⟩ ?_
  refine kw_istore_n dX7_count_3 (by decide) trivial (L2 := [some (kA (45)), some (kI (v)), some (kI (0)), some (kI (0))]) rfl ?_
  exact l_mcount hm hT hS h28 _ 0 ⟨by omega, by omega⟩ (Nat.lt_succ_self _)
theorem l_mweighs {E : kEnv} {f : Nat → Int → Int} {s : Int → Int} {g : Nat → Int → Option Nat}  (hm : kGM g) (hT : mTO (f 47)) (hS : mSO (f 47) s) : ∀ (n : Nat) (b : Int), (0 ≤ b ∧ b ≤ f 47 0) → (f 47 0 - b).toNat < n → kW E 0 0 0 M_X7_weighs 4 [some (kA (45)), some (kI (sWg (f 47) s b.toNat)), some (kI (b))] [] ((kMC ++ kMM), kst f 50 s, g) (fun r h' => r = some (kI (sWg (f 47) s (f 47 0).toNat)) ∧ h' = ((kMC ++ kMM), kst f 50 s, g)) := by
  intro n
  induction n with
  | zero => intro b _ y; omega
  | succ n ih =>
    intro b y0 y1
    have n0 := hT.1
    have n1 := hT.2.1
    have qw := sWg_rng hT hS b.toNat (by omega)
    have gb : ∀ _ : Unit, 0 ≤ b → b < f 47 0 → 0 ≤ s (8 + b) * f 47 (21 + b) ∧ s (8 + b) * f 47 (21 + b) ≤ 20 := fun _ x y => by
      have z := (hS.1 b x (by omega)).1
      have t := (hT.2.2.2.2.2.1 b x y).2.2
      rcases z with z | z
      · rw [z, Int.zero_mul]; omega
      · rw [z, Int.one_mul]; omega
    refine kw_iload_n dX7_weighs_4 rfl ?_
    refine kw_aload_n dX7_weighs_5 rfl ?_
    refine kv_getR (b := 47) dX7_weighs_6 kf_X7_13 rfl rfl rfl (hm (45, 2, 47) (by decide)) ?_
    refine kw_iconst dX7_weighs_9 ⟨by decide, by decide⟩ ?_
    refine kv_iald dX7_weighs_10 rfl (by omega) (by omega) (congrFun (kst_ne (by decide)) _) ?_
    refine kw_icmp_ge (tgt := 42) dX7_weighs_11 (by decide) (fun h1 => ?_) (fun h1 => ?_)
    · refine kw_iload_n dX7_weighs_42 rfl ?_
      exact kv_ri dX7_weighs_43 rfl (by rw [show b = f 47 0 by omega]) rfl
    · refine kw_iload_n dX7_weighs_14 rfl ?_
      refine kw_aload_n dX7_weighs_15 rfl ?_
      refine kv_getR (b := 50) dX7_weighs_16 kf_X7_22 rfl rfl rfl (hm (45, 5, 50) (by decide)) ?_
      refine kw_bipush dX7_weighs_19 (by decide) (by decide) ?_
      refine kw_iload_n dX7_weighs_21 rfl ?_
      refine kw_iadd dX7_weighs_22 ⟨by omega, by omega⟩ ?_
      refine kv_iald dX7_weighs_23 rfl (by omega) (by omega) (congrFun kst_self _) ?_
      refine kw_aload_n dX7_weighs_24 rfl ?_
      refine kv_getR (b := 47) dX7_weighs_25 kf_X7_13 rfl rfl rfl (hm (45, 2, 47) (by decide)) ?_
      refine kw_bipush dX7_weighs_28 (by decide) (by decide) ?_
      refine kw_iload_n dX7_weighs_30 rfl ?_
      refine kw_iadd dX7_weighs_31 ⟨by omega, by omega⟩ ?_
      refine kv_iald dX7_weighs_32 rfl (by omega) (by omega) (congrFun (kst_ne (by decide)) _) ?_
      have gb0 := gb () y0.1 (by omega)
      refine kw_imul dX7_weighs_33 ⟨by omega, by omega⟩ ?_
      refine kw_iadd dX7_weighs_34 ⟨by omega, by omega⟩ ?_
      refine kw_istore_n dX7_weighs_35 (by decide) trivial (L2 := [some (kA (45)), some (kI ((sWg (f 47) s b.toNat) + ((s (8 + b)) * (f 47 (21 + b))))), some (kI (b))]) rfl ?_
      refine kw_iinc dX7_weighs_36 (by decide) rfl ⟨by omega, by omega⟩ trivial (L2 := [some (kA (45)), some (kI ((sWg (f 47) s b.toNat) + ((s (8 + b)) * (f 47 (21 + b))))), some (kI (b + 1))]) rfl ?_
      refine kw_goto (tgt := 4) dX7_weighs_39 (by decide) ?_
      rw [← sWg_s y0.1]
      exact ih (b + 1) ⟨by omega, by omega⟩ (by omega)
theorem c_mweighs {E : kEnv} {f : Nat → Int → Int} {s : Int → Int} {g : Nat → Int → Option Nat}  (hm : kGM g) (hT : mTO (f 47)) (hS : mSO (f 47) s) : kF E 0 M_X7_weighs [kA (45)] ((kMC ++ kMM), kst f 50 s, g) (some (kI (sWg (f 47) s (f 47 0).toNat))) ((kMC ++ kMM), kst f 50 s, g) := by
  refine kF_of (by decide) (by simp [k_one]) (Nat.le_of_ble_eq_true rfl) (L := [some (kA (45)), none, none]) rfl ?_
  have n0 := hT.1
  have n1 := hT.2.1
  refine kw_iconst dX7_weighs_0 ⟨by decide, by decide⟩ ?_
  refine kw_istore_n dX7_weighs_1 (by decide) trivial (L2 := [some (kA (45)), some (kI (0)), none]) rfl ?_
  refine kw_iconst dX7_weighs_2 ⟨by decide, by decide⟩ ?_
  refine kw_istore_n dX7_weighs_3 (by decide) trivial (L2 := [some (kA (45)), some (kI (0)), some (kI (0))]) rfl ?_
  exact l_mweighs hm hT hS _ 0 ⟨by omega, by omega⟩ (Nat.lt_succ_self _)
theorem c_mwrite {E : kEnv} {f : Nat → Int → Int} {s : Int → Int} {g : Nat → Int → Option Nat} {v : Int} (hm : kGM g) (ht : 0 ≤ f 45 1 ∧ f 45 1 ≤ 200) : kF E 1 M_X7_write [kA (45), kI (v)] ((kMC ++ kMM), kst f 50 s, g) (some (kI (sWrite (f 45 1) v))) ((kMC ++ kMM), if (32 ≤ v ∧ v ≤ 126) ∧ f 45 1 ≠ 200 then kst (k_u (k_u f 46 (f 45 1) v) 45 1 (f 45 1 + 1)) 50 s else kst f 50 s, g) := by
  refine kF_of (by decide) (by simp [k_one]) (Nat.le_of_ble_eq_true rfl) (L := [some (kA (45)), some (kI (v))]) rfl ?_
  refine kw_iload_n dX7_write_0 rfl ?_
  refine kw_bipush dX7_write_1 (by decide) (by decide) ?_
  refine kw_bipush dX7_write_3 (by decide) (by decide) ?_
  refine kv_callS1 (M2 := M_X7_in) (As := [kI (v), kI (32), kI (126)]) dX7_write_5 ml_X7_54 q_X7_in rfl (Nat.le_of_ble_eq_true rfl) (c_min) (by omega) ?_
  refine kv_ifneB (tgt := 13) dX7_write_8 (by decide) (fun h1 => ?_) (fun h1 => ?_)
  · refine kw_aload_n dX7_write_13 rfl ?_
    refine kv_getI (kz := 1) dX7_write_14 kf_X7_58 rfl rfl rfl (congrFun (kst_ne (by decide)) _) ?_
    refine kw_sipush dX7_write_17 (by decide) (by decide) ?_
    refine kw_icmp_ne (tgt := 26) dX7_write_20 (by decide) (fun h2 => ?_) (fun h2 => ?_)
    · refine kw_aload_n dX7_write_26 rfl ?_
      refine kv_getR (b := 46) dX7_write_27 kf_X7_7 rfl rfl rfl (hm (45, 0, 46) (by decide)) ?_
      refine kw_aload_n dX7_write_30 rfl ?_
      refine kv_getI (kz := 1) dX7_write_31 kf_X7_58 rfl rfl rfl (congrFun (kst_ne (by decide)) _) ?_
      refine kw_iload_n dX7_write_34 rfl ?_
      refine kv_iast dX7_write_35 rfl (by omega) (by omega) ?_
      rw [kst_uc (by decide)]
      refine kw_aload_n dX7_write_36 rfl ?_
      refine kw_dup dX7_write_37 trivial ?_
      refine kv_getI (kz := 1) dX7_write_38 kf_X7_58 rfl rfl rfl ((congrFun (kst_ne (by decide)) _).trans (k_u_ne (by omega))) ?_
      refine kw_iconst dX7_write_41 ⟨by decide, by decide⟩ ?_
      refine kw_iadd dX7_write_42 ⟨by omega, by omega⟩ ?_
      refine kv_putI (kz := 1) dX7_write_43 kp_X7_58 rfl rfl (fun h => by cases h) rfl ?_
      rw [kst_uc (by decide)]
      refine kw_aload_n dX7_write_46 rfl ?_
      refine kv_getI (kz := 1) dX7_write_47 kf_X7_58 rfl rfl rfl ((congrFun (kst_ne (by decide)) _).trans (k_u_self)) ?_
      exact kv_ri dX7_write_50 rfl (Eq.symm (by unfold sWrite; first | (rw [if_neg (by omega)]; done) | (rw [if_pos (by omega)]; done) | rw [if_pos (by omega), if_pos (by omega)] | rw [if_pos (by omega), if_neg (by omega)])) (by first | rw [if_pos (by omega)] | rw [if_neg (by omega)])
    · refine kw_bipush dX7_write_23 (by decide) (by decide) ?_
      exact kv_ri dX7_write_25 rfl (Eq.symm (by unfold sWrite; first | (rw [if_neg (by omega)]; done) | (rw [if_pos (by omega)]; done) | rw [if_pos (by omega), if_pos (by omega)] | rw [if_pos (by omega), if_neg (by omega)])) (by first | rw [if_pos (by omega)] | rw [if_neg (by omega)])
  · refine kw_iconst dX7_write_11 ⟨by decide, by decide⟩ ?_
    exact kv_ri dX7_write_12 rfl (Eq.symm (by unfold sWrite; first | (rw [if_neg (by omega)]; done) | (rw [if_pos (by omega)]; done) | rw [if_pos (by omega), if_pos (by omega)] | rw [if_pos (by omega), if_neg (by omega)])) (by first | rw [if_pos (by omega)] | rw [if_neg (by omega)])
theorem c_mwipe {E : kEnv} {f : Nat → Int → Int} {s : Int → Int} {g : Nat → Int → Option Nat}  (hm : kGM g)  : kF E 0 M_X7_wipe [kA (45)] ((kMC ++ kMM), kst f 50 s, g) (some (kI (f 45 1))) ((kMC ++ kMM), kst (k_u f 45 1 0) 50 s, g) := by
  refine kF_of (by decide) (by simp [k_one]) (Nat.le_of_ble_eq_true rfl) (L := [some (kA (45)), none]) rfl ?_
  refine kw_aload_n dX7_wipe_0 rfl ?_
  refine kv_getI (kz := 1) dX7_wipe_1 kf_X7_58 rfl rfl rfl (congrFun (kst_ne (by decide)) _) ?_
  refine kw_istore_n dX7_wipe_4 (by decide) trivial (L2 := [some (kA (45)), some (kI (f 45 1))]) rfl ?_
  refine kw_aload_n dX7_wipe_5 rfl ?_
  refine kw_iconst dX7_wipe_6 ⟨by decide, by decide⟩ ?_
  refine kv_putI (kz := 1) dX7_wipe_7 kp_X7_58 rfl rfl (fun h => by cases h) rfl ?_
  rw [kst_uc (by decide)]
  refine kw_iload_n dX7_wipe_10 rfl ?_
  exact kv_ri dX7_wipe_11 rfl rfl rfl
