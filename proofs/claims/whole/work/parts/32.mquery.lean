/-! the model's calls that change nothing -/
theorem c_mbough {E : kEnv} {f : Nat → Int → Int} {s : Int → Int} {g : Nat → Int → Option Nat} {b v : Int} (hm : kGM g) (hT : mTO (f 47)) (hS : mSO (f 47) s) (h28 : 0 ≤ s 28 ∧ s 28 ≤ 99) : kF E 2 M_X7_bough [kA (45), kI (b), kI (v)] ((kMC ++ kMM), kst f 50 s, g) (some (kI (sBough (f 47) s b v))) ((kMC ++ kMM), kst f 50 s, g) := by
  refine kF_of (by decide) (by simp [k_one]) (Nat.le_of_ble_eq_true rfl) (L := [some (kA (45)), some (kI (b)), some (kI (v))]) rfl ?_
  have n0 := hT.1
  have n1 := hT.2.1
  have n4 := hT.2.2.2.2.1
  have kb : ∀ _ : Unit, 0 ≤ b → b < f 47 0 → -60 ≤ s b ∧ s b ≤ 200 := fun _ x y => hS.2.1 b x y
  refine kw_aload_n dX7_bough_0 rfl ?_
  refine kw_iload_n dX7_bough_1 rfl ?_
  refine kv_callV1 (M2 := M_X7_isBough) (As := [kI (b)]) dX7_bough_2 ml_X7_90 q_X7_isBough rfl rfl rfl (Nat.le_of_ble_eq_true rfl) (c_misBough hm hT) (by omega) ?_
  refine kv_ifneB (tgt := 10) dX7_bough_5 (by decide) (fun h1 => ?_) (fun h1 => ?_)
  · refine kw_iload_n dX7_bough_10 rfl ?_
    rcases (show v = 0 ∨ v = 1 ∨ v = 2 ∨ v = 3 ∨ v = 4 ∨ v = 5 ∨ v = 6 ∨ (v < 0 ∨ 6 < v) by omega) with h2 | h2 | h2 | h2 | h2 | h2 | h2 | h2
    · refine kw_tblIn (off := 41) (tgt := 52) dX7_bough_11 (by omega) (by omega) (by rw [h2]; rfl) (by decide) ?_
      refine kw_aload_n dX7_bough_52 rfl ?_
      refine kv_getR (b := 47) dX7_bough_53 kf_X7_13 rfl rfl rfl (hm (45, 2, 47) (by decide)) ?_
      refine kw_iconst dX7_bough_56 ⟨by decide, by decide⟩ ?_
      refine kw_iload_n dX7_bough_57 rfl ?_
      refine kw_iadd dX7_bough_58 ⟨by omega, by omega⟩ ?_
      refine kv_iald dX7_bough_59 rfl (by omega) (by omega) (congrFun (kst_ne (by decide)) _) ?_
      refine kv_ri dX7_bough_60 rfl (Eq.symm ?_) rfl
      unfold sBough
      rw [if_pos (by omega)]
      repeat rw [if_neg (by omega)]
      try rw [if_pos (by omega)]
      all_goals first
        | rfl
        | omega
        | rw [if_pos (by assumption)]
        | rw [if_neg (by assumption)]
        | rw [if_neg (by omega)]
    · refine kw_tblIn (off := 50) (tgt := 61) dX7_bough_11 (by omega) (by omega) (by rw [h2]; rfl) (by decide) ?_
      refine kw_aload_n dX7_bough_61 rfl ?_
      refine kv_getR (b := 47) dX7_bough_62 kf_X7_13 rfl rfl rfl (hm (45, 2, 47) (by decide)) ?_
      refine kw_bipush dX7_bough_65 (by decide) (by decide) ?_
      refine kw_iload_n dX7_bough_67 rfl ?_
      refine kw_iadd dX7_bough_68 ⟨by omega, by omega⟩ ?_
      refine kv_iald dX7_bough_69 rfl (by omega) (by omega) (congrFun (kst_ne (by decide)) _) ?_
      refine kv_ri dX7_bough_70 rfl (Eq.symm ?_) rfl
      unfold sBough
      rw [if_pos (by omega)]
      repeat rw [if_neg (by omega)]
      try rw [if_pos (by omega)]
      all_goals first
        | rfl
        | omega
        | rw [if_pos (by assumption)]
        | rw [if_neg (by assumption)]
        | rw [if_neg (by omega)]
    · refine kw_tblIn (off := 60) (tgt := 71) dX7_bough_11 (by omega) (by omega) (by rw [h2]; rfl) (by decide) ?_
      refine kw_aload_n dX7_bough_71 rfl ?_
      refine kv_getR (b := 47) dX7_bough_72 kf_X7_13 rfl rfl rfl (hm (45, 2, 47) (by decide)) ?_
      refine kw_bipush dX7_bough_75 (by decide) (by decide) ?_
      refine kw_iload_n dX7_bough_77 rfl ?_
      refine kw_iadd dX7_bough_78 ⟨by omega, by omega⟩ ?_
      refine kv_iald dX7_bough_79 rfl (by omega) (by omega) (congrFun (kst_ne (by decide)) _) ?_
      refine kv_ri dX7_bough_80 rfl (Eq.symm ?_) rfl
      unfold sBough
      rw [if_pos (by omega)]
      repeat rw [if_neg (by omega)]
      try rw [if_pos (by omega)]
      all_goals first
        | rfl
        | omega
        | rw [if_pos (by assumption)]
        | rw [if_neg (by assumption)]
        | rw [if_neg (by omega)]
    · refine kw_tblIn (off := 70) (tgt := 81) dX7_bough_11 (by omega) (by omega) (by rw [h2]; rfl) (by decide) ?_
      refine kw_aload_n dX7_bough_81 rfl ?_
      refine kv_getR (b := 50) dX7_bough_82 kf_X7_22 rfl rfl rfl (hm (45, 5, 50) (by decide)) ?_
      refine kw_iload_n dX7_bough_85 rfl ?_
      refine kv_iald dX7_bough_86 rfl (by omega) (by omega) (congrFun kst_self _) ?_
      refine kv_ri dX7_bough_87 rfl (Eq.symm ?_) rfl
      unfold sBough
      rw [if_pos (by omega)]
      repeat rw [if_neg (by omega)]
      try rw [if_pos (by omega)]
      all_goals first
        | rfl
        | omega
        | rw [if_pos (by assumption)]
        | rw [if_neg (by assumption)]
        | rw [if_neg (by omega)]
    · refine kw_tblIn (off := 77) (tgt := 88) dX7_bough_11 (by omega) (by omega) (by rw [h2]; rfl) (by decide) ?_
      refine kw_aload_n dX7_bough_88 rfl ?_
      refine kw_iload_n dX7_bough_89 rfl ?_
      refine kw_aload_n dX7_bough_90 rfl ?_
      refine kv_getR (b := 50) dX7_bough_91 kf_X7_22 rfl rfl rfl (hm (45, 5, 50) (by decide)) ?_
      refine kw_bipush dX7_bough_94 (by decide) (by decide) ?_
      refine kv_iald dX7_bough_96 rfl (by omega) (by omega) (congrFun kst_self _) ?_
      refine kv_callV1 (M2 := M_X7_isDead) (As := [kI (b), kI (s 28)]) dX7_bough_97 ml_X7_93 q_X7_isDead rfl rfl rfl (Nat.le_of_ble_eq_true rfl) (c_misDead hm (by omega)) (by omega) ?_
      refine kv_ifeqB (tgt := 107) dX7_bough_100 (by decide) (fun h3 => ?_) (fun h3 => ?_)
      · refine kw_iconst dX7_bough_107 ⟨by decide, by decide⟩ ?_
        refine kv_ri dX7_bough_108 rfl (Eq.symm ?_) rfl
        unfold sBough
        rw [if_pos (by omega)]
        repeat rw [if_neg (by omega)]
        try rw [if_pos (by omega)]
        all_goals first
          | rfl
          | omega
          | rw [if_pos (by assumption)]
          | rw [if_neg (by assumption)]
          | rw [if_neg (by omega)]
      · refine kw_iconst dX7_bough_103 ⟨by decide, by decide⟩ ?_
        refine kw_goto (tgt := 108) dX7_bough_104 (by decide) ?_
        refine kv_ri dX7_bough_108 rfl (Eq.symm ?_) rfl
        unfold sBough
        rw [if_pos (by omega)]
        repeat rw [if_neg (by omega)]
        try rw [if_pos (by omega)]
        all_goals first
          | rfl
          | omega
          | rw [if_pos (by assumption)]
          | rw [if_neg (by assumption)]
          | rw [if_neg (by omega)]
    · refine kw_tblIn (off := 98) (tgt := 109) dX7_bough_11 (by omega) (by omega) (by rw [h2]; rfl) (by decide) ?_
      refine kw_aload_n dX7_bough_109 rfl ?_
      refine kw_iload_n dX7_bough_110 rfl ?_
      refine kw_aload_n dX7_bough_111 rfl ?_
      refine kv_getR (b := 50) dX7_bough_112 kf_X7_22 rfl rfl rfl (hm (45, 5, 50) (by decide)) ?_
      refine kw_bipush dX7_bough_115 (by decide) (by decide) ?_
      refine kv_iald dX7_bough_117 rfl (by omega) (by omega) (congrFun kst_self _) ?_
      refine kv_callV1 (M2 := M_X7_isFallen) (As := [kI (b), kI (s 28)]) dX7_bough_118 ml_X7_97 q_X7_isFallen rfl rfl rfl (Nat.le_of_ble_eq_true rfl) (c_misFallen hm hT (by omega) (by have z := kb () (by omega) (by omega); omega)) (by omega) ?_
      refine kv_ifeqB (tgt := 128) dX7_bough_121 (by decide) (fun h4 => ?_) (fun h4 => ?_)
      · refine kw_iconst dX7_bough_128 ⟨by decide, by decide⟩ ?_
        refine kv_ri dX7_bough_129 rfl (Eq.symm ?_) rfl
        unfold sBough
        rw [if_pos (by omega)]
        repeat rw [if_neg (by omega)]
        try rw [if_pos (by omega)]
        all_goals first
          | rfl
          | omega
          | rw [if_pos (by assumption)]
          | rw [if_neg (by assumption)]
          | rw [if_neg (by omega)]
      · refine kw_iconst dX7_bough_124 ⟨by decide, by decide⟩ ?_
        refine kw_goto (tgt := 129) dX7_bough_125 (by decide) ?_
        refine kv_ri dX7_bough_129 rfl (Eq.symm ?_) rfl
        unfold sBough
        rw [if_pos (by omega)]
        repeat rw [if_neg (by omega)]
        try rw [if_pos (by omega)]
        all_goals first
          | rfl
          | omega
          | rw [if_pos (by assumption)]
          | rw [if_neg (by assumption)]
          | rw [if_neg (by omega)]
    · refine kw_tblIn (off := 119) (tgt := 130) dX7_bough_11 (by omega) (by omega) (by rw [h2]; rfl) (by decide) ?_
      refine kw_aload_n dX7_bough_130 rfl ?_
      refine kv_getR (b := 50) dX7_bough_131 kf_X7_22 rfl rfl rfl (hm (45, 5, 50) (by decide)) ?_
      refine kw_bipush dX7_bough_134 (by decide) (by decide) ?_
      refine kw_iload_n dX7_bough_136 rfl ?_
      refine kw_iadd dX7_bough_137 ⟨by omega, by omega⟩ ?_
      refine kv_iald dX7_bough_138 rfl (by omega) (by omega) (congrFun kst_self _) ?_
      refine kv_ri dX7_bough_139 rfl (Eq.symm ?_) rfl
      unfold sBough
      rw [if_pos (by omega)]
      repeat rw [if_neg (by omega)]
      try rw [if_pos (by omega)]
      all_goals first
        | rfl
        | omega
        | rw [if_pos (by assumption)]
        | rw [if_neg (by assumption)]
        | rw [if_neg (by omega)]
    · refine kw_tblOut (tgt := 140) dX7_bough_11 (by omega) (by decide) ?_
      refine kw_iconst dX7_bough_140 ⟨by decide, by decide⟩ ?_
      exact kv_ri dX7_bough_141 rfl (Eq.symm (by unfold sBough; first | (rw [if_neg (by omega)]; done) | (rw [if_pos (by omega)]; repeat rw [if_neg (by omega)]))) rfl
  · refine kw_iconst dX7_bough_8 ⟨by decide, by decide⟩ ?_
    exact kv_ri dX7_bough_9 rfl (Eq.symm (by unfold sBough; first | (rw [if_neg (by omega)]; done) | (rw [if_pos (by omega)]; repeat rw [if_neg (by omega)]))) rfl
theorem c_mtenant {E : kEnv} {f : Nat → Int → Int} {s : Int → Int} {g : Nat → Int → Option Nat} {i v : Int} (hm : kGM g) (hT : mTO (f 47)) (hS : mSO (f 47) s) (h28 : 0 ≤ s 28 ∧ s 28 ≤ 99) : kF E 2 M_X7_tenant [kA (45), kI (i), kI (v)] ((kMC ++ kMM), kst f 50 s, g) (some (kI (sTenant (f 47) s i v))) ((kMC ++ kMM), kst f 50 s, g) := by
  refine kF_of (by decide) (by simp [k_one]) (Nat.le_of_ble_eq_true rfl) (L := [some (kA (45)), some (kI (i)), some (kI (v))]) rfl ?_
  have n0 := hT.1
  have n1 := hT.2.1
  refine kw_aload_n dX7_tenant_0 rfl ?_
  refine kw_iload_n dX7_tenant_1 rfl ?_
  refine kv_callV1 (M2 := M_X7_isTenant) (As := [kI (i)]) dX7_tenant_2 ml_X7_100 q_X7_isTenant rfl rfl rfl (Nat.le_of_ble_eq_true rfl) (c_misTenant hm hT) (by omega) ?_
  refine kv_ifneB (tgt := 10) dX7_tenant_5 (by decide) (fun h1 => ?_) (fun h1 => ?_)
  · refine kw_iload_n dX7_tenant_10 rfl ?_
    rcases (show v = 0 ∨ v = 1 ∨ v = 2 ∨ v = 3 ∨ v = 4 ∨ v = 5 ∨ (v < 0 ∨ 5 < v) by omega) with h2 | h2 | h2 | h2 | h2 | h2 | h2
    · refine kw_tblIn (off := 37) (tgt := 48) dX7_tenant_11 (by omega) (by omega) (by rw [h2]; rfl) (by decide) ?_
      refine kw_aload_n dX7_tenant_48 rfl ?_
      refine kv_getR (b := 50) dX7_tenant_49 kf_X7_22 rfl rfl rfl (hm (45, 5, 50) (by decide)) ?_
      refine kw_bipush dX7_tenant_52 (by decide) (by decide) ?_
      refine kw_iload_n dX7_tenant_54 rfl ?_
      refine kw_iadd dX7_tenant_55 ⟨by omega, by omega⟩ ?_
      refine kv_iald dX7_tenant_56 rfl (by omega) (by omega) (congrFun kst_self _) ?_
      refine kv_ri dX7_tenant_57 rfl (Eq.symm ?_) rfl
      unfold sTenant
      rw [if_pos (by omega)]
      repeat rw [if_neg (by omega)]
      try rw [if_pos (by omega)]
      all_goals first
        | rfl
        | omega
        | rw [if_pos (by assumption)]
        | rw [if_neg (by assumption)]
        | rw [if_neg (by omega)]
    · refine kw_tblIn (off := 47) (tgt := 58) dX7_tenant_11 (by omega) (by omega) (by rw [h2]; rfl) (by decide) ?_
      refine kw_aload_n dX7_tenant_58 rfl ?_
      refine kv_getR (b := 47) dX7_tenant_59 kf_X7_13 rfl rfl rfl (hm (45, 2, 47) (by decide)) ?_
      refine kw_bipush dX7_tenant_62 (by decide) (by decide) ?_
      refine kw_iload_n dX7_tenant_64 rfl ?_
      refine kw_iadd dX7_tenant_65 ⟨by omega, by omega⟩ ?_
      refine kv_iald dX7_tenant_66 rfl (by omega) (by omega) (congrFun (kst_ne (by decide)) _) ?_
      refine kv_ri dX7_tenant_67 rfl (Eq.symm ?_) rfl
      unfold sTenant
      rw [if_pos (by omega)]
      repeat rw [if_neg (by omega)]
      try rw [if_pos (by omega)]
      all_goals first
        | rfl
        | omega
        | rw [if_pos (by assumption)]
        | rw [if_neg (by assumption)]
        | rw [if_neg (by omega)]
    · refine kw_tblIn (off := 57) (tgt := 68) dX7_tenant_11 (by omega) (by omega) (by rw [h2]; rfl) (by decide) ?_
      refine kw_aload_n dX7_tenant_68 rfl ?_
      refine kv_getR (b := 47) dX7_tenant_69 kf_X7_13 rfl rfl rfl (hm (45, 2, 47) (by decide)) ?_
      refine kw_bipush dX7_tenant_72 (by decide) (by decide) ?_
      refine kw_iload_n dX7_tenant_74 rfl ?_
      refine kw_iadd dX7_tenant_75 ⟨by omega, by omega⟩ ?_
      refine kv_iald dX7_tenant_76 rfl (by omega) (by omega) (congrFun (kst_ne (by decide)) _) ?_
      refine kv_ri dX7_tenant_77 rfl (Eq.symm ?_) rfl
      unfold sTenant
      rw [if_pos (by omega)]
      repeat rw [if_neg (by omega)]
      try rw [if_pos (by omega)]
      all_goals first
        | rfl
        | omega
        | rw [if_pos (by assumption)]
        | rw [if_neg (by assumption)]
        | rw [if_neg (by omega)]
    · refine kw_tblIn (off := 67) (tgt := 78) dX7_tenant_11 (by omega) (by omega) (by rw [h2]; rfl) (by decide) ?_
      refine kw_aload_n dX7_tenant_78 rfl ?_
      refine kv_getR (b := 50) dX7_tenant_79 kf_X7_22 rfl rfl rfl (hm (45, 5, 50) (by decide)) ?_
      refine kw_bipush dX7_tenant_82 (by decide) (by decide) ?_
      refine kw_iload_n dX7_tenant_84 rfl ?_
      refine kw_iadd dX7_tenant_85 ⟨by omega, by omega⟩ ?_
      refine kv_iald dX7_tenant_86 rfl (by omega) (by omega) (congrFun kst_self _) ?_
      refine kv_ri dX7_tenant_87 rfl (Eq.symm ?_) rfl
      unfold sTenant
      rw [if_pos (by omega)]
      repeat rw [if_neg (by omega)]
      try rw [if_pos (by omega)]
      all_goals first
        | rfl
        | omega
        | rw [if_pos (by assumption)]
        | rw [if_neg (by assumption)]
        | rw [if_neg (by omega)]
    · refine kw_tblIn (off := 77) (tgt := 88) dX7_tenant_11 (by omega) (by omega) (by rw [h2]; rfl) (by decide) ?_
      refine kw_aload_n dX7_tenant_88 rfl ?_
      refine kv_getR (b := 50) dX7_tenant_89 kf_X7_22 rfl rfl rfl (hm (45, 5, 50) (by decide)) ?_
      refine kw_bipush dX7_tenant_92 (by decide) (by decide) ?_
      refine kw_iload_n dX7_tenant_94 rfl ?_
      refine kw_iadd dX7_tenant_95 ⟨by omega, by omega⟩ ?_
      refine kv_iald dX7_tenant_96 rfl (by omega) (by omega) (congrFun kst_self _) ?_
      refine kv_ri dX7_tenant_97 rfl (Eq.symm ?_) rfl
      unfold sTenant
      rw [if_pos (by omega)]
      repeat rw [if_neg (by omega)]
      try rw [if_pos (by omega)]
      all_goals first
        | rfl
        | omega
        | rw [if_pos (by assumption)]
        | rw [if_neg (by assumption)]
        | rw [if_neg (by omega)]
    · refine kw_tblIn (off := 87) (tgt := 98) dX7_tenant_11 (by omega) (by omega) (by rw [h2]; rfl) (by decide) ?_
      refine kw_aload_n dX7_tenant_98 rfl ?_
      refine kw_iload_n dX7_tenant_99 rfl ?_
      refine kv_callV1 (M2 := M_X7_isWarm) (As := [kI (i)]) dX7_tenant_100 ml_X7_103 q_X7_isWarm rfl rfl rfl (Nat.le_of_ble_eq_true rfl) (c_misWarm hm (by omega)) (by omega) ?_
      refine kv_ifeqB (tgt := 110) dX7_tenant_103 (by decide) (fun h3 => ?_) (fun h3 => ?_)
      · refine kw_iconst dX7_tenant_110 ⟨by decide, by decide⟩ ?_
        refine kv_ri dX7_tenant_111 rfl (Eq.symm ?_) rfl
        unfold sTenant
        rw [if_pos (by omega)]
        repeat rw [if_neg (by omega)]
        try rw [if_pos (by omega)]
        all_goals first
          | rfl
          | omega
          | rw [if_pos (by assumption)]
          | rw [if_neg (by assumption)]
          | rw [if_neg (by omega)]
      · refine kw_iconst dX7_tenant_106 ⟨by decide, by decide⟩ ?_
        refine kw_goto (tgt := 111) dX7_tenant_107 (by decide) ?_
        refine kv_ri dX7_tenant_111 rfl (Eq.symm ?_) rfl
        unfold sTenant
        rw [if_pos (by omega)]
        repeat rw [if_neg (by omega)]
        try rw [if_pos (by omega)]
        all_goals first
          | rfl
          | omega
          | rw [if_pos (by assumption)]
          | rw [if_neg (by assumption)]
          | rw [if_neg (by omega)]
    · refine kw_tblOut (tgt := 112) dX7_tenant_11 (by omega) (by decide) ?_
      refine kw_iconst dX7_tenant_112 ⟨by decide, by decide⟩ ?_
      exact kv_ri dX7_tenant_113 rfl (Eq.symm (by unfold sTenant; first | (rw [if_neg (by omega)]; done) | (rw [if_pos (by omega)]; repeat rw [if_neg (by omega)]))) rfl
  · refine kw_iconst dX7_tenant_8 ⟨by decide, by decide⟩ ?_
    exact kv_ri dX7_tenant_9 rfl (Eq.symm (by unfold sTenant; first | (rw [if_neg (by omega)]; done) | (rw [if_pos (by omega)]; repeat rw [if_neg (by omega)]))) rfl
theorem c_mcan {E : kEnv} {f : Nat → Int → Int} {s : Int → Int} {g : Nat → Int → Option Nat} {i b : Int} (hm : kGM g) (hT : mTO (f 47)) (hS : mSO (f 47) s) (h28 : 0 ≤ s 28 ∧ s 28 ≤ 99) : kF E 3 M_X7_can [kA (45), kI (i), kI (b)] ((kMC ++ kMM), kst f 50 s, g) (some (kI (sCan (f 47) s i b))) ((kMC ++ kMM), kst f 50 s, g) := by
  refine kF_of (by decide) (by simp [k_one]) (Nat.le_of_ble_eq_true rfl) (L := [some (kA (45)), some (kI (i)), some (kI (b))]) rfl ?_
  have n0 := hT.1
  have n1 := hT.2.1
  refine kw_aload_n dX7_can_0 rfl ?_
  refine kw_iload_n dX7_can_1 rfl ?_
  refine kv_callV1 (M2 := M_X7_isTenant) (As := [kI (i)]) dX7_can_2 ml_X7_100 q_X7_isTenant rfl rfl rfl (Nat.le_of_ble_eq_true rfl) (c_misTenant hm hT) (by omega) ?_
  refine kv_ifeqB (tgt := 16) dX7_can_5 (by decide) (fun h1 => ?_) (fun h1 => ?_)
  · refine kw_iconst dX7_can_16 ⟨by decide, by decide⟩ ?_
    refine kw_goto (tgt := 34) dX7_can_17 (by decide) ?_
    exact kv_ri dX7_can_34 rfl (Eq.symm (by unfold sCan; first | (rw [if_neg (by omega)]; done) | (rw [if_pos (by omega)]; repeat rw [if_neg (by omega)]))) rfl
  · refine kw_aload_n dX7_can_8 rfl ?_
    refine kw_iload_n dX7_can_9 rfl ?_
    refine kv_callV1 (M2 := M_X7_isBough) (As := [kI (b)]) dX7_can_10 ml_X7_90 q_X7_isBough rfl rfl rfl (Nat.le_of_ble_eq_true rfl) (c_misBough hm hT) (by omega) ?_
    refine kv_ifneB (tgt := 20) dX7_can_13 (by decide) (fun h2 => ?_) (fun h2 => ?_)
    · refine kw_aload_n dX7_can_20 rfl ?_
      refine kw_iload_n dX7_can_21 rfl ?_
      refine kw_iload_n dX7_can_22 rfl ?_
      refine kv_callV1 (M2 := M_X7_canNow) (As := [kI (i), kI (b)]) dX7_can_23 ml_X7_110 q_X7_canNow rfl rfl rfl (Nat.le_of_ble_eq_true rfl) (c_mcanNow hm hT hS ⟨by omega, by omega⟩ ⟨by omega, by omega⟩) (by omega) ?_
      refine kv_ifeqB (tgt := 33) dX7_can_26 (by decide) (fun h3 => ?_) (fun h3 => ?_)
      · refine kw_iconst dX7_can_33 ⟨by decide, by decide⟩ ?_
        refine kv_ri dX7_can_34 rfl (Eq.symm ?_) rfl
        unfold sCan
        rw [if_pos (by omega)]
        repeat rw [if_neg (by omega)]
        try rw [if_pos (by omega)]
        all_goals first
          | rfl
          | omega
          | rw [if_pos (by assumption)]
          | rw [if_neg (by assumption)]
          | rw [if_neg (by omega)]
      · refine kw_iconst dX7_can_29 ⟨by decide, by decide⟩ ?_
        refine kw_goto (tgt := 34) dX7_can_30 (by decide) ?_
        refine kv_ri dX7_can_34 rfl (Eq.symm ?_) rfl
        unfold sCan
        rw [if_pos (by omega)]
        repeat rw [if_neg (by omega)]
        try rw [if_pos (by omega)]
        all_goals first
          | rfl
          | omega
          | rw [if_pos (by assumption)]
          | rw [if_neg (by assumption)]
          | rw [if_neg (by omega)]
    · refine kw_iconst dX7_can_16 ⟨by decide, by decide⟩ ?_
      refine kw_goto (tgt := 34) dX7_can_17 (by decide) ?_
      exact kv_ri dX7_can_34 rfl (Eq.symm (by unfold sCan; first | (rw [if_neg (by omega)]; done) | (rw [if_pos (by omega)]; repeat rw [if_neg (by omega)]))) rfl
theorem c_mcouldO {E : kEnv} {f : Nat → Int → Int} {s : Int → Int} {g : Nat → Int → Option Nat} {i b d c : Int} (hm : kGM g) (hT : mTO (f 47)) (hb : 0 ≤ b ∧ b < f 47 0) (hi : 0 ≤ i ∧ i < f 47 1) (hx : -1000 ≤ s b ∧ s b ≤ 1000) (hc : -1000 ≤ c ∧ c ≤ 1000) : kF E 1 M_X7_could [kA 45, kI i, kI b, kI d, kI c] ((kMC ++ kMM), kst f 50 s, g) (some (kI (if oCould (f 47) s i b d c = true then 1 else 0))) ((kMC ++ kMM), kst f 50 s, g) := by
  rw [show (if oCould (f 47) s i b d c = true then (1 : Int) else 0) = if mCould (f 47) s i b d c then 1 else 0 from k_ite oCould_i]
  exact c_mcould hm hT hb hi hx hc
/-- the first day from r on -/
abbrev sFdA (T s : Int → Int) (i b r : Int) : Int := if s (8 + b) = 0 then kFirst (fun d => mCould T s i b d 0) (100 - r).toNat r else -4
theorem sFdA_s {T s : Int → Int} {i b r : Int} (h : r ≤ 99) : sFdA T s i b r = if s (8 + b) = 0 ∧ mCould T s i b r 0 then r else sFdA T s i b (r + 1) := by
  unfold sFdA
  rw [show (100 - r).toNat = (100 - (r + 1)).toNat + 1 by omega, kFirst]
  by_cases h1 : s (8 + b) = 0
  · rw [if_pos h1, if_pos h1]
    by_cases h2 : mCould T s i b r 0
    · rw [if_pos h2, if_pos ⟨h1, h2⟩]
    · rw [if_neg h2, if_neg (fun z => h2 z.2)]
  · rw [if_neg h1, if_neg h1, if_neg (fun z => h1 z.1)]
theorem sFdA_e {T s : Int → Int} {i b : Int} : sFdA T s i b 100 = -4 := by
  unfold sFdA
  split <;> rfl
theorem l_mfirstOf {E : kEnv} {f : Nat → Int → Int} {s : Int → Int} {g : Nat → Int → Option Nat} {i b : Int} (hm : kGM g) (hT : mTO (f 47)) (hS : mSO (f 47) s) (h28 : 0 ≤ s 28 ∧ s 28 ≤ 99) (hi : 0 ≤ i ∧ i < f 47 1) (hb : 0 ≤ b ∧ b < f 47 0) : ∀ (n : Nat) (e : Int) (x : Int), (s 28 - 1 ≤ e ∧ e ≤ 99) → (e + 1 - s 28).toNat < n → x = sFdA (f 47) s i b (e + 1) → kW E 2 0 0 M_X7_firstOf 7 [some (kA (45)), some (kI (i)), some (kI (b)), some (kI (x)), some (kI (e))] [] ((kMC ++ kMM), kst f 50 s, g) (fun r h' => r = some (kI (sFd (f 47) s i b)) ∧ h' = ((kMC ++ kMM), kst f 50 s, g)) := by
  intro n
  induction n with
  | zero => intro e x _ y; omega
  | succ n ih =>
    intro e x y0 y1 z1
    have n0 := hT.1
    have n1 := hT.2.1
    have kb := hS.2.1 b hb.1 hb.2
    refine kw_iload dX7_firstOf_7 rfl ?_
    refine kw_aload_n dX7_firstOf_9 rfl ?_
    refine kv_getR (b := 50) dX7_firstOf_10 kf_X7_22 rfl rfl rfl (hm (45, 5, 50) (by decide)) ?_
    refine kw_bipush dX7_firstOf_13 (by decide) (by decide) ?_
    refine kv_iald dX7_firstOf_15 rfl (by omega) (by omega) (congrFun kst_self _) ?_
    refine kw_icmp_lt (tgt := 56) dX7_firstOf_16 (by decide) (fun h1 => ?_) (fun h1 => ?_)
    · refine kw_iload_n dX7_firstOf_56 rfl ?_
      exact kv_ri dX7_firstOf_57 rfl (by rw [z1, show e + 1 = s 28 by omega]) rfl
    · refine kw_aload_n dX7_firstOf_19 rfl ?_
      refine kv_getR (b := 50) dX7_firstOf_20 kf_X7_22 rfl rfl rfl (hm (45, 5, 50) (by decide)) ?_
      refine kw_bipush dX7_firstOf_23 (by decide) (by decide) ?_
      refine kw_iload_n dX7_firstOf_25 rfl ?_
      refine kw_iadd dX7_firstOf_26 ⟨by omega, by omega⟩ ?_
      refine kv_iald dX7_firstOf_27 rfl (by omega) (by omega) (congrFun kst_self _) ?_
      refine kw_if_ne (tgt := 48) dX7_firstOf_28 (by decide) (fun h2 => ?_) (fun h2 => ?_)
      · refine kw_iload_n dX7_firstOf_48 rfl ?_
        refine kw_istore_n dX7_firstOf_49 (by decide) trivial (L2 := [some (kA (45)), some (kI (i)), some (kI (b)), some (kI (x)), some (kI (e))]) rfl ?_
        refine kw_iinc dX7_firstOf_50 (by decide) rfl ⟨by omega, by omega⟩ trivial (L2 := [some (kA (45)), some (kI (i)), some (kI (b)), some (kI (x)), some (kI (e + (-1)))]) rfl ?_
        refine kw_goto (tgt := 7) dX7_firstOf_53 (by decide) ?_
        have e1 := sFdA_s (T := f 47) (s := s) (i := i) (b := b) (r := e) (by omega)
        rw [if_neg (fun z => by first | exact h2 z.1 | exact h3 (oCould_i.mpr z.2))] at e1
        exact ih (e - 1) _ ⟨by omega, by omega⟩ (by omega) (by rw [show e - 1 + 1 = e by omega, e1]; exact z1)
      · refine kw_aload_n dX7_firstOf_31 rfl ?_
        refine kw_iload_n dX7_firstOf_32 rfl ?_
        refine kw_iload_n dX7_firstOf_33 rfl ?_
        refine kw_iload dX7_firstOf_34 rfl ?_
        refine kw_iconst dX7_firstOf_36 ⟨by decide, by decide⟩ ?_
        refine kv_callV1 (M2 := M_X7_could) (As := [kI (i), kI (b), kI (e), kI (0)]) dX7_firstOf_37 ml_X7_106 q_X7_could rfl rfl rfl (Nat.le_of_ble_eq_true rfl) (c_mcouldO hm hT ⟨by omega, by omega⟩ ⟨by omega, by omega⟩ (by omega) ⟨by omega, by omega⟩) (by omega) ?_
        refine kv_ifeqB (tgt := 48) dX7_firstOf_40 (by decide) (fun h3 => ?_) (fun h3 => ?_)
        · refine kw_iload_n dX7_firstOf_48 rfl ?_
          refine kw_istore_n dX7_firstOf_49 (by decide) trivial (L2 := [some (kA (45)), some (kI (i)), some (kI (b)), some (kI (x)), some (kI (e))]) rfl ?_
          refine kw_iinc dX7_firstOf_50 (by decide) rfl ⟨by omega, by omega⟩ trivial (L2 := [some (kA (45)), some (kI (i)), some (kI (b)), some (kI (x)), some (kI (e + (-1)))]) rfl ?_
          refine kw_goto (tgt := 7) dX7_firstOf_53 (by decide) ?_
          have e1 := sFdA_s (T := f 47) (s := s) (i := i) (b := b) (r := e) (by omega)
          rw [if_neg (fun z => by first | exact h2 z.1 | exact h3 (oCould_i.mpr z.2))] at e1
          exact ih (e - 1) _ ⟨by omega, by omega⟩ (by omega) (by rw [show e - 1 + 1 = e by omega, e1]; exact z1)
        · refine kw_iload dX7_firstOf_43 rfl ?_
          refine kw_goto (tgt := 49) dX7_firstOf_45 (by decide) ?_
          refine kw_istore_n dX7_firstOf_49 (by decide) trivial (L2 := [some (kA (45)), some (kI (i)), some (kI (b)), some (kI (e)), some (kI (e))]) rfl ?_
          refine kw_iinc dX7_firstOf_50 (by decide) rfl ⟨by omega, by omega⟩ trivial (L2 := [some (kA (45)), some (kI (i)), some (kI (b)), some (kI (e)), some (kI (e + (-1)))]) rfl ?_
          refine kw_goto (tgt := 7) dX7_firstOf_53 (by decide) ?_
          have e1 := sFdA_s (T := f 47) (s := s) (i := i) (b := b) (r := e) (by omega)
          rw [if_pos ⟨by omega, oCould_i.mp h3⟩] at e1
          exact ih (e - 1) _ ⟨by omega, by omega⟩ (by omega) (by rw [show e - 1 + 1 = e by omega, e1])
theorem c_mfirstOf {E : kEnv} {f : Nat → Int → Int} {s : Int → Int} {g : Nat → Int → Option Nat} {i b : Int} (hm : kGM g) (hT : mTO (f 47)) (hS : mSO (f 47) s) (h28 : 0 ≤ s 28 ∧ s 28 ≤ 99) (hi : 0 ≤ i ∧ i < f 47 1) (hb : 0 ≤ b ∧ b < f 47 0) : kF E 2 M_X7_firstOf [kA (45), kI (i), kI (b)] ((kMC ++ kMM), kst f 50 s, g) (some (kI (sFd (f 47) s i b))) ((kMC ++ kMM), kst f 50 s, g) := by
  refine kF_of (by decide) (by simp [k_one]) (Nat.le_of_ble_eq_true rfl) (L := [some (kA (45)), some (kI (i)), some (kI (b)), none, none]) rfl ?_
  have n0 := hT.1
  have n1 := hT.2.1
  refine kw_bipush dX7_firstOf_0 (by decide) (by decide) ?_
  refine kw_istore_n dX7_firstOf_2 (by decide) trivial (L2 := [some (kA (45)), some (kI (i)), some (kI (b)), some (kI (-4)), none]) rfl ?_
  refine kw_bipush dX7_firstOf_3 (by decide) (by decide) ?_
  refine kw_istore dX7_firstOf_5 (by decide) trivial (L2 := [some (kA (45)), some (kI (i)), some (kI (b)), some (kI (-4)), some (kI (99))]) rfl ?_
  exact l_mfirstOf hm hT hS h28 hi hb _ 99 (-4) ⟨by omega, by omega⟩ (Nat.lt_succ_self _) sFdA_e.symm
theorem c_mfirstDay {E : kEnv} {f : Nat → Int → Int} {s : Int → Int} {g : Nat → Int → Option Nat} {i b : Int} (hm : kGM g) (hT : mTO (f 47)) (hS : mSO (f 47) s) (h28 : 0 ≤ s 28 ∧ s 28 ≤ 99) : kF E 3 M_X7_firstDay [kA (45), kI (i), kI (b)] ((kMC ++ kMM), kst f 50 s, g) (some (kI (sFirstDay (f 47) s i b))) ((kMC ++ kMM), kst f 50 s, g) := by
  refine kF_of (by decide) (by simp [k_one]) (Nat.le_of_ble_eq_true rfl) (L := [some (kA (45)), some (kI (i)), some (kI (b))]) rfl ?_
  have n0 := hT.1
  have n1 := hT.2.1
  refine kw_aload_n dX7_firstDay_0 rfl ?_
  refine kw_iload_n dX7_firstDay_1 rfl ?_
  refine kv_callV1 (M2 := M_X7_isTenant) (As := [kI (i)]) dX7_firstDay_2 ml_X7_100 q_X7_isTenant rfl rfl rfl (Nat.le_of_ble_eq_true rfl) (c_misTenant hm hT) (by omega) ?_
  refine kv_ifeqB (tgt := 25) dX7_firstDay_5 (by decide) (fun h1 => ?_) (fun h1 => ?_)
  · refine kw_iconst dX7_firstDay_25 ⟨by decide, by decide⟩ ?_
    exact kv_ri dX7_firstDay_26 rfl (Eq.symm (by unfold sFirstDay; first | rw [if_neg (by omega)] | rw [if_pos (by omega)])) rfl
  · refine kw_aload_n dX7_firstDay_8 rfl ?_
    refine kw_iload_n dX7_firstDay_9 rfl ?_
    refine kv_callV1 (M2 := M_X7_isBough) (As := [kI (b)]) dX7_firstDay_10 ml_X7_90 q_X7_isBough rfl rfl rfl (Nat.le_of_ble_eq_true rfl) (c_misBough hm hT) (by omega) ?_
    refine kv_ifeqB (tgt := 25) dX7_firstDay_13 (by decide) (fun h2 => ?_) (fun h2 => ?_)
    · refine kw_iconst dX7_firstDay_25 ⟨by decide, by decide⟩ ?_
      exact kv_ri dX7_firstDay_26 rfl (Eq.symm (by unfold sFirstDay; first | rw [if_neg (by omega)] | rw [if_pos (by omega)])) rfl
    · refine kw_aload_n dX7_firstDay_16 rfl ?_
      refine kw_iload_n dX7_firstDay_17 rfl ?_
      refine kw_iload_n dX7_firstDay_18 rfl ?_
      refine kv_callV1 (M2 := M_X7_firstOf) (As := [kI (i), kI (b)]) dX7_firstDay_19 ml_X7_138 q_X7_firstOf rfl rfl rfl (Nat.le_of_ble_eq_true rfl) (c_mfirstOf hm hT hS h28 ⟨by omega, by omega⟩ ⟨by omega, by omega⟩) (by omega) ?_
      refine kw_goto (tgt := 26) dX7_firstDay_22 (by decide) ?_
      exact kv_ri dX7_firstDay_26 rfl (Eq.symm (by unfold sFirstDay; first | rw [if_neg (by omega)] | rw [if_pos (by omega)])) rfl
theorem l_mwhose {E : kEnv} {f : Nat → Int → Int} {s : Int → Int} {g : Nat → Int → Option Nat} {b d : Int} (hm : kGM g) (hT : mTO (f 47)) (hS : mSO (f 47) s) (h28 : 0 ≤ s 28 ∧ s 28 ≤ 99) (hb : 0 ≤ b ∧ b < f 47 0) (hd : 0 ≤ d ∧ d ≤ 99) : ∀ (n : Nat) (i : Int), (0 ≤ i ∧ i ≤ f 47 1) → (f 47 1 - i).toNat < n → kW E 2 0 0 M_X7_whose 25 [some (kA (45)), some (kI (b)), some (kI (d)), some (kI (kBits (fun i => mCould (f 47) s i b d 0) i.toNat)), some (kI (i))] [] ((kMC ++ kMM), kst f 50 s, g) (fun r h' => r = some (kI (kBits (fun i => mCould (f 47) s i b d 0) (f 47 1).toNat)) ∧ h' = ((kMC ++ kMM), kst f 50 s, g)) := by
  intro n
  induction n with
  | zero => intro i _ y; omega
  | succ n ih =>
    intro i y0 y1
    have n0 := hT.1
    have n1 := hT.2.1
    have kb := hS.2.1 b hb.1 hb.2
    have hl := kBits_lt (c := fun i => mCould (f 47) s i b d 0) i.toNat
    have hp := k_pow4 i.toNat (by omega)
    refine kw_iload dX7_whose_25 rfl ?_
    refine kw_aload_n dX7_whose_27 rfl ?_
    refine kv_getR (b := 47) dX7_whose_28 kf_X7_13 rfl rfl rfl (hm (45, 2, 47) (by decide)) ?_
    refine kw_iconst dX7_whose_31 ⟨by decide, by decide⟩ ?_
    refine kv_iald dX7_whose_32 rfl (by omega) (by omega) (congrFun (kst_ne (by decide)) _) ?_
    refine kw_icmp_ge (tgt := 65) dX7_whose_33 (by decide) (fun h1 => ?_) (fun h1 => ?_)
    · refine kw_iload_n dX7_whose_65 rfl ?_
      exact kv_ri dX7_whose_66 rfl (by rw [show i = f 47 1 by omega]) rfl
    · refine kw_iload_n dX7_whose_36 rfl ?_
      refine kw_aload_n dX7_whose_37 rfl ?_
      refine kw_iload dX7_whose_38 rfl ?_
      refine kw_iload_n dX7_whose_40 rfl ?_
      refine kw_iload_n dX7_whose_41 rfl ?_
      refine kw_iconst dX7_whose_42 ⟨by decide, by decide⟩ ?_
      refine kv_callV1 (M2 := M_X7_could) (As := [kI (i), kI (b), kI (d), kI (0)]) dX7_whose_43 ml_X7_106 q_X7_could rfl rfl rfl (Nat.le_of_ble_eq_true rfl) (c_mcouldO hm hT ⟨by omega, by omega⟩ ⟨by omega, by omega⟩ (by omega) ⟨by omega, by omega⟩) (by omega) ?_
      refine kv_ifeqB (tgt := 56) dX7_whose_46 (by decide) (fun h2 => ?_) (fun h2 => ?_)
      · refine kw_iconst dX7_whose_56 ⟨by decide, by decide⟩ ?_
        refine kv_or0 dX7_whose_57 ?_
        refine kw_istore_n dX7_whose_58 (by decide) trivial (L2 := [some (kA (45)), some (kI (b)), some (kI (d)), some (kI (kBits (fun i => mCould (f 47) s i b d 0) i.toNat)), some (kI (i))]) rfl ?_
        refine kw_iinc dX7_whose_59 (by decide) rfl ⟨by omega, by omega⟩ trivial (L2 := [some (kA (45)), some (kI (b)), some (kI (d)), some (kI (kBits (fun i => mCould (f 47) s i b d 0) i.toNat)), some (kI (i + 1))]) rfl ?_
        refine kw_goto (tgt := 25) dX7_whose_62 (by decide) ?_
        have e1 := kBits_s (c := fun i => mCould (f 47) s i b d 0) y0.1
        rw [if_neg (fun z => h2 (oCould_i.mpr z)), Int.add_zero] at e1
        rw [← e1]
        exact ih (i + 1) ⟨by omega, by omega⟩ (by omega)
      · refine kw_iconst dX7_whose_49 ⟨by decide, by decide⟩ ?_
        refine kw_iload dX7_whose_50 rfl ?_
        refine kv_shl1 dX7_whose_52 (by omega) (by omega) ?_
        refine kw_goto (tgt := 57) dX7_whose_53 (by decide) ?_
        refine kv_orb (b := i) dX7_whose_57 (by omega) (by omega) (by omega) (by omega) (by rw [← k_nat y0.1]; simp only [Int.toNat_natCast]; exact kBits_bit) ?_
        refine kw_istore_n dX7_whose_58 (by decide) trivial (L2 := [some (kA (45)), some (kI (b)), some (kI (d)), some (kI ((kBits (fun i => mCould (f 47) s i b d 0) i.toNat) + 2 ^ i.toNat)), some (kI (i))]) rfl ?_
        refine kw_iinc dX7_whose_59 (by decide) rfl ⟨by omega, by omega⟩ trivial (L2 := [some (kA (45)), some (kI (b)), some (kI (d)), some (kI ((kBits (fun i => mCould (f 47) s i b d 0) i.toNat) + 2 ^ i.toNat)), some (kI (i + 1))]) rfl ?_
        refine kw_goto (tgt := 25) dX7_whose_62 (by decide) ?_
        have e1 := kBits_s (c := fun i => mCould (f 47) s i b d 0) y0.1
        rw [if_pos (oCould_i.mp h2)] at e1
        rw [← e1]
        exact ih (i + 1) ⟨by omega, by omega⟩ (by omega)
theorem c_mwhose {E : kEnv} {f : Nat → Int → Int} {s : Int → Int} {g : Nat → Int → Option Nat} {b d : Int} (hm : kGM g) (hT : mTO (f 47)) (hS : mSO (f 47) s) (h28 : 0 ≤ s 28 ∧ s 28 ≤ 99) : kF E 2 M_X7_whose [kA (45), kI (b), kI (d)] ((kMC ++ kMM), kst f 50 s, g) (some (kI (sWhose (f 47) s b d))) ((kMC ++ kMM), kst f 50 s, g) := by
  refine kF_of (by decide) (by simp [k_one]) (Nat.le_of_ble_eq_true rfl) (L := [some (kA (45)), some (kI (b)), some (kI (d)), none, none]) rfl ?_
  have n0 := hT.1
  have n1 := hT.2.1
  refine kw_aload_n dX7_whose_0 rfl ?_
  refine kw_iload_n dX7_whose_1 rfl ?_
  refine kv_callV1 (M2 := M_X7_isBough) (As := [kI (b)]) dX7_whose_2 ml_X7_90 q_X7_isBough rfl rfl rfl (Nat.le_of_ble_eq_true rfl) (c_misBough hm hT) (by omega) ?_
  refine kv_ifeqB (tgt := 18) dX7_whose_5 (by decide) (fun h1 => ?_) (fun h1 => ?_)
  · refine kw_iconst dX7_whose_18 ⟨by decide, by decide⟩ ?_
    exact kv_ri dX7_whose_19 rfl (Eq.symm (by unfold sWhose; rw [if_neg (by omega)])) rfl
  · refine kw_iload_n dX7_whose_8 rfl ?_
    refine kw_iconst dX7_whose_9 ⟨by decide, by decide⟩ ?_
    refine kw_bipush dX7_whose_10 (by decide) (by decide) ?_
    refine kv_callS1 (M2 := M_X7_in) (As := [kI (d), kI (0), kI (99)]) dX7_whose_12 ml_X7_54 q_X7_in rfl (Nat.le_of_ble_eq_true rfl) (c_min) (by omega) ?_
    refine kv_ifneB (tgt := 20) dX7_whose_15 (by decide) (fun h2 => ?_) (fun h2 => ?_)
    · refine kw_iconst dX7_whose_20 ⟨by decide, by decide⟩ ?_
      refine kw_istore_n dX7_whose_21 (by decide) trivial (L2 := [some (kA (45)), some (kI (b)), some (kI (d)), some (kI (0)), none]) rfl ?_
      refine kw_iconst dX7_whose_22 ⟨by decide, by decide⟩ ?_
      refine kw_istore dX7_whose_23 (by decide) trivial (L2 := [some (kA (45)), some (kI (b)), some (kI (d)), some (kI (0)), some (kI (0))]) rfl ?_
      unfold sWhose
      rw [if_pos (by omega)]
      exact l_mwhose hm hT hS h28 (by omega) (by omega) _ 0 ⟨by omega, by omega⟩ (Nat.lt_succ_self _)
    · refine kw_iconst dX7_whose_18 ⟨by decide, by decide⟩ ?_
      exact kv_ri dX7_whose_19 rfl (Eq.symm (by unfold sWhose; rw [if_neg (by omega)])) rfl
theorem l_mneeds {E : kEnv} {f : Nat → Int → Int} {s : Int → Int} {g : Nat → Int → Option Nat}  (hm : kGM g) (hT : mTO (f 47)) (hS : mSO (f 47) s) (h28 : 0 ≤ s 28 ∧ s 28 ≤ 99) : ∀ (n : Nat) (i : Int), (0 ≤ i ∧ i ≤ f 47 1) → (f 47 1 - i).toNat < n → kW E 1 0 0 M_X7_needs 4 [some (kA (45)), some (kI (sNeeds (f 47) s i.toNat)), some (kI (i))] [] ((kMC ++ kMM), kst f 50 s, g) (fun r h' => r = some (kI (sNeeds (f 47) s (f 47 1).toNat)) ∧ h' = ((kMC ++ kMM), kst f 50 s, g)) := by
  intro n
  induction n with
  | zero => intro i _ y; omega
  | succ n ih =>
    intro i y0 y1
    have n0 := hT.1
    have n1 := hT.2.1
    have ki1 : ∀ _ : Unit, 0 ≤ i → i < f 47 1 → 1 ≤ f 47 (33 + i) ∧ f 47 (33 + i) ≤ 60 := fun _ x y => (hT.2.2.2.2.2.2 i x y).2
    have ki2 : ∀ _ : Unit, 0 ≤ i → i < f 47 1 → 0 ≤ s (20 + i) ∧ s (20 + i) ≤ 400 := fun _ x y => by have z := (hS.2.2 i x y).1; have := mGone_le hS; omega
    have qw := sNeeds_rng (s := s) hT hS i.toNat (by omega)
    refine kw_iload_n dX7_needs_4 rfl ?_
    refine kw_aload_n dX7_needs_5 rfl ?_
    refine kv_getR (b := 47) dX7_needs_6 kf_X7_13 rfl rfl rfl (hm (45, 2, 47) (by decide)) ?_
    refine kw_iconst dX7_needs_9 ⟨by decide, by decide⟩ ?_
    refine kv_iald dX7_needs_10 rfl (by omega) (by omega) (congrFun (kst_ne (by decide)) _) ?_
    refine kw_icmp_ge (tgt := 54) dX7_needs_11 (by decide) (fun h1 => ?_) (fun h1 => ?_)
    · refine kw_iload_n dX7_needs_54 rfl ?_
      exact kv_ri dX7_needs_55 rfl (by rw [show i = f 47 1 by omega]) rfl
    · refine kw_iload_n dX7_needs_14 rfl ?_
      refine kw_aload_n dX7_needs_15 rfl ?_
      refine kw_iload_n dX7_needs_16 rfl ?_
      refine kv_callV1 (M2 := M_X7_isWarm) (As := [kI (i)]) dX7_needs_17 ml_X7_103 q_X7_isWarm rfl rfl rfl (Nat.le_of_ble_eq_true rfl) (c_misWarm hm (by omega)) (by omega) ?_
      have k1 := ki1 () (by omega) (by omega)
      have k2 := ki2 () (by omega) (by omega)
      refine kv_ifeqB (tgt := 27) dX7_needs_20 (by decide) (fun h2 => ?_) (fun h2 => ?_)
      · refine kw_aload_n dX7_needs_27 rfl ?_
        refine kv_getR (b := 47) dX7_needs_28 kf_X7_13 rfl rfl rfl (hm (45, 2, 47) (by decide)) ?_
        refine kw_bipush dX7_needs_31 (by decide) (by decide) ?_
        refine kw_iload_n dX7_needs_33 rfl ?_
        refine kw_iadd dX7_needs_34 ⟨by omega, by omega⟩ ?_
        refine kv_iald dX7_needs_35 rfl (by omega) (by omega) (congrFun (kst_ne (by decide)) _) ?_
        refine kw_aload_n dX7_needs_36 rfl ?_
        refine kv_getR (b := 50) dX7_needs_37 kf_X7_22 rfl rfl rfl (hm (45, 5, 50) (by decide)) ?_
        refine kw_bipush dX7_needs_40 (by decide) (by decide) ?_
        refine kw_iload_n dX7_needs_42 rfl ?_
        refine kw_iadd dX7_needs_43 ⟨by omega, by omega⟩ ?_
        refine kv_iald dX7_needs_44 rfl (by omega) (by omega) (congrFun kst_self _) ?_
        refine kw_isub dX7_needs_45 ⟨by omega, by omega⟩ ?_
        refine kw_iadd dX7_needs_46 ⟨by omega, by omega⟩ ?_
        refine kw_istore_n dX7_needs_47 (by decide) trivial (L2 := [some (kA (45)), some (kI ((sNeeds (f 47) s i.toNat) + ((f 47 (33 + i)) - (s (20 + i))))), some (kI (i))]) rfl ?_
        refine kw_iinc dX7_needs_48 (by decide) rfl ⟨by omega, by omega⟩ trivial (L2 := [some (kA (45)), some (kI ((sNeeds (f 47) s i.toNat) + ((f 47 (33 + i)) - (s (20 + i))))), some (kI (i + 1))]) rfl ?_
        refine kw_goto (tgt := 4) dX7_needs_51 (by decide) ?_
        have e1 := sNeeds_s (T := f 47) (s := s) y0.1
        first | rw [if_pos h2] at e1 | rw [if_neg h2] at e1
        rw [← e1]
        exact ih (i + 1) ⟨by omega, by omega⟩ (by omega)
      · refine kw_iconst dX7_needs_23 ⟨by decide, by decide⟩ ?_
        refine kw_goto (tgt := 46) dX7_needs_24 (by decide) ?_
        refine kw_iadd dX7_needs_46 ⟨by omega, by omega⟩ ?_
        refine kw_istore_n dX7_needs_47 (by decide) trivial (L2 := [some (kA (45)), some (kI ((sNeeds (f 47) s i.toNat) + 0)), some (kI (i))]) rfl ?_
        refine kw_iinc dX7_needs_48 (by decide) rfl ⟨by omega, by omega⟩ trivial (L2 := [some (kA (45)), some (kI ((sNeeds (f 47) s i.toNat) + 0)), some (kI (i + 1))]) rfl ?_
        refine kw_goto (tgt := 4) dX7_needs_51 (by decide) ?_
        have e1 := sNeeds_s (T := f 47) (s := s) y0.1
        first | rw [if_pos h2] at e1 | rw [if_neg h2] at e1
        rw [← e1]
        exact ih (i + 1) ⟨by omega, by omega⟩ (by omega)
theorem c_mneeds {E : kEnv} {f : Nat → Int → Int} {s : Int → Int} {g : Nat → Int → Option Nat}  (hm : kGM g) (hT : mTO (f 47)) (hS : mSO (f 47) s) (h28 : 0 ≤ s 28 ∧ s 28 ≤ 99) : kF E 1 M_X7_needs [kA (45)] ((kMC ++ kMM), kst f 50 s, g) (some (kI (sNeeds (f 47) s (f 47 1).toNat))) ((kMC ++ kMM), kst f 50 s, g) := by
  refine kF_of (by decide) (by simp [k_one]) (Nat.le_of_ble_eq_true rfl) (L := [some (kA (45)), none, none]) rfl ?_
  have n0 := hT.1
  have n1 := hT.2.1
  refine kw_iconst dX7_needs_0 ⟨by decide, by decide⟩ ?_
  refine kw_istore_n dX7_needs_1 (by decide) trivial (L2 := [some (kA (45)), some (kI (0)), none]) rfl ?_
  refine kw_iconst dX7_needs_2 ⟨by decide, by decide⟩ ?_
  refine kw_istore_n dX7_needs_3 (by decide) trivial (L2 := [some (kA (45)), some (kI (0)), some (kI (0))]) rfl ?_
  exact l_mneeds hm hT hS h28 _ 0 ⟨by omega, by omega⟩ (Nat.lt_succ_self _)
