/-! the model: take -/
def oCan (T s : Int → Int) (i b : Int) : Bool := decide (mCan T s i b)
theorem oCan_i {T s : Int → Int} {i b : Int} : oCan T s i b = true ↔ mCan T s i b := by simp [oCan]
theorem c_mcanO {E : kEnv} {f : Nat → Int → Int} {s : Int → Int} {g : Nat → Int → Option Nat} {i b : Int} (hm : kGM g) (hT : mTO (f 47)) (hS : mSO (f 47) s) (hb : 0 ≤ b ∧ b < f 47 0) (hi : 0 ≤ i ∧ i < f 47 1) : kF E 2 M_X7_canNow [kA 45, kI i, kI b] ((kMC ++ kMM), kst f 50 s, g) (some (kI (if oCan (f 47) s i b = true then 1 else 0))) ((kMC ++ kMM), kst f 50 s, g) := by
  rw [show (if oCan (f 47) s i b = true then (1 : Int) else 0) = if mCan (f 47) s i b then 1 else 0 from k_ite oCan_i]
  exact c_mcanNow hm hT hS hb hi
def oCaught (T s : Int → Int) (i b : Int) : Bool := decide (¬ (s b + T 4 ≤ s 28) ∧ T (5 + b) ≠ 3 ∧ s 28 % T 3 = 0 ∧ T 2 < s (16 + i))
theorem oCaught_i {T s : Int → Int} {i b : Int} : oCaught T s i b = true ↔ (¬ (s b + T 4 ≤ s 28) ∧ T (5 + b) ≠ 3 ∧ s 28 % T 3 = 0 ∧ T 2 < s (16 + i)) := by simp [oCaught]
def sTook (T s : Int → Int) (i b : Int) : Int := if oCaught T s i b = true then 0 else s (20 + i) + T (21 + b)
def mTook (T s : Int → Int) (i b : Int) : Int → Int := upi (mTakes T s i b) (20 + i) (sTook T s i b)
def sTake (T s : Int → Int) (i b : Int) : Int := if (0 ≤ i ∧ i ≤ T 1 - 1) ∧ (0 ≤ b ∧ b ≤ T 0 - 1) then (if oCan T s i b = true then sTook T s i b else -2) else -1
theorem c_mtake {E : kEnv} {f : Nat → Int → Int} {s : Int → Int} {g : Nat → Int → Option Nat} {i b : Int} (hm : kGM g) (hT : mTO (f 47)) (hS : mSO (f 47) s) (h28 : 0 ≤ s 28 ∧ s 28 ≤ 99) (hk : 0 ≤ f 45 7 ∧ f 45 7 ≤ 8) : kF E 3 M_X7_take [kA (45), kI (i), kI (b)] ((kMC ++ kMM), kst f 50 s, g) (some (kI (sTake (f 47) s i b))) ((kMC ++ kMM), if ((0 ≤ i ∧ i ≤ f 47 1 - 1) ∧ (0 ≤ b ∧ b ≤ f 47 0 - 1)) ∧ oCan (f 47) s i b = true then kst (kKe f s) 50 (mTook (f 47) s i b) else kst f 50 s, g) := by
  refine kF_of (by decide) (by simp [k_one]) (Nat.le_of_ble_eq_true rfl) (L := [some (kA (45)), some (kI (i)), some (kI (b)), none]) rfl ?_
  have n0 := hT.1
  have n1 := hT.2.1
  have n2 := hT.2.2.1
  have n3 := hT.2.2.2.1
  have n4 := hT.2.2.2.2.1
  have e47 := kKe_b (f := f) (s := s) (b := 47) (by omega) (by omega)
  have q2 := congrFun e47 2
  have q3 := congrFun e47 3
  have q4 := congrFun e47 4
  have q5 := congrFun e47 (5 + b)
  refine kw_aload_n dX7_take_0 rfl ?_
  refine kw_iload_n dX7_take_1 rfl ?_
  refine kv_callV1 (M2 := M_X7_isTenant) (As := [kI (i)]) dX7_take_2 ml_X7_100 q_X7_isTenant rfl rfl rfl (Nat.le_of_ble_eq_true rfl) (c_misTenant hm hT) (by omega) ?_
  refine kv_ifeqB (tgt := 16) dX7_take_5 (by decide) (fun h1 => ?_) (fun h1 => ?_)
  · refine kw_iconst dX7_take_16 ⟨by decide, by decide⟩ ?_
    exact kv_ri dX7_take_17 rfl (Eq.symm (by unfold sTake; first | (rw [if_neg (by omega)]; done) | rw [if_pos (by omega), if_neg h3])) (by rw [if_neg (by first | exact fun z => h3 z.2 | exact fun z => absurd z.1 (by omega))])
  · refine kw_aload_n dX7_take_8 rfl ?_
    refine kw_iload_n dX7_take_9 rfl ?_
    refine kv_callV1 (M2 := M_X7_isBough) (As := [kI (b)]) dX7_take_10 ml_X7_90 q_X7_isBough rfl rfl rfl (Nat.le_of_ble_eq_true rfl) (c_misBough hm hT) (by omega) ?_
    refine kv_ifneB (tgt := 18) dX7_take_13 (by decide) (fun h2 => ?_) (fun h2 => ?_)
    · refine kw_aload_n dX7_take_18 rfl ?_
      refine kw_iload_n dX7_take_19 rfl ?_
      refine kw_iload_n dX7_take_20 rfl ?_
      refine kv_callV1 (M2 := M_X7_canNow) (As := [kI (i), kI (b)]) dX7_take_21 ml_X7_110 q_X7_canNow rfl rfl rfl (Nat.le_of_ble_eq_true rfl) (c_mcanO hm hT hS ⟨by omega, by omega⟩ ⟨by omega, by omega⟩) (by omega) ?_
      refine kv_ifneB (tgt := 30) dX7_take_24 (by decide) (fun h3 => ?_) (fun h3 => ?_)
      · refine kw_aload_n dX7_take_30 rfl ?_
        refine kv_callV0 (M2 := M_X7_keeps) (As := []) dX7_take_31 ml_X7_113 q_X7_keeps rfl rfl rfl (Nat.le_of_ble_eq_true rfl) (c_mkeeps hm hk) (by omega) ?_
        refine kw_aload_n dX7_take_34 rfl ?_
        refine kw_iload_n dX7_take_35 rfl ?_
        refine kw_iload_n dX7_take_36 rfl ?_
        refine kv_callV0 (M2 := M_X7_takes) (As := [kI (i), kI (b)]) dX7_take_37 ml_X7_116 q_X7_takes rfl rfl rfl (Nat.le_of_ble_eq_true rfl) ((by
    have h := c_mtakes (E := E) (f := kKe f s) (s := s) (i := i) (b := b) hm (by rw [e47]; exact hT) (by rw [e47]; exact hS) (by rw [e47]; omega) (by rw [e47]; omega)
    rw [e47] at h
    exact h)) (by omega) ?_
        have t28 : mTakes (f 47) s i b 28 = s 28 := by unfold mTakes; rw [upi_ne (by omega), upi_ne (by omega), upi_ne (by omega)]
        have tb : mTakes (f 47) s i b b = s b := by unfold mTakes; rw [upi_ne (by omega), upi_ne (by omega), upi_ne (by omega)]
        have t16 : mTakes (f 47) s i b (16 + i) = s (16 + i) := by unfold mTakes; rw [upi_ne (by omega), upi_ne (by omega), upi_ne (by omega)]
        have t20 : mTakes (f 47) s i b (20 + i) = s (20 + i) + f 47 (21 + b) := by unfold mTakes; rw [upi_self]
        have sb := hS.2.1 b (by omega) (by omega)
        refine kw_aload_n dX7_take_40 rfl ?_
        refine kw_iload_n dX7_take_41 rfl ?_
        refine kw_aload_n dX7_take_42 rfl ?_
        refine kv_getR (b := 50) dX7_take_43 kf_X7_22 rfl rfl rfl (hm (45, 5, 50) (by decide)) ?_
        refine kw_bipush dX7_take_46 (by decide) (by decide) ?_
        refine kv_iald dX7_take_48 rfl (by omega) (by omega) (congrFun kst_self _) ?_
        refine kv_callV1 (M2 := M_X7_isFallen) (As := [kI (b), kI (((mTakes (f 47) s i b)) 28)]) dX7_take_49 ml_X7_97 q_X7_isFallen rfl rfl rfl (Nat.le_of_ble_eq_true rfl) (c_misFallen (f := kKe f s) hm (by rw [e47]; exact hT) (by omega) (by omega)) (by omega) ?_
        refine kv_ifneB (tgt := 106) dX7_take_52 (by decide) (fun h4 => ?_) (fun h4 => ?_)
        · refine kw_iconst dX7_take_106 ⟨by decide, by decide⟩ ?_
          refine kw_istore_n dX7_take_107 (by decide) trivial (L2 := [some (kA (45)), some (kI (i)), some (kI (b)), some (kI (0))]) rfl ?_
          refine kw_aload_n dX7_take_108 rfl ?_
          refine kv_getR (b := 50) dX7_take_109 kf_X7_22 rfl rfl rfl (hm (45, 5, 50) (by decide)) ?_
          refine kw_bipush dX7_take_112 (by decide) (by decide) ?_
          refine kw_iload_n dX7_take_114 rfl ?_
          refine kw_iadd dX7_take_115 ⟨by omega, by omega⟩ ?_
          refine kw_iload_n dX7_take_116 rfl ?_
          refine kw_if_eq (tgt := 124) dX7_take_117 (by decide) (kf := fun h => absurd (by decide) h) (kt := fun _ => ?_)
          refine kw_aload_n dX7_take_124 rfl ?_
          refine kv_getR (b := 50) dX7_take_125 kf_X7_22 rfl rfl rfl (hm (45, 5, 50) (by decide)) ?_
          refine kw_bipush dX7_take_128 (by decide) (by decide) ?_
          refine kw_iload_n dX7_take_130 rfl ?_
          refine kw_iadd dX7_take_131 ⟨by omega, by omega⟩ ?_
          refine kv_iald dX7_take_132 rfl (by omega) (by omega) (congrFun kst_self _) ?_
          refine kv_iast dX7_take_133 rfl (by omega) (by omega) ?_
          rw [kst_u]
          refine kw_aload_n dX7_take_134 rfl ?_
          refine kv_getR (b := 50) dX7_take_135 kf_X7_22 rfl rfl rfl (hm (45, 5, 50) (by decide)) ?_
          refine kw_bipush dX7_take_138 (by decide) (by decide) ?_
          refine kw_iload_n dX7_take_140 rfl ?_
          refine kw_iadd dX7_take_141 ⟨by omega, by omega⟩ ?_
          refine kv_iald dX7_take_142 rfl (by omega) (by omega) ((congrFun kst_self _).trans (upi_self)) ?_
          have ek : sTook (f 47) s i b = ((mTakes (f 47) s i b)) (20 + i) := by
            unfold sTook
            rw [if_neg (fun z => by
              have z2 := oCaught_i.mp z
              first
                | omega
                | (rw [t28, q3] at h6; exact h6 z2.2.2.1))]; exact t20.symm
          refine kv_ri dX7_take_143 rfl (Eq.symm ?_) ?_
          · unfold sTake
            rw [if_pos (by omega), if_pos h3, ek]
          · rw [if_pos ⟨by omega, h3⟩]
            unfold mTook
            rw [ek]
        · refine kw_aload_n dX7_take_55 rfl ?_
          refine kv_getR (b := 47) dX7_take_56 kf_X7_13 rfl rfl rfl (hm (45, 2, 47) (by decide)) ?_
          refine kw_iconst dX7_take_59 ⟨by decide, by decide⟩ ?_
          refine kw_iload_n dX7_take_60 rfl ?_
          refine kw_iadd dX7_take_61 ⟨by omega, by omega⟩ ?_
          refine kv_iald dX7_take_62 rfl (by omega) (by omega) (congrFun (kst_ne (by decide)) _) ?_
          refine kw_iconst dX7_take_63 ⟨by decide, by decide⟩ ?_
          refine kw_icmp_eq (tgt := 106) dX7_take_64 (by decide) (fun h5 => ?_) (fun h5 => ?_)
          · refine kw_iconst dX7_take_106 ⟨by decide, by decide⟩ ?_
            refine kw_istore_n dX7_take_107 (by decide) trivial (L2 := [some (kA (45)), some (kI (i)), some (kI (b)), some (kI (0))]) rfl ?_
            refine kw_aload_n dX7_take_108 rfl ?_
            refine kv_getR (b := 50) dX7_take_109 kf_X7_22 rfl rfl rfl (hm (45, 5, 50) (by decide)) ?_
            refine kw_bipush dX7_take_112 (by decide) (by decide) ?_
            refine kw_iload_n dX7_take_114 rfl ?_
            refine kw_iadd dX7_take_115 ⟨by omega, by omega⟩ ?_
            refine kw_iload_n dX7_take_116 rfl ?_
            refine kw_if_eq (tgt := 124) dX7_take_117 (by decide) (kf := fun h => absurd (by decide) h) (kt := fun _ => ?_)
            refine kw_aload_n dX7_take_124 rfl ?_
            refine kv_getR (b := 50) dX7_take_125 kf_X7_22 rfl rfl rfl (hm (45, 5, 50) (by decide)) ?_
            refine kw_bipush dX7_take_128 (by decide) (by decide) ?_
            refine kw_iload_n dX7_take_130 rfl ?_
            refine kw_iadd dX7_take_131 ⟨by omega, by omega⟩ ?_
            refine kv_iald dX7_take_132 rfl (by omega) (by omega) (congrFun kst_self _) ?_
            refine kv_iast dX7_take_133 rfl (by omega) (by omega) ?_
            rw [kst_u]
            refine kw_aload_n dX7_take_134 rfl ?_
            refine kv_getR (b := 50) dX7_take_135 kf_X7_22 rfl rfl rfl (hm (45, 5, 50) (by decide)) ?_
            refine kw_bipush dX7_take_138 (by decide) (by decide) ?_
            refine kw_iload_n dX7_take_140 rfl ?_
            refine kw_iadd dX7_take_141 ⟨by omega, by omega⟩ ?_
            refine kv_iald dX7_take_142 rfl (by omega) (by omega) ((congrFun kst_self _).trans (upi_self)) ?_
            have ek : sTook (f 47) s i b = ((mTakes (f 47) s i b)) (20 + i) := by
              unfold sTook
              rw [if_neg (fun z => by
                have z2 := oCaught_i.mp z
                first
                  | omega
                  | (rw [t28, q3] at h6; exact h6 z2.2.2.1))]; exact t20.symm
            refine kv_ri dX7_take_143 rfl (Eq.symm ?_) ?_
            · unfold sTake
              rw [if_pos (by omega), if_pos h3, ek]
            · rw [if_pos ⟨by omega, h3⟩]
              unfold mTook
              rw [ek]
          · refine kw_aload_n dX7_take_67 rfl ?_
            refine kv_getR (b := 50) dX7_take_68 kf_X7_22 rfl rfl rfl (hm (45, 5, 50) (by decide)) ?_
            refine kw_bipush dX7_take_71 (by decide) (by decide) ?_
            refine kv_iald dX7_take_73 rfl (by omega) (by omega) (congrFun kst_self _) ?_
            refine kw_aload_n dX7_take_74 rfl ?_
            refine kv_getR (b := 47) dX7_take_75 kf_X7_13 rfl rfl rfl (hm (45, 2, 47) (by decide)) ?_
            refine kw_iconst dX7_take_78 ⟨by decide, by decide⟩ ?_
            refine kv_iald dX7_take_79 rfl (by omega) (by omega) (congrFun (kst_ne (by decide)) _) ?_
            refine kw_irem dX7_take_80 (by omega) (by omega) ?_
            refine kw_if_ne (tgt := 106) dX7_take_81 (by decide) (fun h6 => ?_) (fun h6 => ?_)
            · refine kw_iconst dX7_take_106 ⟨by decide, by decide⟩ ?_
              refine kw_istore_n dX7_take_107 (by decide) trivial (L2 := [some (kA (45)), some (kI (i)), some (kI (b)), some (kI (0))]) rfl ?_
              refine kw_aload_n dX7_take_108 rfl ?_
              refine kv_getR (b := 50) dX7_take_109 kf_X7_22 rfl rfl rfl (hm (45, 5, 50) (by decide)) ?_
              refine kw_bipush dX7_take_112 (by decide) (by decide) ?_
              refine kw_iload_n dX7_take_114 rfl ?_
              refine kw_iadd dX7_take_115 ⟨by omega, by omega⟩ ?_
              refine kw_iload_n dX7_take_116 rfl ?_
              refine kw_if_eq (tgt := 124) dX7_take_117 (by decide) (kf := fun h => absurd (by decide) h) (kt := fun _ => ?_)
              refine kw_aload_n dX7_take_124 rfl ?_
              refine kv_getR (b := 50) dX7_take_125 kf_X7_22 rfl rfl rfl (hm (45, 5, 50) (by decide)) ?_
              refine kw_bipush dX7_take_128 (by decide) (by decide) ?_
              refine kw_iload_n dX7_take_130 rfl ?_
              refine kw_iadd dX7_take_131 ⟨by omega, by omega⟩ ?_
              refine kv_iald dX7_take_132 rfl (by omega) (by omega) (congrFun kst_self _) ?_
              refine kv_iast dX7_take_133 rfl (by omega) (by omega) ?_
              rw [kst_u]
              refine kw_aload_n dX7_take_134 rfl ?_
              refine kv_getR (b := 50) dX7_take_135 kf_X7_22 rfl rfl rfl (hm (45, 5, 50) (by decide)) ?_
              refine kw_bipush dX7_take_138 (by decide) (by decide) ?_
              refine kw_iload_n dX7_take_140 rfl ?_
              refine kw_iadd dX7_take_141 ⟨by omega, by omega⟩ ?_
              refine kv_iald dX7_take_142 rfl (by omega) (by omega) ((congrFun kst_self _).trans (upi_self)) ?_
              have ek : sTook (f 47) s i b = ((mTakes (f 47) s i b)) (20 + i) := by
                unfold sTook
                rw [if_neg (fun z => by
                  have z2 := oCaught_i.mp z
                  first
                    | omega
                    | (rw [t28, q3] at h6; exact h6 z2.2.2.1))]; exact t20.symm
              refine kv_ri dX7_take_143 rfl (Eq.symm ?_) ?_
              · unfold sTake
                rw [if_pos (by omega), if_pos h3, ek]
              · rw [if_pos ⟨by omega, h3⟩]
                unfold mTook
                rw [ek]
            · refine kw_aload_n dX7_take_84 rfl ?_
              refine kv_getR (b := 50) dX7_take_85 kf_X7_22 rfl rfl rfl (hm (45, 5, 50) (by decide)) ?_
              refine kw_bipush dX7_take_88 (by decide) (by decide) ?_
              refine kw_iload_n dX7_take_90 rfl ?_
              refine kw_iadd dX7_take_91 ⟨by omega, by omega⟩ ?_
              refine kv_iald dX7_take_92 rfl (by omega) (by omega) (congrFun kst_self _) ?_
              refine kw_aload_n dX7_take_93 rfl ?_
              refine kv_getR (b := 47) dX7_take_94 kf_X7_13 rfl rfl rfl (hm (45, 2, 47) (by decide)) ?_
              refine kw_iconst dX7_take_97 ⟨by decide, by decide⟩ ?_
              refine kv_iald dX7_take_98 rfl (by omega) (by omega) (congrFun (kst_ne (by decide)) _) ?_
              refine kw_icmp_le (tgt := 106) dX7_take_99 (by decide) (fun h7 => ?_) (fun h7 => ?_)
              · refine kw_iconst dX7_take_106 ⟨by decide, by decide⟩ ?_
                refine kw_istore_n dX7_take_107 (by decide) trivial (L2 := [some (kA (45)), some (kI (i)), some (kI (b)), some (kI (0))]) rfl ?_
                refine kw_aload_n dX7_take_108 rfl ?_
                refine kv_getR (b := 50) dX7_take_109 kf_X7_22 rfl rfl rfl (hm (45, 5, 50) (by decide)) ?_
                refine kw_bipush dX7_take_112 (by decide) (by decide) ?_
                refine kw_iload_n dX7_take_114 rfl ?_
                refine kw_iadd dX7_take_115 ⟨by omega, by omega⟩ ?_
                refine kw_iload_n dX7_take_116 rfl ?_
                refine kw_if_eq (tgt := 124) dX7_take_117 (by decide) (kf := fun h => absurd (by decide) h) (kt := fun _ => ?_)
                refine kw_aload_n dX7_take_124 rfl ?_
                refine kv_getR (b := 50) dX7_take_125 kf_X7_22 rfl rfl rfl (hm (45, 5, 50) (by decide)) ?_
                refine kw_bipush dX7_take_128 (by decide) (by decide) ?_
                refine kw_iload_n dX7_take_130 rfl ?_
                refine kw_iadd dX7_take_131 ⟨by omega, by omega⟩ ?_
                refine kv_iald dX7_take_132 rfl (by omega) (by omega) (congrFun kst_self _) ?_
                refine kv_iast dX7_take_133 rfl (by omega) (by omega) ?_
                rw [kst_u]
                refine kw_aload_n dX7_take_134 rfl ?_
                refine kv_getR (b := 50) dX7_take_135 kf_X7_22 rfl rfl rfl (hm (45, 5, 50) (by decide)) ?_
                refine kw_bipush dX7_take_138 (by decide) (by decide) ?_
                refine kw_iload_n dX7_take_140 rfl ?_
                refine kw_iadd dX7_take_141 ⟨by omega, by omega⟩ ?_
                refine kv_iald dX7_take_142 rfl (by omega) (by omega) ((congrFun kst_self _).trans (upi_self)) ?_
                have ek : sTook (f 47) s i b = ((mTakes (f 47) s i b)) (20 + i) := by
                  unfold sTook
                  rw [if_neg (fun z => by
                    have z2 := oCaught_i.mp z
                    first
                      | omega
                      | (rw [t28, q3] at h6; exact h6 z2.2.2.1))]; exact t20.symm
                refine kv_ri dX7_take_143 rfl (Eq.symm ?_) ?_
                · unfold sTake
                  rw [if_pos (by omega), if_pos h3, ek]
                · rw [if_pos ⟨by omega, h3⟩]
                  unfold mTook
                  rw [ek]
              · refine kw_iconst dX7_take_102 ⟨by decide, by decide⟩ ?_
                refine kw_goto (tgt := 107) dX7_take_103 (by decide) ?_
                refine kw_istore_n dX7_take_107 (by decide) trivial (L2 := [some (kA (45)), some (kI (i)), some (kI (b)), some (kI (1))]) rfl ?_
                refine kw_aload_n dX7_take_108 rfl ?_
                refine kv_getR (b := 50) dX7_take_109 kf_X7_22 rfl rfl rfl (hm (45, 5, 50) (by decide)) ?_
                refine kw_bipush dX7_take_112 (by decide) (by decide) ?_
                refine kw_iload_n dX7_take_114 rfl ?_
                refine kw_iadd dX7_take_115 ⟨by omega, by omega⟩ ?_
                refine kw_iload_n dX7_take_116 rfl ?_
                refine kw_if_eq (tgt := 124) dX7_take_117 (by decide) (kt := fun h => absurd h (by decide)) (kf := fun _ => ?_)
                refine kw_iconst dX7_take_120 ⟨by decide, by decide⟩ ?_
                refine kw_goto (tgt := 133) dX7_take_121 (by decide) ?_
                refine kv_iast dX7_take_133 rfl (by omega) (by omega) ?_
                rw [kst_u]
                refine kw_aload_n dX7_take_134 rfl ?_
                refine kv_getR (b := 50) dX7_take_135 kf_X7_22 rfl rfl rfl (hm (45, 5, 50) (by decide)) ?_
                refine kw_bipush dX7_take_138 (by decide) (by decide) ?_
                refine kw_iload_n dX7_take_140 rfl ?_
                refine kw_iadd dX7_take_141 ⟨by omega, by omega⟩ ?_
                refine kv_iald dX7_take_142 rfl (by omega) (by omega) ((congrFun kst_self _).trans (upi_self)) ?_
                have ek : sTook (f 47) s i b = 0 := by
                  unfold sTook
                  rw [if_pos (oCaught_i.mpr ⟨by omega, by omega, by rw [t28, q3] at h6; omega, by omega⟩)]
                refine kv_ri dX7_take_143 rfl (Eq.symm ?_) ?_
                · unfold sTake
                  rw [if_pos (by omega), if_pos h3, ek]
                · rw [if_pos ⟨by omega, h3⟩]
                  unfold mTook
                  rw [ek]
      · refine kw_bipush dX7_take_27 (by decide) (by decide) ?_
        exact kv_ri dX7_take_29 rfl (Eq.symm (by unfold sTake; first | (rw [if_neg (by omega)]; done) | rw [if_pos (by omega), if_neg h3])) (by rw [if_neg (by first | exact fun z => h3 z.2 | exact fun z => absurd z.1 (by omega))])
    · refine kw_iconst dX7_take_16 ⟨by decide, by decide⟩ ?_
      exact kv_ri dX7_take_17 rfl (Eq.symm (by unfold sTake; first | (rw [if_neg (by omega)]; done) | rw [if_pos (by omega), if_neg h3])) (by rw [if_neg (by first | exact fun z => h3 z.2 | exact fun z => absurd z.1 (by omega))])
