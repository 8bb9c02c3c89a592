/-! the model: its constructor -/
/-- the model's first n cells are naught -/
def kZm (f : Nat → Int → Int) (n : Nat) : Nat → Int → Int := fun b j => if 45 ≤ b ∧ b < 45 + n then 0 else f b j
theorem kZm_z {f : Nat → Int → Int} {n : Nat} : k_zi (kZm f n) (45 + n) = kZm f (n + 1) := by
  funext b j
  unfold k_zi kZm
  by_cases h : b = 45 + n
  · rw [if_pos h, if_pos (by omega)]
  · rw [if_neg h]
    by_cases q : 45 ≤ b ∧ b < 45 + n
    · rw [if_pos q, if_pos (by omega)]
    · rw [if_neg q, if_neg (by omega)]
theorem kZm_1 {f : Nat → Int → Int} : k_zi f 45 = kZm f 1 := by
  funext b j
  unfold k_zi kZm
  by_cases h : b = 45
  · rw [if_pos h, if_pos (by omega)]
  · rw [if_neg h, if_neg (by omega)]
theorem kZm_v {f : Nat → Int → Int} {n b : Nat} (h : 45 ≤ b ∧ b < 45 + n) : kZm f n b = fun _ => 0 := by
  funext j
  exact if_pos h
theorem kZm_o {f : Nat → Int → Int} {n b : Nat} (h : b < 45) : kZm f n b = f b := by
  funext j
  exact if_neg (by omega)
theorem km_newI {E : kEnv} {d mc ms mc2 ms2 : Nat} {M : kMd} {pc : Nat} {L : kLs} {S : List kV} {m m2 : List (Nat × Nat)} {f : Nat → Int → Int} {g : Nat → Int → Option Nat} {Q : Option kV → kH → Prop} {n : Int} {k a : Nat} (hd : decode M.2.1 pc = .ok (.newarray .int, 2)) (h0 : 0 ≤ n) (h1 : n ≤ 1000) (ha : m.length = a) (hl : a < 999999) (hmc : mc2 + 1 ≤ mc) (hms : ms2 + n.toNat ≤ ms) (em : m ++ [(100, n.toNat)] = m2) (hk : a = 45 + k) (kk : kW E d mc2 ms2 M (pc + 2) L (kA a :: S) (m2, kZm f (k + 1), k_zr g a) Q) : kW E d mc ms M pc L (kI n :: S) (m, kZm f k, g) Q :=
  kw_newI hd h0 h1 ha hl hmc hms (by
    have e : k_new (m, kZm f k, g) (100, n.toNat) = (m2, kZm f (k + 1), k_zr g a) := by
      subst ha em
      show (m ++ [_], k_zi (kZm f k) m.length, k_zr g m.length) = _
      rw [hk, kZm_z]
    rw [e]
    exact kk)
def mF0 (f : Nat → Int → Int) : Nat → Int → Int := kBg (kZm f 11)
theorem mF0_48 {f : Nat → Int → Int} : mF0 f 48 = fT0 := kBg_48.trans (by rw [kZm_v (by decide)]; rfl)
theorem mF0_49 {f : Nat → Int → Int} : mF0 f 49 = fS0 := kBg_49.trans (by rw [kZm_v (by decide)]; rfl)
theorem mF0_o {f : Nat → Int → Int} {a : Nat} (h : a ≠ 48 ∧ a ≠ 49) : mF0 f a = kZm f 11 a := kBg_o h
def mF1 (f : Nat → Int → Int) : Nat → Int → Int := kBo (mF0 f) 0 6 4 0
theorem mF1_48 {f : Nat → Int → Int} : mF1 f 48 = fT1 := kBo_48.trans (by rw [mF0_48]; rfl)
theorem mF1_49 {f : Nat → Int → Int} : mF1 f 49 = fS1 := kBo_49.trans (by rw [mF0_48, mF0_49]; rfl)
theorem mF1_o {f : Nat → Int → Int} {a : Nat} (h : a ≠ 48 ∧ a ≠ 49) : mF1 f a = kZm f 11 a := (kBo_o h).trans (mF0_o h)
def mF2 (f : Nat → Int → Int) : Nat → Int → Int := kBo (mF1 f) 0 9 7 2
theorem mF2_48 {f : Nat → Int → Int} : mF2 f 48 = fT2 := kBo_48.trans (by rw [mF1_48]; rfl)
theorem mF2_49 {f : Nat → Int → Int} : mF2 f 49 = fS2 := kBo_49.trans (by rw [mF1_48, mF1_49]; rfl)
theorem mF2_o {f : Nat → Int → Int} {a : Nat} (h : a ≠ 48 ∧ a ≠ 49) : mF2 f a = kZm f 11 a := (kBo_o h).trans (mF1_o h)
def mF3 (f : Nat → Int → Int) : Nat → Int → Int := kBo (mF2 f) 1 5 9 0
theorem mF3_48 {f : Nat → Int → Int} : mF3 f 48 = fT3 := kBo_48.trans (by rw [mF2_48]; rfl)
theorem mF3_49 {f : Nat → Int → Int} : mF3 f 49 = fS3 := kBo_49.trans (by rw [mF2_48, mF2_49]; rfl)
theorem mF3_o {f : Nat → Int → Int} {a : Nat} (h : a ≠ 48 ∧ a ≠ 49) : mF3 f a = kZm f 11 a := (kBo_o h).trans (mF2_o h)
def mF4 (f : Nat → Int → Int) : Nat → Int → Int := kBo (mF3 f) 2 4 5 1
theorem mF4_48 {f : Nat → Int → Int} : mF4 f 48 = fT4 := kBo_48.trans (by rw [mF3_48]; rfl)
theorem mF4_49 {f : Nat → Int → Int} : mF4 f 49 = fS4 := kBo_49.trans (by rw [mF3_48, mF3_49]; rfl)
theorem mF4_o {f : Nat → Int → Int} {a : Nat} (h : a ≠ 48 ∧ a ≠ 49) : mF4 f a = kZm f 11 a := (kBo_o h).trans (mF3_o h)
def mF5 (f : Nat → Int → Int) : Nat → Int → Int := kBo (mF4 f) 3 15 3 4
theorem mF5_48 {f : Nat → Int → Int} : mF5 f 48 = fT5 := kBo_48.trans (by rw [mF4_48]; rfl)
theorem mF5_49 {f : Nat → Int → Int} : mF5 f 49 = fS5 := kBo_49.trans (by rw [mF4_48, mF4_49]; rfl)
theorem mF5_o {f : Nat → Int → Int} {a : Nat} (h : a ≠ 48 ∧ a ≠ 49) : mF5 f a = kZm f 11 a := (kBo_o h).trans (mF4_o h)
def mF6 (f : Nat → Int → Int) : Nat → Int → Int := kBo (mF5 f) 0 12 6 8
theorem mF6_48 {f : Nat → Int → Int} : mF6 f 48 = fT6 := kBo_48.trans (by rw [mF5_48]; rfl)
theorem mF6_49 {f : Nat → Int → Int} : mF6 f 49 = fS6 := kBo_49.trans (by rw [mF5_48, mF5_49]; rfl)
theorem mF6_o {f : Nat → Int → Int} {a : Nat} (h : a ≠ 48 ∧ a ≠ 49) : mF6 f a = kZm f 11 a := (kBo_o h).trans (mF5_o h)
def mF7 (f : Nat → Int → Int) : Nat → Int → Int := kTn (mF6 f) 6 8 9
theorem mF7_48 {f : Nat → Int → Int} : mF7 f 48 = fT7 := kTn_48.trans (by rw [mF6_48]; rfl)
theorem mF7_49 {f : Nat → Int → Int} : mF7 f 49 = fS7 := kTn_49.trans (by rw [mF6_48, mF6_49]; rfl)
theorem mF7_o {f : Nat → Int → Int} {a : Nat} (h : a ≠ 48 ∧ a ≠ 49) : mF7 f a = kZm f 11 a := (kTn_o h).trans (mF6_o h)
def mF8 (f : Nat → Int → Int) : Nat → Int → Int := kTn (mF7 f) 10 6 12
theorem mF8_48 {f : Nat → Int → Int} : mF8 f 48 = fT8 := kTn_48.trans (by rw [mF7_48]; rfl)
theorem mF8_49 {f : Nat → Int → Int} : mF8 f 49 = fS8 := kTn_49.trans (by rw [mF7_48, mF7_49]; rfl)
theorem mF8_o {f : Nat → Int → Int} {a : Nat} (h : a ≠ 48 ∧ a ≠ 49) : mF8 f a = kZm f 11 a := (kTn_o h).trans (mF7_o h)
def mF9 (f : Nat → Int → Int) : Nat → Int → Int := kTn (mF8 f) 7 9 6
theorem mF9_48 {f : Nat → Int → Int} : mF9 f 48 = fT9 := kTn_48.trans (by rw [mF8_48]; rfl)
theorem mF9_49 {f : Nat → Int → Int} : mF9 f 49 = fS9 := kTn_49.trans (by rw [mF8_48, mF8_49]; rfl)
theorem mF9_o {f : Nat → Int → Int} {a : Nat} (h : a ≠ 48 ∧ a ≠ 49) : mF9 f a = kZm f 11 a := (kTn_o h).trans (mF8_o h)
/-- the model's references -/
def kgM (g : Nat → Int → Option Nat) : Nat → Int → Option Nat := k_u ((k_zr (k_u ((k_zr (k_u ((k_zr (k_u ((k_zr (k_u ((k_zr (k_u ((k_zr (k_u ((k_zr (k_u ((k_zr (k_u ((k_zr (k_u ((k_zr g 46)) 45 0 (some 46)) 47)) 45 2 (some 47)) 48)) 45 3 (some 48)) 49)) 45 4 (some 49)) 50)) 45 5 (some 50)) 51)) 45 6 (some 51)) 52)) 45 8 (some 52)) 53)) 45 11 (some 53)) 54)) 45 12 (some 54)) 55)) 45 13 (some 55)
theorem kgM_M {g : Nat → Int → Option Nat} : kGM (kgM g) := by
  intro q hq
  simp only [kGLM, List.mem_cons, List.not_mem_nil, or_false] at hq
  rcases hq with rfl | rfl | rfl | rfl | rfl | rfl | rfl | rfl | rfl | rfl <;> rfl
theorem kgM_o {g : Nat → Int → Option Nat} {b : Nat} (h : b < 45) : kgM g b = g b := by
  have hz : ∀ (g : Nat → Int → Option Nat) (a : Nat), 45 ≤ a → k_zr g a b = g b := fun g a ha => by funext j; exact if_neg (by omega)
  have hu : ∀ (g : Nat → Int → Option Nat) (a : Nat) (i : Int) (v : Option Nat), 45 ≤ a → k_u g a i v b = g b := fun g a i v ha => by funext j; exact k_u_ne (by omega)
  unfold kgM
  simp only [hz _ _ (by decide : 45 ≤ 46), hz _ _ (by decide : 45 ≤ 47), hz _ _ (by decide : 45 ≤ 48), hz _ _ (by decide : 45 ≤ 49), hz _ _ (by decide : 45 ≤ 50), hz _ _ (by decide : 45 ≤ 51), hz _ _ (by decide : 45 ≤ 52), hz _ _ (by decide : 45 ≤ 53), hz _ _ (by decide : 45 ≤ 54), hz _ _ (by decide : 45 ≤ 55), hu _ 45 _ _ (by decide)]
theorem c_init7 {E : kEnv} {f : Nat → Int → Int} {g : Nat → Int → Option Nat} : kC E 1 10 663 M_X7_init [kA 45] (kMC ++ kMM.take 1, kZm f 1, g) (fun r h' => r = none ∧ ∃ f2, h' = ((kMC ++ kMM), kst f2 50 (kLt fS11 (fun _ => 0) 29), kgM g) ∧ f2 47 = kLt fT11 (fun _ => 0) 37 ∧ f2 45 1 = 0 ∧ f2 45 7 = 0 ∧ f2 45 9 = 0 ∧ ∀ b : Nat, b < 45 → f2 b = f b) := by
  refine kC_of (by decide) (by simp [k_one]) (Nat.le_of_ble_eq_true rfl) ?_
  refine (show kW E 1 10 663 M_X7_init 0 [some (kA 45)] [] (kMC ++ kMM.take 1, kZm f 1, g) _ from ?_)
  refine kw_aload_n dX7_init_0 rfl ?_
  refine kw_objInit dX7_init_1 ml_X7_1 (by omega) (by decide) (by omega) ?_
  refine kw_aload_n dX7_init_4 rfl ?_
  refine kw_sipush dX7_init_5 (by decide) (by decide) ?_
  refine km_newI (k := 1) dX7_init_8 (by decide) (by decide) (a := 46) (mc2 := 9) (ms2 := 463) (m2 := (kMC ++ kMM.take 2)) rfl (by decide) (by decide) (by decide) rfl rfl ?_
  refine kv_putR (kz := 0) dX7_init_10 kp_X7_7 rfl rfl (by omega) (fun _ => rfl) rfl ?_
  refine kw_aload_n dX7_init_13 rfl ?_
  refine kw_bipush dX7_init_14 (by decide) (by decide) ?_
  refine km_newI (k := 2) dX7_init_16 (by decide) (by decide) (a := 47) (mc2 := 8) (ms2 := 426) (m2 := (kMC ++ kMM.take 3)) rfl (by decide) (by decide) (by decide) rfl rfl ?_
  refine kv_putR (kz := 2) dX7_init_18 kp_X7_13 rfl rfl (by omega) (fun _ => rfl) rfl ?_
  refine kw_aload_n dX7_init_21 rfl ?_
  refine kw_bipush dX7_init_22 (by decide) (by decide) ?_
  refine km_newI (k := 3) dX7_init_24 (by decide) (by decide) (a := 48) (mc2 := 7) (ms2 := 389) (m2 := (kMC ++ kMM.take 4)) rfl (by decide) (by decide) (by decide) rfl rfl ?_
  refine kv_putR (kz := 3) dX7_init_26 kp_X7_16 rfl rfl (by omega) (fun _ => rfl) rfl ?_
  refine kw_aload_n dX7_init_29 rfl ?_
  refine kw_bipush dX7_init_30 (by decide) (by decide) ?_
  refine km_newI (k := 4) dX7_init_32 (by decide) (by decide) (a := 49) (mc2 := 6) (ms2 := 360) (m2 := (kMC ++ kMM.take 5)) rfl (by decide) (by decide) (by decide) rfl rfl ?_
  refine kv_putR (kz := 4) dX7_init_34 kp_X7_19 rfl rfl (by omega) (fun _ => rfl) rfl ?_
  refine kw_aload_n dX7_init_37 rfl ?_
  refine kw_bipush dX7_init_38 (by decide) (by decide) ?_
  refine km_newI (k := 5) dX7_init_40 (by decide) (by decide) (a := 50) (mc2 := 5) (ms2 := 331) (m2 := (kMC ++ kMM.take 6)) rfl (by decide) (by decide) (by decide) rfl rfl ?_
  refine kv_putR (kz := 5) dX7_init_42 kp_X7_22 rfl rfl (by omega) (fun _ => rfl) rfl ?_
  refine kw_aload_n dX7_init_45 rfl ?_
  refine kw_sipush dX7_init_46 (by decide) (by decide) ?_
  refine km_newI (k := 6) dX7_init_49 (by decide) (by decide) (a := 51) (mc2 := 4) (ms2 := 99) (m2 := (kMC ++ kMM.take 7)) rfl (by decide) (by decide) (by decide) rfl rfl ?_
  refine kv_putR (kz := 6) dX7_init_51 kp_X7_25 rfl rfl (by omega) (fun _ => rfl) rfl ?_
  refine kw_aload_n dX7_init_54 rfl ?_
  refine kw_bipush dX7_init_55 (by decide) (by decide) ?_
  refine km_newI (k := 7) dX7_init_57 (by decide) (by decide) (a := 52) (mc2 := 3) (ms2 := 41) (m2 := (kMC ++ kMM.take 8)) rfl (by decide) (by decide) (by decide) rfl rfl ?_
  refine kv_putR (kz := 8) dX7_init_59 kp_X7_28 rfl rfl (by omega) (fun _ => rfl) rfl ?_
  refine kw_aload_n dX7_init_62 rfl ?_
  refine kw_bipush dX7_init_63 (by decide) (by decide) ?_
  refine km_newI (k := 8) dX7_init_65 (by decide) (by decide) (a := 53) (mc2 := 2) (ms2 := 12) (m2 := (kMC ++ kMM.take 9)) rfl (by decide) (by decide) (by decide) rfl rfl ?_
  refine kv_putR (kz := 11) dX7_init_67 kp_X7_31 rfl rfl (by omega) (fun _ => rfl) rfl ?_
  refine kw_aload_n dX7_init_70 rfl ?_
  refine kw_iconst dX7_init_71 ⟨by decide, by decide⟩ ?_
  refine km_newI (k := 9) dX7_init_72 (by decide) (by decide) (a := 54) (mc2 := 1) (ms2 := 8) (m2 := (kMC ++ kMM.take 10)) rfl (by decide) (by decide) (by decide) rfl rfl ?_
  refine kv_putR (kz := 12) dX7_init_74 kp_X7_34 rfl rfl (by omega) (fun _ => rfl) rfl ?_
  refine kw_aload_n dX7_init_77 rfl ?_
  refine kw_bipush dX7_init_78 (by decide) (by decide) ?_
  refine km_newI (k := 10) dX7_init_80 (by decide) (by decide) (a := 55) (mc2 := 0) (ms2 := 0) (m2 := (kMC ++ kMM.take 11)) rfl (by decide) (by decide) (by decide) rfl rfl ?_
  refine kv_putR (kz := 13) dX7_init_82 kp_X7_37 rfl rfl (by omega) (fun _ => rfl) rfl ?_
  have hm : kGM (kgM g) := kgM_M
  rw [show kZm f 11 = kst (kZm f 11) 50 (fun _ => 0) from by
    have z := kst_0 (f := kZm f 11) (a := 50)
    rw [kZm_v (b := 50) (by decide)] at z
    exact z.symm]
  refine (show kW E 1 0 0 M_X7_init 85 [some (kA 45)] [] ((kMC ++ kMM), kst (kZm f 11) 50 (fun _ => 0), kgM g) _ from ?_)
  refine kw_aload_n dX7_init_85 rfl ?_
  refine kv_callV0 (M2 := M_X7_begins) (As := []) dX7_init_86 ml_X7_40 q_X7_begins rfl rfl rfl (Nat.le_of_ble_eq_true rfl) (show kF E 0 M_X7_begins [kA 45] ((kMC ++ kMM), kst (kZm f 11) 50 (fun _ => 0), kgM g) none ((kMC ++ kMM), kst (mF0 f) 50 (fun _ => 0), kgM g) from c_mbegins hm) (by omega) ?_
  refine kw_aload_n dX7_init_89 rfl ?_
  refine kw_iconst dX7_init_90 ⟨by decide, by decide⟩ ?_
  refine kw_bipush dX7_init_91 (by decide) (by decide) ?_
  refine kw_iconst dX7_init_93 ⟨by decide, by decide⟩ ?_
  refine kw_iconst dX7_init_94 ⟨by decide, by decide⟩ ?_
  refine kv_callV0 (M2 := M_X7_boughOf) (As := [kI (0), kI (6), kI (4), kI (0)]) dX7_init_95 ml_X7_43 q_X7_boughOf rfl rfl rfl (Nat.le_of_ble_eq_true rfl) (show kF E 0 M_X7_boughOf [kA 45, kI 0, kI 6, kI 4, kI 0] ((kMC ++ kMM), kst (mF0 f) 50 (fun _ => 0), kgM g) none ((kMC ++ kMM), kst (mF1 f) 50 (fun _ => 0), kgM g) from c_mbo hm (by rw [mF0_48]; decide +kernel)) (by omega) ?_
  refine kw_aload_n dX7_init_98 rfl ?_
  refine kw_iconst dX7_init_99 ⟨by decide, by decide⟩ ?_
  refine kw_bipush dX7_init_100 (by decide) (by decide) ?_
  refine kw_bipush dX7_init_102 (by decide) (by decide) ?_
  refine kw_iconst dX7_init_104 ⟨by decide, by decide⟩ ?_
  refine kv_callV0 (M2 := M_X7_boughOf) (As := [kI (0), kI (9), kI (7), kI (2)]) dX7_init_105 ml_X7_43 q_X7_boughOf rfl rfl rfl (Nat.le_of_ble_eq_true rfl) (show kF E 0 M_X7_boughOf [kA 45, kI 0, kI 9, kI 7, kI 2] ((kMC ++ kMM), kst (mF1 f) 50 (fun _ => 0), kgM g) none ((kMC ++ kMM), kst (mF2 f) 50 (fun _ => 0), kgM g) from c_mbo hm (by rw [mF1_48]; decide +kernel)) (by omega) ?_
  refine kw_aload_n dX7_init_108 rfl ?_
  refine kw_iconst dX7_init_109 ⟨by decide, by decide⟩ ?_
  refine kw_iconst dX7_init_110 ⟨by decide, by decide⟩ ?_
  refine kw_bipush dX7_init_111 (by decide) (by decide) ?_
  refine kw_iconst dX7_init_113 ⟨by decide, by decide⟩ ?_
  refine kv_callV0 (M2 := M_X7_boughOf) (As := [kI (1), kI (5), kI (9), kI (0)]) dX7_init_114 ml_X7_43 q_X7_boughOf rfl rfl rfl (Nat.le_of_ble_eq_true rfl) (show kF E 0 M_X7_boughOf [kA 45, kI 1, kI 5, kI 9, kI 0] ((kMC ++ kMM), kst (mF2 f) 50 (fun _ => 0), kgM g) none ((kMC ++ kMM), kst (mF3 f) 50 (fun _ => 0), kgM g) from c_mbo hm (by rw [mF2_48]; decide +kernel)) (by omega) ?_
  refine kw_aload_n dX7_init_117 rfl ?_
  refine kw_iconst dX7_init_118 ⟨by decide, by decide⟩ ?_
  refine kw_iconst dX7_init_119 ⟨by decide, by decide⟩ ?_
  refine kw_iconst dX7_init_120 ⟨by decide, by decide⟩ ?_
  refine kw_iconst dX7_init_121 ⟨by decide, by decide⟩ ?_
  refine kv_callV0 (M2 := M_X7_boughOf) (As := [kI (2), kI (4), kI (5), kI (1)]) dX7_init_122 ml_X7_43 q_X7_boughOf rfl rfl rfl (Nat.le_of_ble_eq_true rfl) (show kF E 0 M_X7_boughOf [kA 45, kI 2, kI 4, kI 5, kI 1] ((kMC ++ kMM), kst (mF3 f) 50 (fun _ => 0), kgM g) none ((kMC ++ kMM), kst (mF4 f) 50 (fun _ => 0), kgM g) from c_mbo hm (by rw [mF3_48]; decide +kernel)) (by omega) ?_
  refine kw_aload_n dX7_init_125 rfl ?_
  refine kw_iconst dX7_init_126 ⟨by decide, by decide⟩ ?_
  refine kw_bipush dX7_init_127 (by decide) (by decide) ?_
  refine kw_iconst dX7_init_129 ⟨by decide, by decide⟩ ?_
  refine kw_iconst dX7_init_130 ⟨by decide, by decide⟩ ?_
  refine kv_callV0 (M2 := M_X7_boughOf) (As := [kI (3), kI (15), kI (3), kI (4)]) dX7_init_131 ml_X7_43 q_X7_boughOf rfl rfl rfl (Nat.le_of_ble_eq_true rfl) (show kF E 0 M_X7_boughOf [kA 45, kI 3, kI 15, kI 3, kI 4] ((kMC ++ kMM), kst (mF4 f) 50 (fun _ => 0), kgM g) none ((kMC ++ kMM), kst (mF5 f) 50 (fun _ => 0), kgM g) from c_mbo hm (by rw [mF4_48]; decide +kernel)) (by omega) ?_
  refine kw_aload_n dX7_init_134 rfl ?_
  refine kw_iconst dX7_init_135 ⟨by decide, by decide⟩ ?_
  refine kw_bipush dX7_init_136 (by decide) (by decide) ?_
  refine kw_bipush dX7_init_138 (by decide) (by decide) ?_
  refine kw_bipush dX7_init_140 (by decide) (by decide) ?_
  refine kv_callV0 (M2 := M_X7_boughOf) (As := [kI (0), kI (12), kI (6), kI (8)]) dX7_init_142 ml_X7_43 q_X7_boughOf rfl rfl rfl (Nat.le_of_ble_eq_true rfl) (show kF E 0 M_X7_boughOf [kA 45, kI 0, kI 12, kI 6, kI 8] ((kMC ++ kMM), kst (mF5 f) 50 (fun _ => 0), kgM g) none ((kMC ++ kMM), kst (mF6 f) 50 (fun _ => 0), kgM g) from c_mbo hm (by rw [mF5_48]; decide +kernel)) (by omega) ?_
  refine kw_aload_n dX7_init_145 rfl ?_
  refine kw_bipush dX7_init_146 (by decide) (by decide) ?_
  refine kw_bipush dX7_init_148 (by decide) (by decide) ?_
  refine kw_bipush dX7_init_150 (by decide) (by decide) ?_
  refine kv_callV0 (M2 := M_X7_tenantOf) (As := [kI (6), kI (8), kI (9)]) dX7_init_152 ml_X7_47 q_X7_tenantOf rfl rfl rfl (Nat.le_of_ble_eq_true rfl) (show kF E 0 M_X7_tenantOf [kA 45, kI 6, kI 8, kI 9] ((kMC ++ kMM), kst (mF6 f) 50 (fun _ => 0), kgM g) none ((kMC ++ kMM), kst (mF7 f) 50 (fun _ => 0), kgM g) from c_mtn hm (by rw [mF6_48]; decide +kernel)) (by omega) ?_
  refine kw_aload_n dX7_init_155 rfl ?_
  refine kw_bipush dX7_init_156 (by decide) (by decide) ?_
  refine kw_bipush dX7_init_158 (by decide) (by decide) ?_
  refine kw_bipush dX7_init_160 (by decide) (by decide) ?_
  refine kv_callV0 (M2 := M_X7_tenantOf) (As := [kI (10), kI (6), kI (12)]) dX7_init_162 ml_X7_47 q_X7_tenantOf rfl rfl rfl (Nat.le_of_ble_eq_true rfl) (show kF E 0 M_X7_tenantOf [kA 45, kI 10, kI 6, kI 12] ((kMC ++ kMM), kst (mF7 f) 50 (fun _ => 0), kgM g) none ((kMC ++ kMM), kst (mF8 f) 50 (fun _ => 0), kgM g) from c_mtn hm (by rw [mF7_48]; decide +kernel)) (by omega) ?_
  refine kw_aload_n dX7_init_165 rfl ?_
  refine kw_bipush dX7_init_166 (by decide) (by decide) ?_
  refine kw_bipush dX7_init_168 (by decide) (by decide) ?_
  refine kw_bipush dX7_init_170 (by decide) (by decide) ?_
  refine kv_callV0 (M2 := M_X7_tenantOf) (As := [kI (7), kI (9), kI (6)]) dX7_init_172 ml_X7_47 q_X7_tenantOf rfl rfl rfl (Nat.le_of_ble_eq_true rfl) (show kF E 0 M_X7_tenantOf [kA 45, kI 7, kI 9, kI 6] ((kMC ++ kMM), kst (mF8 f) 50 (fun _ => 0), kgM g) none ((kMC ++ kMM), kst (mF9 f) 50 (fun _ => 0), kgM g) from c_mtn hm (by rw [mF8_48]; decide +kernel)) (by omega) ?_
  refine kw_aload_n dX7_init_175 rfl ?_
  refine kv_getR (b := 48) dX7_init_176 kf_X7_16 rfl rfl rfl (hm (45, 3, 48) (by decide)) ?_
  refine kw_iconst dX7_init_179 ⟨by decide, by decide⟩ ?_
  refine kw_bipush dX7_init_180 (by decide) (by decide) ?_
  refine kv_iast dX7_init_182 rfl (by omega) (by omega) ?_
  rw [kst_uc (by decide)]
  refine kw_aload_n dX7_init_183 rfl ?_
  refine kv_getR (b := 48) dX7_init_184 kf_X7_16 rfl rfl rfl (hm (45, 3, 48) (by decide)) ?_
  refine kw_iconst dX7_init_187 ⟨by decide, by decide⟩ ?_
  refine kw_iconst dX7_init_188 ⟨by decide, by decide⟩ ?_
  refine kv_iast dX7_init_189 rfl (by omega) (by omega) ?_
  rw [kst_uc (by decide)]
  refine kw_aload_n dX7_init_190 rfl ?_
  refine kv_getR (b := 48) dX7_init_191 kf_X7_16 rfl rfl rfl (hm (45, 3, 48) (by decide)) ?_
  refine kw_iconst dX7_init_194 ⟨by decide, by decide⟩ ?_
  refine kw_bipush dX7_init_195 (by decide) (by decide) ?_
  refine kv_iast dX7_init_197 rfl (by omega) (by omega) ?_
  rw [kst_uc (by decide)]
  refine kw_aload_n dX7_init_198 rfl ?_
  refine kv_callV0 (M2 := M_X7_lays) (As := []) dX7_init_199 ml_X7_51 q_X7_lays rfl rfl rfl (Nat.le_of_ble_eq_true rfl) (c_mlays hm) (by omega) ?_
  have e48 : (k_u (k_u (k_u (mF9 f) 48 2 8) 48 3 3) 48 4 6) 48 = fT11 := by
    rw [k_u_row, k_u_row, k_u_row, mF9_48]
    rfl
  have e49 : (k_u (k_u (k_u (mF9 f) 48 2 8) 48 3 3) 48 4 6) 49 = fS11 := by
    rw [k_u_off (by decide), k_u_off (by decide), k_u_off (by decide), mF9_49]
    rfl
  have eo : ∀ a : Nat, a ≠ 45 → a ≠ 47 → a ≠ 48 → a ≠ 49 → (k_u (k_u (kCy (k_u (k_u (k_u (mF9 f) 48 2 8) 48 3 3) 48 4 6) 37) 45 7 0) 45 9 0) a = kZm f 11 a := fun a u1 u2 u3 u4 => by
    rw [k_u_off u1, k_u_off u1, kCy_o u2, k_u_off u3, k_u_off u3, k_u_off u3]
    exact mF9_o ⟨u3, u4⟩
  rw [e49]
  refine kw_ret dX7_init_202 rfl ⟨rfl, _, rfl, ?_, ?_, (k_u_ne2 (by decide)).trans k_u_self, k_u_self, fun b hb => ?_⟩
  · rw [k_u_off (by decide), k_u_off (by decide), kCy_47, e48, k_u_off (by decide), k_u_off (by decide), k_u_off (by decide), mF9_o (by decide), kZm_v (by decide)]
  · rw [k_u_ne2 (by decide), k_u_ne2 (by decide), kCy_o (by decide), k_u_off (by decide), k_u_off (by decide), k_u_off (by decide), mF9_o (by decide), kZm_v (by decide)]
  · rw [eo b (by omega) (by omega) (by omega) (by omega), kZm_o hb]
