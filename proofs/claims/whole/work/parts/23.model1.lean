/-! the model's methods, the small ones -/
def kGLM : List (Nat × Nat × Nat) := [(45, 0, 46), (45, 2, 47), (45, 3, 48), (45, 4, 49), (45, 5, 50), (45, 6, 51), (45, 8, 52), (45, 11, 53), (45, 12, 54), (45, 13, 55)]
def kGM (g : Nat → Int → Option Nat) : Prop := ∀ q ∈ kGLM, g q.1 (q.2.1 : Int) = some q.2.2
theorem kst_uc {f : Nat → Int → Int} {a b : Nat} {s : Int → Int} {i v : Int} (h : b ≠ a) : k_u (kst f a s) b i v = kst (k_u f b i v) a s := by
  funext c j
  unfold k_u kst
  by_cases h1 : c = a
  · subst h1
    rw [if_neg (fun q => h q.1.symm), if_pos rfl, if_pos rfl]
  · rw [if_neg h1, if_neg h1]
section KW10
variable {E : kEnv} {d mc ms : Nat} {M : kMd} {pc : Nat} {L : kLs} {S : List kV} {h : kH} {Q : Option kV → kH → Prop}
theorem kv_or0 {x : Int} (hd : decode M.2.1 pc = .ok (.ior, 1)) (k : kW E d mc ms M (pc + 1) L (kI x :: S) h Q) : kW E d mc ms M pc L (kI 0 :: kI x :: S) h Q := by
  intro p e R s mm args below meth c H ls locs cells slots QQ cx g1 g2 hl hS hH hR hV kk
  have hx : k_in x := (k_tl (k_tl hS).2).1
  refine kw_iorG hd hx ?_ k p e R s mm args below meth c H ls locs cells slots QQ cx g1 g2 hl hS hH hR hV kk
  show Int32.ofInt x ||| 0 = _
  simp
end KW10
theorem c_min {E : kEnv} {h : kH} {v lo hi : Int} : kF E 0 M_X7_in [kI v, kI lo, kI hi] h (some (kI (if lo ≤ v ∧ v ≤ hi then 1 else 0))) h := by
  refine kF_of (by decide) (by simp [k_one]) (Nat.le_of_ble_eq_true rfl) (L := [some (kI v), some (kI lo), some (kI hi)]) rfl ?_
  refine kw_iload_n dX7_in_0 rfl ?_
  refine kw_iload_n dX7_in_1 rfl ?_
  refine kw_icmp_lt (tgt := 14) dX7_in_2 (by decide) (fun h1 => ?_) (fun h1 => ?_)
  · refine kw_iconst dX7_in_14 ⟨by decide, by decide⟩ ?_
    exact kv_rb dX7_in_15 rfl (by first | rfl | omega | (split <;> omega) | ((repeat' split) <;> omega) | grind) (by first | rfl | rw [if_pos (by omega)] | rw [if_neg (by omega)] | grind)
  · refine kw_iload_n dX7_in_5 rfl ?_
    refine kw_iload_n dX7_in_6 rfl ?_
    refine kw_icmp_gt (tgt := 14) dX7_in_7 (by decide) (fun h2 => ?_) (fun h2 => ?_)
    · refine kw_iconst dX7_in_14 ⟨by decide, by decide⟩ ?_
      exact kv_rb dX7_in_15 rfl (by first | rfl | omega | (split <;> omega) | ((repeat' split) <;> omega) | grind) (by first | rfl | rw [if_pos (by omega)] | rw [if_neg (by omega)] | grind)
    · refine kw_iconst dX7_in_10 ⟨by decide, by decide⟩ ?_
      refine kw_goto (tgt := 15) dX7_in_11 (by decide) ?_
      exact kv_rb dX7_in_15 rfl (by first | rfl | omega | (split <;> omega) | ((repeat' split) <;> omega) | grind) (by first | rfl | rw [if_pos (by omega)] | rw [if_neg (by omega)] | grind)
theorem c_misBough {E : kEnv} {f : Nat → Int → Int} {s : Int → Int} {g : Nat → Int → Option Nat} {b : Int} (hm : kGM g) (hT : mTO (f 47)) : kF E 1 M_X7_isBough [kA (45), kI (b)] ((kMC ++ kMM), kst f 50 s, g) (some (kI (if 0 ≤ b ∧ b ≤ f 47 0 - 1 then 1 else 0))) ((kMC ++ kMM), kst f 50 s, g) := by
  refine kF_of (by decide) (by simp [k_one]) (Nat.le_of_ble_eq_true rfl) (L := [some (kA (45)), some (kI (b))]) rfl ?_
  have n0 := hT.1
  have n1 := hT.2.1
  refine kw_iload_n dX7_isBough_0 rfl ?_
  refine kw_iconst dX7_isBough_1 ⟨by decide, by decide⟩ ?_
  refine kw_aload_n dX7_isBough_2 rfl ?_
  refine kv_getR (b := 47) dX7_isBough_3 kf_X7_13 rfl rfl rfl (hm (45, 2, 47) (by decide)) ?_
  refine kw_iconst dX7_isBough_6 ⟨by decide, by decide⟩ ?_
  refine kv_iald dX7_isBough_7 rfl (by omega) (by omega) (congrFun (kst_ne (by decide)) _) ?_
  refine kw_iconst dX7_isBough_8 ⟨by decide, by decide⟩ ?_
  refine kw_isub dX7_isBough_9 ⟨by omega, by omega⟩ ?_
  refine kv_callS1 (M2 := M_X7_in) (As := [kI (b), kI (0), kI ((f 47 0) - 1)]) dX7_isBough_10 ml_X7_54 q_X7_in rfl (Nat.le_of_ble_eq_true rfl) (c_min) (by omega) ?_
  exact kv_rb dX7_isBough_13 rfl (by first | rfl | omega | (split <;> omega) | ((repeat' split) <;> omega) | grind) (by first | rfl | rw [if_pos (by omega)] | rw [if_neg (by omega)] | grind)
theorem c_misTenant {E : kEnv} {f : Nat → Int → Int} {s : Int → Int} {g : Nat → Int → Option Nat} {i : Int} (hm : kGM g) (hT : mTO (f 47)) : kF E 1 M_X7_isTenant [kA (45), kI (i)] ((kMC ++ kMM), kst f 50 s, g) (some (kI (if 0 ≤ i ∧ i ≤ f 47 1 - 1 then 1 else 0))) ((kMC ++ kMM), kst f 50 s, g) := by
  refine kF_of (by decide) (by simp [k_one]) (Nat.le_of_ble_eq_true rfl) (L := [some (kA (45)), some (kI (i))]) rfl ?_
  have n0 := hT.1
  have n1 := hT.2.1
  refine kw_iload_n dX7_isTenant_0 rfl ?_
  refine kw_iconst dX7_isTenant_1 ⟨by decide, by decide⟩ ?_
  refine kw_aload_n dX7_isTenant_2 rfl ?_
  refine kv_getR (b := 47) dX7_isTenant_3 kf_X7_13 rfl rfl rfl (hm (45, 2, 47) (by decide)) ?_
  refine kw_iconst dX7_isTenant_6 ⟨by decide, by decide⟩ ?_
  refine kv_iald dX7_isTenant_7 rfl (by omega) (by omega) (congrFun (kst_ne (by decide)) _) ?_
  refine kw_iconst dX7_isTenant_8 ⟨by decide, by decide⟩ ?_
  refine kw_isub dX7_isTenant_9 ⟨by omega, by omega⟩ ?_
  refine kv_callS1 (M2 := M_X7_in) (As := [kI (i), kI (0), kI ((f 47 1) - 1)]) dX7_isTenant_10 ml_X7_54 q_X7_in rfl (Nat.le_of_ble_eq_true rfl) (c_min) (by omega) ?_
  exact kv_rb dX7_isTenant_13 rfl (by first | rfl | omega | (split <;> omega) | ((repeat' split) <;> omega) | grind) (by first | rfl | rw [if_pos (by omega)] | rw [if_neg (by omega)] | grind)
theorem c_misDead {E : kEnv} {f : Nat → Int → Int} {s : Int → Int} {g : Nat → Int → Option Nat} {b d : Int} (hm : kGM g) (hb : 0 ≤ b ∧ b < 8) : kF E 0 M_X7_isDead [kA (45), kI (b), kI (d)] ((kMC ++ kMM), kst f 50 s, g) (some (kI (if s b ≤ d then 1 else 0))) ((kMC ++ kMM), kst f 50 s, g) := by
  refine kF_of (by decide) (by simp [k_one]) (Nat.le_of_ble_eq_true rfl) (L := [some (kA (45)), some (kI (b)), some (kI (d))]) rfl ?_
  refine kw_iload_n dX7_isDead_0 rfl ?_
  refine kw_aload_n dX7_isDead_1 rfl ?_
  refine kv_getR (b := 50) dX7_isDead_2 kf_X7_22 rfl rfl rfl (hm (45, 5, 50) (by decide)) ?_
  refine kw_iload_n dX7_isDead_5 rfl ?_
  refine kv_iald dX7_isDead_6 rfl (by omega) (by omega) (congrFun kst_self _) ?_
  refine kw_icmp_lt (tgt := 14) dX7_isDead_7 (by decide) (fun h1 => ?_) (fun h1 => ?_)
  · refine kw_iconst dX7_isDead_14 ⟨by decide, by decide⟩ ?_
    exact kv_rb dX7_isDead_15 rfl (by first | rfl | omega | (split <;> omega) | ((repeat' split) <;> omega) | grind) (by first | rfl | rw [if_pos (by omega)] | rw [if_neg (by omega)] | grind)
  · refine kw_iconst dX7_isDead_10 ⟨by decide, by decide⟩ ?_
    refine kw_goto (tgt := 15) dX7_isDead_11 (by decide) ?_
    exact kv_rb dX7_isDead_15 rfl (by first | rfl | omega | (split <;> omega) | ((repeat' split) <;> omega) | grind) (by first | rfl | rw [if_pos (by omega)] | rw [if_neg (by omega)] | grind)
theorem c_misFallen {E : kEnv} {f : Nat → Int → Int} {s : Int → Int} {g : Nat → Int → Option Nat} {b d : Int} (hm : kGM g) (hT : mTO (f 47)) (hb : 0 ≤ b ∧ b < 8) (hx : -1000 ≤ s b ∧ s b ≤ 1000) : kF E 0 M_X7_isFallen [kA (45), kI (b), kI (d)] ((kMC ++ kMM), kst f 50 s, g) (some (kI (if s b + f 47 4 ≤ d then 1 else 0))) ((kMC ++ kMM), kst f 50 s, g) := by
  refine kF_of (by decide) (by simp [k_one]) (Nat.le_of_ble_eq_true rfl) (L := [some (kA (45)), some (kI (b)), some (kI (d))]) rfl ?_
  have n0 := hT.1
  have n1 := hT.2.1
  have n4 := hT.2.2.2.2.1
  refine kw_iload_n dX7_isFallen_0 rfl ?_
  refine kw_aload_n dX7_isFallen_1 rfl ?_
  refine kv_getR (b := 50) dX7_isFallen_2 kf_X7_22 rfl rfl rfl (hm (45, 5, 50) (by decide)) ?_
  refine kw_iload_n dX7_isFallen_5 rfl ?_
  refine kv_iald dX7_isFallen_6 rfl (by omega) (by omega) (congrFun kst_self _) ?_
  refine kw_aload_n dX7_isFallen_7 rfl ?_
  refine kv_getR (b := 47) dX7_isFallen_8 kf_X7_13 rfl rfl rfl (hm (45, 2, 47) (by decide)) ?_
  refine kw_iconst dX7_isFallen_11 ⟨by decide, by decide⟩ ?_
  refine kv_iald dX7_isFallen_12 rfl (by omega) (by omega) (congrFun (kst_ne (by decide)) _) ?_
  refine kw_iadd dX7_isFallen_13 ⟨by omega, by omega⟩ ?_
  refine kw_icmp_lt (tgt := 21) dX7_isFallen_14 (by decide) (fun h1 => ?_) (fun h1 => ?_)
  · refine kw_iconst dX7_isFallen_21 ⟨by decide, by decide⟩ ?_
    exact kv_rb dX7_isFallen_22 rfl (by first | rfl | omega | (split <;> omega) | ((repeat' split) <;> omega) | grind) (by first | rfl | rw [if_pos (by omega)] | rw [if_neg (by omega)] | grind)
  · refine kw_iconst dX7_isFallen_17 ⟨by decide, by decide⟩ ?_
    refine kw_goto (tgt := 22) dX7_isFallen_18 (by decide) ?_
    exact kv_rb dX7_isFallen_22 rfl (by first | rfl | omega | (split <;> omega) | ((repeat' split) <;> omega) | grind) (by first | rfl | rw [if_pos (by omega)] | rw [if_neg (by omega)] | grind)
theorem c_misWarm {E : kEnv} {f : Nat → Int → Int} {s : Int → Int} {g : Nat → Int → Option Nat} {i : Int} (hm : kGM g) (hi : 0 ≤ i ∧ i < 4) : kF E 0 M_X7_isWarm [kA (45), kI (i)] ((kMC ++ kMM), kst f 50 s, g) (some (kI (if mWarm (f 47) s i then 1 else 0))) ((kMC ++ kMM), kst f 50 s, g) := by
  refine kF_of (by decide) (by simp [k_one]) (Nat.le_of_ble_eq_true rfl) (L := [some (kA (45)), some (kI (i))]) rfl ?_
  refine kw_aload_n dX7_isWarm_0 rfl ?_
  refine kv_getR (b := 50) dX7_isWarm_1 kf_X7_22 rfl rfl rfl (hm (45, 5, 50) (by decide)) ?_
  refine kw_bipush dX7_isWarm_4 (by decide) (by decide) ?_
  refine kw_iload_n dX7_isWarm_6 rfl ?_
  refine kw_iadd dX7_isWarm_7 ⟨by omega, by omega⟩ ?_
  refine kv_iald dX7_isWarm_8 rfl (by omega) (by omega) (congrFun kst_self _) ?_
  refine kw_aload_n dX7_isWarm_9 rfl ?_
  refine kv_getR (b := 47) dX7_isWarm_10 kf_X7_13 rfl rfl rfl (hm (45, 2, 47) (by decide)) ?_
  refine kw_bipush dX7_isWarm_13 (by decide) (by decide) ?_
  refine kw_iload_n dX7_isWarm_15 rfl ?_
  refine kw_iadd dX7_isWarm_16 ⟨by omega, by omega⟩ ?_
  refine kv_iald dX7_isWarm_17 rfl (by omega) (by omega) (congrFun (kst_ne (by decide)) _) ?_
  refine kw_icmp_lt (tgt := 25) dX7_isWarm_18 (by decide) (fun h1 => ?_) (fun h1 => ?_)
  · refine kw_iconst dX7_isWarm_25 ⟨by decide, by decide⟩ ?_
    exact kv_rb dX7_isWarm_26 rfl (by first | rfl | omega | (split <;> omega) | ((repeat' split) <;> omega) | grind) (by first | rfl | rw [if_pos (by omega)] | rw [if_neg (by omega)] | grind)
  · refine kw_iconst dX7_isWarm_21 ⟨by decide, by decide⟩ ?_
    refine kw_goto (tgt := 26) dX7_isWarm_22 (by decide) ?_
    exact kv_rb dX7_isWarm_26 rfl (by first | rfl | omega | (split <;> omega) | ((repeat' split) <;> omega) | grind) (by first | rfl | rw [if_pos (by omega)] | rw [if_neg (by omega)] | grind)
theorem c_mcould {E : kEnv} {f : Nat → Int → Int} {s : Int → Int} {g : Nat → Int → Option Nat} {i b d c : Int} (hm : kGM g) (hT : mTO (f 47)) (hb : 0 ≤ b ∧ b < f 47 0) (hi : 0 ≤ i ∧ i < f 47 1) (hx : -1000 ≤ s b ∧ s b ≤ 1000) (hc : -1000 ≤ c ∧ c ≤ 1000) : kF E 1 M_X7_could [kA (45), kI (i), kI (b), kI (d), kI (c)] ((kMC ++ kMM), kst f 50 s, g) (some (kI (if mCould (f 47) s i b d c then 1 else 0))) ((kMC ++ kMM), kst f 50 s, g) := by
  refine kF_of (by decide) (by simp [k_one]) (Nat.le_of_ble_eq_true rfl) (L := [some (kA (45)), some (kI (i)), some (kI (b)), some (kI (d)), some (kI (c)), none, none, none, none]) rfl ?_
  have n0 := hT.1
  have n1 := hT.2.1
  have fb := hT.2.2.2.2.2.1 b hb.1 hb.2
  have fi := hT.2.2.2.2.2.2 i hi.1 hi.2
  refine kw_aload_n dX7_could_0 rfl ?_
  refine kv_getR (b := 47) dX7_could_1 kf_X7_13 rfl rfl rfl (hm (45, 2, 47) (by decide)) ?_
  refine kw_iconst dX7_could_4 ⟨by decide, by decide⟩ ?_
  refine kw_iload_n dX7_could_5 rfl ?_
  refine kw_iadd dX7_could_6 ⟨by omega, by omega⟩ ?_
  refine kv_iald dX7_could_7 rfl (by omega) (by omega) (congrFun (kst_ne (by decide)) _) ?_
  refine kw_istore dX7_could_8 (by decide) trivial (L2 := [some (kA (45)), some (kI (i)), some (kI (b)), some (kI (d)), some (kI (c)), some (kI (f 47 (5 + b))), none, none, none]) rfl ?_
  refine kw_aload_n dX7_could_10 rfl ?_
  refine kv_getR (b := 50) dX7_could_11 kf_X7_22 rfl rfl rfl (hm (45, 5, 50) (by decide)) ?_
  refine kw_bipush dX7_could_14 (by decide) (by decide) ?_
  refine kw_iload_n dX7_could_16 rfl ?_
  refine kw_iadd dX7_could_17 ⟨by omega, by omega⟩ ?_
  refine kv_iald dX7_could_18 rfl (by omega) (by omega) (congrFun kst_self _) ?_
  refine kw_istore dX7_could_19 (by decide) trivial (L2 := [some (kA (45)), some (kI (i)), some (kI (b)), some (kI (d)), some (kI (c)), some (kI (f 47 (5 + b))), some (kI (s (16 + i))), none, none]) rfl ?_
  refine kw_aload_n dX7_could_21 rfl ?_
  refine kv_getR (b := 47) dX7_could_22 kf_X7_13 rfl rfl rfl (hm (45, 2, 47) (by decide)) ?_
  refine kw_bipush dX7_could_25 (by decide) (by decide) ?_
  refine kw_iload_n dX7_could_27 rfl ?_
  refine kw_iadd dX7_could_28 ⟨by omega, by omega⟩ ?_
  refine kv_iald dX7_could_29 rfl (by omega) (by omega) (congrFun (kst_ne (by decide)) _) ?_
  refine kw_istore dX7_could_30 (by decide) trivial (L2 := [some (kA (45)), some (kI (i)), some (kI (b)), some (kI (d)), some (kI (c)), some (kI (f 47 (5 + b))), some (kI (s (16 + i))), some (kI (f 47 (13 + b))), none]) rfl ?_
  refine kw_iload dX7_could_32 rfl ?_
  refine kw_if_ne (tgt := 52) dX7_could_34 (by decide) (fun h1 => ?_) (fun h1 => ?_)
  · refine kw_iload dX7_could_52 rfl ?_
    refine kw_iconst dX7_could_54 ⟨by decide, by decide⟩ ?_
    refine kw_icmp_ne (tgt := 75) dX7_could_55 (by decide) (fun h2 => ?_) (fun h2 => ?_)
    · refine kw_iload dX7_could_75 rfl ?_
      refine kw_iconst dX7_could_77 ⟨by decide, by decide⟩ ?_
      refine kw_icmp_ne (tgt := 85) dX7_could_78 (by decide) (fun h3 => ?_) (fun h3 => ?_)
      · refine kw_iconst dX7_could_85 ⟨by decide, by decide⟩ ?_
        refine kw_istore dX7_could_86 (by decide) trivial (L2 := [some (kA (45)), some (kI (i)), some (kI (b)), some (kI (d)), some (kI (c)), some (kI (f 47 (5 + b))), some (kI (s (16 + i))), some (kI (f 47 (13 + b))), some (kI (0))]) rfl ?_
        refine kw_aload_n dX7_could_88 rfl ?_
        refine kw_iload_n dX7_could_89 rfl ?_
        refine kw_iload_n dX7_could_90 rfl ?_
        refine kv_callV1 (M2 := M_X7_isDead) (As := [kI (b), kI (d)]) dX7_could_91 ml_X7_93 q_X7_isDead rfl rfl rfl (Nat.le_of_ble_eq_true rfl) (c_misDead hm (by omega)) (by omega) ?_
        refine kv_ifeqB (tgt := 139) dX7_could_94 (by decide) (fun h4 => ?_) (fun h4 => ?_)
        · refine kw_iconst dX7_could_139 ⟨by decide, by decide⟩ ?_
          exact kv_rb dX7_could_140 rfl (by first | rfl | omega | (split <;> omega) | ((repeat' split) <;> omega) | grind) (by first | rfl | rw [if_pos (by omega)] | rw [if_neg (by omega)] | grind)
        · refine kw_iload dX7_could_97 rfl ?_
          refine kw_if_ne (tgt := 111) dX7_could_99 (by decide) (kt := fun h => absurd h (by decide)) (kf := fun _ => ?_)
          refine kw_aload_n dX7_could_102 rfl ?_
          refine kw_iload_n dX7_could_103 rfl ?_
          refine kw_iload_n dX7_could_104 rfl ?_
          refine kv_callV1 (M2 := M_X7_isFallen) (As := [kI (b), kI (d)]) dX7_could_105 ml_X7_97 q_X7_isFallen rfl rfl rfl (Nat.le_of_ble_eq_true rfl) (c_misFallen hm hT (by omega) (by omega)) (by omega) ?_
          refine kv_ifeqB (tgt := 139) dX7_could_108 (by decide) (fun h5 => ?_) (fun h5 => ?_)
          · refine kw_iconst dX7_could_139 ⟨by decide, by decide⟩ ?_
            exact kv_rb dX7_could_140 rfl (by first | rfl | omega | (split <;> omega) | ((repeat' split) <;> omega) | grind) (by first | rfl | rw [if_pos (by omega)] | rw [if_neg (by omega)] | grind)
          · refine kw_iload dX7_could_111 rfl ?_
            refine kw_aload_n dX7_could_113 rfl ?_
            refine kv_getR (b := 47) dX7_could_114 kf_X7_13 rfl rfl rfl (hm (45, 2, 47) (by decide)) ?_
            refine kw_bipush dX7_could_117 (by decide) (by decide) ?_
            refine kw_iload_n dX7_could_119 rfl ?_
            refine kw_iadd dX7_could_120 ⟨by omega, by omega⟩ ?_
            refine kv_iald dX7_could_121 rfl (by omega) (by omega) (congrFun (kst_ne (by decide)) _) ?_
            refine kw_iadd dX7_could_122 ⟨by omega, by omega⟩ ?_
            refine kw_aload_n dX7_could_123 rfl ?_
            refine kv_getR (b := 47) dX7_could_124 kf_X7_13 rfl rfl rfl (hm (45, 2, 47) (by decide)) ?_
            refine kw_bipush dX7_could_127 (by decide) (by decide) ?_
            refine kw_iload_n dX7_could_129 rfl ?_
            refine kw_iadd dX7_could_130 ⟨by omega, by omega⟩ ?_
            refine kv_iald dX7_could_131 rfl (by omega) (by omega) (congrFun (kst_ne (by decide)) _) ?_
            refine kw_icmp_gt (tgt := 139) dX7_could_132 (by decide) (fun h6 => ?_) (fun h6 => ?_)
            · refine kw_iconst dX7_could_139 ⟨by decide, by decide⟩ ?_
              exact kv_rb dX7_could_140 rfl (by first | rfl | omega | (split <;> omega) | ((repeat' split) <;> omega) | grind) (by first | rfl | rw [if_pos (by omega)] | rw [if_neg (by omega)] | grind)
            · refine kw_iconst dX7_could_135 ⟨by decide, by decide⟩ ?_
              refine kw_goto (tgt := 140) dX7_could_136 (by decide) ?_
              exact kv_rb dX7_could_140 rfl (by first | rfl | omega | (split <;> omega) | ((repeat' split) <;> omega) | grind) (by first | rfl | rw [if_pos (by omega)] | rw [if_neg (by omega)] | grind)
      · refine kw_iconst dX7_could_81 ⟨by decide, by decide⟩ ?_
        refine kw_goto (tgt := 86) dX7_could_82 (by decide) ?_
        refine kw_istore dX7_could_86 (by decide) trivial (L2 := [some (kA (45)), some (kI (i)), some (kI (b)), some (kI (d)), some (kI (c)), some (kI (f 47 (5 + b))), some (kI (s (16 + i))), some (kI (f 47 (13 + b))), some (kI (1))]) rfl ?_
        refine kw_aload_n dX7_could_88 rfl ?_
        refine kw_iload_n dX7_could_89 rfl ?_
        refine kw_iload_n dX7_could_90 rfl ?_
        refine kv_callV1 (M2 := M_X7_isDead) (As := [kI (b), kI (d)]) dX7_could_91 ml_X7_93 q_X7_isDead rfl rfl rfl (Nat.le_of_ble_eq_true rfl) (c_misDead hm (by omega)) (by omega) ?_
        refine kv_ifeqB (tgt := 139) dX7_could_94 (by decide) (fun h7 => ?_) (fun h7 => ?_)
        · refine kw_iconst dX7_could_139 ⟨by decide, by decide⟩ ?_
          exact kv_rb dX7_could_140 rfl (by first | rfl | omega | (split <;> omega) | ((repeat' split) <;> omega) | grind) (by first | rfl | rw [if_pos (by omega)] | rw [if_neg (by omega)] | grind)
        · refine kw_iload dX7_could_97 rfl ?_
          refine kw_if_ne (tgt := 111) dX7_could_99 (by decide) (kf := fun h => absurd (by decide) h) (kt := fun _ => ?_)
          refine kw_iload dX7_could_111 rfl ?_
          refine kw_aload_n dX7_could_113 rfl ?_
          refine kv_getR (b := 47) dX7_could_114 kf_X7_13 rfl rfl rfl (hm (45, 2, 47) (by decide)) ?_
          refine kw_bipush dX7_could_117 (by decide) (by decide) ?_
          refine kw_iload_n dX7_could_119 rfl ?_
          refine kw_iadd dX7_could_120 ⟨by omega, by omega⟩ ?_
          refine kv_iald dX7_could_121 rfl (by omega) (by omega) (congrFun (kst_ne (by decide)) _) ?_
          refine kw_iadd dX7_could_122 ⟨by omega, by omega⟩ ?_
          refine kw_aload_n dX7_could_123 rfl ?_
          refine kv_getR (b := 47) dX7_could_124 kf_X7_13 rfl rfl rfl (hm (45, 2, 47) (by decide)) ?_
          refine kw_bipush dX7_could_127 (by decide) (by decide) ?_
          refine kw_iload_n dX7_could_129 rfl ?_
          refine kw_iadd dX7_could_130 ⟨by omega, by omega⟩ ?_
          refine kv_iald dX7_could_131 rfl (by omega) (by omega) (congrFun (kst_ne (by decide)) _) ?_
          refine kw_icmp_gt (tgt := 139) dX7_could_132 (by decide) (fun h8 => ?_) (fun h8 => ?_)
          · refine kw_iconst dX7_could_139 ⟨by decide, by decide⟩ ?_
            exact kv_rb dX7_could_140 rfl (by first | rfl | omega | (split <;> omega) | ((repeat' split) <;> omega) | grind) (by first | rfl | rw [if_pos (by omega)] | rw [if_neg (by omega)] | grind)
          · refine kw_iconst dX7_could_135 ⟨by decide, by decide⟩ ?_
            refine kw_goto (tgt := 140) dX7_could_136 (by decide) ?_
            exact kv_rb dX7_could_140 rfl (by first | rfl | omega | (split <;> omega) | ((repeat' split) <;> omega) | grind) (by first | rfl | rw [if_pos (by omega)] | rw [if_neg (by omega)] | grind)
    · refine kw_iload dX7_could_58 rfl ?_
      refine kw_iconst dX7_could_60 ⟨by decide, by decide⟩ ?_
      refine kw_iadd dX7_could_61 ⟨by omega, by omega⟩ ?_
      refine kw_iload dX7_could_62 rfl ?_
      refine kw_icmp_gt (tgt := 71) dX7_could_64 (by decide) (fun h9 => ?_) (fun h9 => ?_)
      · refine kw_iconst dX7_could_71 ⟨by decide, by decide⟩ ?_
        refine kw_goto (tgt := 86) dX7_could_72 (by decide) ?_
        refine kw_istore dX7_could_86 (by decide) trivial (L2 := [some (kA (45)), some (kI (i)), some (kI (b)), some (kI (d)), some (kI (c)), some (kI (f 47 (5 + b))), some (kI (s (16 + i))), some (kI (f 47 (13 + b))), some (kI (0))]) rfl ?_
        refine kw_aload_n dX7_could_88 rfl ?_
        refine kw_iload_n dX7_could_89 rfl ?_
        refine kw_iload_n dX7_could_90 rfl ?_
        refine kv_callV1 (M2 := M_X7_isDead) (As := [kI (b), kI (d)]) dX7_could_91 ml_X7_93 q_X7_isDead rfl rfl rfl (Nat.le_of_ble_eq_true rfl) (c_misDead hm (by omega)) (by omega) ?_
        refine kv_ifeqB (tgt := 139) dX7_could_94 (by decide) (fun h10 => ?_) (fun h10 => ?_)
        · refine kw_iconst dX7_could_139 ⟨by decide, by decide⟩ ?_
          exact kv_rb dX7_could_140 rfl (by first | rfl | omega | (split <;> omega) | ((repeat' split) <;> omega) | grind) (by first | rfl | rw [if_pos (by omega)] | rw [if_neg (by omega)] | grind)
        · refine kw_iload dX7_could_97 rfl ?_
          refine kw_if_ne (tgt := 111) dX7_could_99 (by decide) (kt := fun h => absurd h (by decide)) (kf := fun _ => ?_)
          refine kw_aload_n dX7_could_102 rfl ?_
          refine kw_iload_n dX7_could_103 rfl ?_
          refine kw_iload_n dX7_could_104 rfl ?_
          refine kv_callV1 (M2 := M_X7_isFallen) (As := [kI (b), kI (d)]) dX7_could_105 ml_X7_97 q_X7_isFallen rfl rfl rfl (Nat.le_of_ble_eq_true rfl) (c_misFallen hm hT (by omega) (by omega)) (by omega) ?_
          refine kv_ifeqB (tgt := 139) dX7_could_108 (by decide) (fun h11 => ?_) (fun h11 => ?_)
          · refine kw_iconst dX7_could_139 ⟨by decide, by decide⟩ ?_
            exact kv_rb dX7_could_140 rfl (by first | rfl | omega | (split <;> omega) | ((repeat' split) <;> omega) | grind) (by first | rfl | rw [if_pos (by omega)] | rw [if_neg (by omega)] | grind)
          · refine kw_iload dX7_could_111 rfl ?_
            refine kw_aload_n dX7_could_113 rfl ?_
            refine kv_getR (b := 47) dX7_could_114 kf_X7_13 rfl rfl rfl (hm (45, 2, 47) (by decide)) ?_
            refine kw_bipush dX7_could_117 (by decide) (by decide) ?_
            refine kw_iload_n dX7_could_119 rfl ?_
            refine kw_iadd dX7_could_120 ⟨by omega, by omega⟩ ?_
            refine kv_iald dX7_could_121 rfl (by omega) (by omega) (congrFun (kst_ne (by decide)) _) ?_
            refine kw_iadd dX7_could_122 ⟨by omega, by omega⟩ ?_
            refine kw_aload_n dX7_could_123 rfl ?_
            refine kv_getR (b := 47) dX7_could_124 kf_X7_13 rfl rfl rfl (hm (45, 2, 47) (by decide)) ?_
            refine kw_bipush dX7_could_127 (by decide) (by decide) ?_
            refine kw_iload_n dX7_could_129 rfl ?_
            refine kw_iadd dX7_could_130 ⟨by omega, by omega⟩ ?_
            refine kv_iald dX7_could_131 rfl (by omega) (by omega) (congrFun (kst_ne (by decide)) _) ?_
            refine kw_icmp_gt (tgt := 139) dX7_could_132 (by decide) (fun h12 => ?_) (fun h12 => ?_)
            · refine kw_iconst dX7_could_139 ⟨by decide, by decide⟩ ?_
              exact kv_rb dX7_could_140 rfl (by first | rfl | omega | (split <;> omega) | ((repeat' split) <;> omega) | grind) (by first | rfl | rw [if_pos (by omega)] | rw [if_neg (by omega)] | grind)
            · refine kw_iconst dX7_could_135 ⟨by decide, by decide⟩ ?_
              refine kw_goto (tgt := 140) dX7_could_136 (by decide) ?_
              exact kv_rb dX7_could_140 rfl (by first | rfl | omega | (split <;> omega) | ((repeat' split) <;> omega) | grind) (by first | rfl | rw [if_pos (by omega)] | rw [if_neg (by omega)] | grind)
      · refine kw_iconst dX7_could_67 ⟨by decide, by decide⟩ ?_
        refine kw_goto (tgt := 86) dX7_could_68 (by decide) ?_
        refine kw_istore dX7_could_86 (by decide) trivial (L2 := [some (kA (45)), some (kI (i)), some (kI (b)), some (kI (d)), some (kI (c)), some (kI (f 47 (5 + b))), some (kI (s (16 + i))), some (kI (f 47 (13 + b))), some (kI (1))]) rfl ?_
        refine kw_aload_n dX7_could_88 rfl ?_
        refine kw_iload_n dX7_could_89 rfl ?_
        refine kw_iload_n dX7_could_90 rfl ?_
        refine kv_callV1 (M2 := M_X7_isDead) (As := [kI (b), kI (d)]) dX7_could_91 ml_X7_93 q_X7_isDead rfl rfl rfl (Nat.le_of_ble_eq_true rfl) (c_misDead hm (by omega)) (by omega) ?_
        refine kv_ifeqB (tgt := 139) dX7_could_94 (by decide) (fun h13 => ?_) (fun h13 => ?_)
        · refine kw_iconst dX7_could_139 ⟨by decide, by decide⟩ ?_
          exact kv_rb dX7_could_140 rfl (by first | rfl | omega | (split <;> omega) | ((repeat' split) <;> omega) | grind) (by first | rfl | rw [if_pos (by omega)] | rw [if_neg (by omega)] | grind)
        · refine kw_iload dX7_could_97 rfl ?_
          refine kw_if_ne (tgt := 111) dX7_could_99 (by decide) (kf := fun h => absurd (by decide) h) (kt := fun _ => ?_)
          refine kw_iload dX7_could_111 rfl ?_
          refine kw_aload_n dX7_could_113 rfl ?_
          refine kv_getR (b := 47) dX7_could_114 kf_X7_13 rfl rfl rfl (hm (45, 2, 47) (by decide)) ?_
          refine kw_bipush dX7_could_117 (by decide) (by decide) ?_
          refine kw_iload_n dX7_could_119 rfl ?_
          refine kw_iadd dX7_could_120 ⟨by omega, by omega⟩ ?_
          refine kv_iald dX7_could_121 rfl (by omega) (by omega) (congrFun (kst_ne (by decide)) _) ?_
          refine kw_iadd dX7_could_122 ⟨by omega, by omega⟩ ?_
          refine kw_aload_n dX7_could_123 rfl ?_
          refine kv_getR (b := 47) dX7_could_124 kf_X7_13 rfl rfl rfl (hm (45, 2, 47) (by decide)) ?_
          refine kw_bipush dX7_could_127 (by decide) (by decide) ?_
          refine kw_iload_n dX7_could_129 rfl ?_
          refine kw_iadd dX7_could_130 ⟨by omega, by omega⟩ ?_
          refine kv_iald dX7_could_131 rfl (by omega) (by omega) (congrFun (kst_ne (by decide)) _) ?_
          refine kw_icmp_gt (tgt := 139) dX7_could_132 (by decide) (fun h14 => ?_) (fun h14 => ?_)
          · refine kw_iconst dX7_could_139 ⟨by decide, by decide⟩ ?_
            exact kv_rb dX7_could_140 rfl (by first | rfl | omega | (split <;> omega) | ((repeat' split) <;> omega) | grind) (by first | rfl | rw [if_pos (by omega)] | rw [if_neg (by omega)] | grind)
          · refine kw_iconst dX7_could_135 ⟨by decide, by decide⟩ ?_
            refine kw_goto (tgt := 140) dX7_could_136 (by decide) ?_
            exact kv_rb dX7_could_140 rfl (by first | rfl | omega | (split <;> omega) | ((repeat' split) <;> omega) | grind) (by first | rfl | rw [if_pos (by omega)] | rw [if_neg (by omega)] | grind)
  · refine kw_iload dX7_could_37 rfl ?_
    refine kw_iload dX7_could_39 rfl ?_
    refine kw_icmp_gt (tgt := 48) dX7_could_41 (by decide) (fun h15 => ?_) (fun h15 => ?_)
    · refine kw_iconst dX7_could_48 ⟨by decide, by decide⟩ ?_
      refine kw_goto (tgt := 86) dX7_could_49 (by decide) ?_
      refine kw_istore dX7_could_86 (by decide) trivial (L2 := [some (kA (45)), some (kI (i)), some (kI (b)), some (kI (d)), some (kI (c)), some (kI (f 47 (5 + b))), some (kI (s (16 + i))), some (kI (f 47 (13 + b))), some (kI (0))]) rfl ?_
      refine kw_aload_n dX7_could_88 rfl ?_
      refine kw_iload_n dX7_could_89 rfl ?_
      refine kw_iload_n dX7_could_90 rfl ?_
      refine kv_callV1 (M2 := M_X7_isDead) (As := [kI (b), kI (d)]) dX7_could_91 ml_X7_93 q_X7_isDead rfl rfl rfl (Nat.le_of_ble_eq_true rfl) (c_misDead hm (by omega)) (by omega) ?_
      refine kv_ifeqB (tgt := 139) dX7_could_94 (by decide) (fun h16 => ?_) (fun h16 => ?_)
      · refine kw_iconst dX7_could_139 ⟨by decide, by decide⟩ ?_
        exact kv_rb dX7_could_140 rfl (by first | rfl | omega | (split <;> omega) | ((repeat' split) <;> omega) | grind) (by first | rfl | rw [if_pos (by omega)] | rw [if_neg (by omega)] | grind)
      · refine kw_iload dX7_could_97 rfl ?_
        refine kw_if_ne (tgt := 111) dX7_could_99 (by decide) (kt := fun h => absurd h (by decide)) (kf := fun _ => ?_)
        refine kw_aload_n dX7_could_102 rfl ?_
        refine kw_iload_n dX7_could_103 rfl ?_
        refine kw_iload_n dX7_could_104 rfl ?_
        refine kv_callV1 (M2 := M_X7_isFallen) (As := [kI (b), kI (d)]) dX7_could_105 ml_X7_97 q_X7_isFallen rfl rfl rfl (Nat.le_of_ble_eq_true rfl) (c_misFallen hm hT (by omega) (by omega)) (by omega) ?_
        refine kv_ifeqB (tgt := 139) dX7_could_108 (by decide) (fun h17 => ?_) (fun h17 => ?_)
        · refine kw_iconst dX7_could_139 ⟨by decide, by decide⟩ ?_
          exact kv_rb dX7_could_140 rfl (by first | rfl | omega | (split <;> omega) | ((repeat' split) <;> omega) | grind) (by first | rfl | rw [if_pos (by omega)] | rw [if_neg (by omega)] | grind)
        · refine kw_iload dX7_could_111 rfl ?_
          refine kw_aload_n dX7_could_113 rfl ?_
          refine kv_getR (b := 47) dX7_could_114 kf_X7_13 rfl rfl rfl (hm (45, 2, 47) (by decide)) ?_
          refine kw_bipush dX7_could_117 (by decide) (by decide) ?_
          refine kw_iload_n dX7_could_119 rfl ?_
          refine kw_iadd dX7_could_120 ⟨by omega, by omega⟩ ?_
          refine kv_iald dX7_could_121 rfl (by omega) (by omega) (congrFun (kst_ne (by decide)) _) ?_
          refine kw_iadd dX7_could_122 ⟨by omega, by omega⟩ ?_
          refine kw_aload_n dX7_could_123 rfl ?_
          refine kv_getR (b := 47) dX7_could_124 kf_X7_13 rfl rfl rfl (hm (45, 2, 47) (by decide)) ?_
          refine kw_bipush dX7_could_127 (by decide) (by decide) ?_
          refine kw_iload_n dX7_could_129 rfl ?_
          refine kw_iadd dX7_could_130 ⟨by omega, by omega⟩ ?_
          refine kv_iald dX7_could_131 rfl (by omega) (by omega) (congrFun (kst_ne (by decide)) _) ?_
          refine kw_icmp_gt (tgt := 139) dX7_could_132 (by decide) (fun h18 => ?_) (fun h18 => ?_)
          · refine kw_iconst dX7_could_139 ⟨by decide, by decide⟩ ?_
            exact kv_rb dX7_could_140 rfl (by first | rfl | omega | (split <;> omega) | ((repeat' split) <;> omega) | grind) (by first | rfl | rw [if_pos (by omega)] | rw [if_neg (by omega)] | grind)
          · refine kw_iconst dX7_could_135 ⟨by decide, by decide⟩ ?_
            refine kw_goto (tgt := 140) dX7_could_136 (by decide) ?_
            exact kv_rb dX7_could_140 rfl (by first | rfl | omega | (split <;> omega) | ((repeat' split) <;> omega) | grind) (by first | rfl | rw [if_pos (by omega)] | rw [if_neg (by omega)] | grind)
    · refine kw_iconst dX7_could_44 ⟨by decide, by decide⟩ ?_
      refine kw_goto (tgt := 86) dX7_could_45 (by decide) ?_
      refine kw_istore dX7_could_86 (by decide) trivial (L2 := [some (kA (45)), some (kI (i)), some (kI (b)), some (kI (d)), some (kI (c)), some (kI (f 47 (5 + b))), some (kI (s (16 + i))), some (kI (f 47 (13 + b))), some (kI (1))]) rfl ?_
      refine kw_aload_n dX7_could_88 rfl ?_
      refine kw_iload_n dX7_could_89 rfl ?_
      refine kw_iload_n dX7_could_90 rfl ?_
      refine kv_callV1 (M2 := M_X7_isDead) (As := [kI (b), kI (d)]) dX7_could_91 ml_X7_93 q_X7_isDead rfl rfl rfl (Nat.le_of_ble_eq_true rfl) (c_misDead hm (by omega)) (by omega) ?_
      refine kv_ifeqB (tgt := 139) dX7_could_94 (by decide) (fun h19 => ?_) (fun h19 => ?_)
      · refine kw_iconst dX7_could_139 ⟨by decide, by decide⟩ ?_
        exact kv_rb dX7_could_140 rfl (by first | rfl | omega | (split <;> omega) | ((repeat' split) <;> omega) | grind) (by first | rfl | rw [if_pos (by omega)] | rw [if_neg (by omega)] | grind)
      · refine kw_iload dX7_could_97 rfl ?_
        refine kw_if_ne (tgt := 111) dX7_could_99 (by decide) (kf := fun h => absurd (by decide) h) (kt := fun _ => ?_)
        refine kw_iload dX7_could_111 rfl ?_
        refine kw_aload_n dX7_could_113 rfl ?_
        refine kv_getR (b := 47) dX7_could_114 kf_X7_13 rfl rfl rfl (hm (45, 2, 47) (by decide)) ?_
        refine kw_bipush dX7_could_117 (by decide) (by decide) ?_
        refine kw_iload_n dX7_could_119 rfl ?_
        refine kw_iadd dX7_could_120 ⟨by omega, by omega⟩ ?_
        refine kv_iald dX7_could_121 rfl (by omega) (by omega) (congrFun (kst_ne (by decide)) _) ?_
        refine kw_iadd dX7_could_122 ⟨by omega, by omega⟩ ?_
        refine kw_aload_n dX7_could_123 rfl ?_
        refine kv_getR (b := 47) dX7_could_124 kf_X7_13 rfl rfl rfl (hm (45, 2, 47) (by decide)) ?_
        refine kw_bipush dX7_could_127 (by decide) (by decide) ?_
        refine kw_iload_n dX7_could_129 rfl ?_
        refine kw_iadd dX7_could_130 ⟨by omega, by omega⟩ ?_
        refine kv_iald dX7_could_131 rfl (by omega) (by omega) (congrFun (kst_ne (by decide)) _) ?_
        refine kw_icmp_gt (tgt := 139) dX7_could_132 (by decide) (fun h20 => ?_) (fun h20 => ?_)
        · refine kw_iconst dX7_could_139 ⟨by decide, by decide⟩ ?_
          exact kv_rb dX7_could_140 rfl (by first | rfl | omega | (split <;> omega) | ((repeat' split) <;> omega) | grind) (by first | rfl | rw [if_pos (by omega)] | rw [if_neg (by omega)] | grind)
        · refine kw_iconst dX7_could_135 ⟨by decide, by decide⟩ ?_
          refine kw_goto (tgt := 140) dX7_could_136 (by decide) ?_
          exact kv_rb dX7_could_140 rfl (by first | rfl | omega | (split <;> omega) | ((repeat' split) <;> omega) | grind) (by first | rfl | rw [if_pos (by omega)] | rw [if_neg (by omega)] | grind)
theorem c_mcanNow {E : kEnv} {f : Nat → Int → Int} {s : Int → Int} {g : Nat → Int → Option Nat} {i b : Int} (hm : kGM g) (hT : mTO (f 47)) (hS : mSO (f 47) s) (hb : 0 ≤ b ∧ b < f 47 0) (hi : 0 ≤ i ∧ i < f 47 1) : kF E 2 M_X7_canNow [kA (45), kI (i), kI (b)] ((kMC ++ kMM), kst f 50 s, g) (some (kI (if mCan (f 47) s i b then 1 else 0))) ((kMC ++ kMM), kst f 50 s, g) := by
  refine kF_of (by decide) (by simp [k_one]) (Nat.le_of_ble_eq_true rfl) (L := [some (kA (45)), some (kI (i)), some (kI (b))]) rfl ?_
  have n0 := hT.1
  have n1 := hT.2.1
  have fb := hT.2.2.2.2.2.1 b hb.1 hb.2
  have sb := hS.2.1 b hb.1 hb.2
  have gb := hS.1 b (by omega) (by omega)
  have fi := hT.2.2.2.2.2.2 i hi.1 hi.2
  have si := hS.2.2 i hi.1 hi.2
  have sg := mGone_le hS
  refine kw_aload_n dX7_canNow_0 rfl ?_
  refine kv_getR (b := 50) dX7_canNow_1 kf_X7_22 rfl rfl rfl (hm (45, 5, 50) (by decide)) ?_
  refine kw_bipush dX7_canNow_4 (by decide) (by decide) ?_
  refine kw_iload_n dX7_canNow_6 rfl ?_
  refine kw_iadd dX7_canNow_7 ⟨by omega, by omega⟩ ?_
  refine kv_iald dX7_canNow_8 rfl (by omega) (by omega) (congrFun kst_self _) ?_
  refine kw_if_ne (tgt := 41) dX7_canNow_9 (by decide) (fun h1 => ?_) (fun h1 => ?_)
  · refine kw_iconst dX7_canNow_41 ⟨by decide, by decide⟩ ?_
    exact kv_rb dX7_canNow_42 rfl (by first | rfl | omega | (split <;> omega) | ((repeat' split) <;> omega) | grind) (by first | rfl | rw [if_pos (by omega)] | rw [if_neg (by omega)] | grind)
  · refine kw_aload_n dX7_canNow_12 rfl ?_
    refine kw_iload_n dX7_canNow_13 rfl ?_
    refine kw_iload_n dX7_canNow_14 rfl ?_
    refine kw_aload_n dX7_canNow_15 rfl ?_
    refine kv_getR (b := 50) dX7_canNow_16 kf_X7_22 rfl rfl rfl (hm (45, 5, 50) (by decide)) ?_
    refine kw_bipush dX7_canNow_19 (by decide) (by decide) ?_
    refine kv_iald dX7_canNow_21 rfl (by omega) (by omega) (congrFun kst_self _) ?_
    refine kw_aload_n dX7_canNow_22 rfl ?_
    refine kv_getR (b := 50) dX7_canNow_23 kf_X7_22 rfl rfl rfl (hm (45, 5, 50) (by decide)) ?_
    refine kw_bipush dX7_canNow_26 (by decide) (by decide) ?_
    refine kw_iload_n dX7_canNow_28 rfl ?_
    refine kw_iadd dX7_canNow_29 ⟨by omega, by omega⟩ ?_
    refine kv_iald dX7_canNow_30 rfl (by omega) (by omega) (congrFun kst_self _) ?_
    refine kv_callV1 (M2 := M_X7_could) (As := [kI (i), kI (b), kI (s 28), kI (s (24 + i))]) dX7_canNow_31 ml_X7_106 q_X7_could rfl rfl rfl (Nat.le_of_ble_eq_true rfl) (c_mcould hm hT hb hi (by omega) (by omega)) (by omega) ?_
    refine kv_ifeqB (tgt := 41) dX7_canNow_34 (by decide) (fun h2 => ?_) (fun h2 => ?_)
    · refine kw_iconst dX7_canNow_41 ⟨by decide, by decide⟩ ?_
      exact kv_rb dX7_canNow_42 rfl (by first | rfl | omega | (split <;> omega) | ((repeat' split) <;> omega) | grind) (by first | rfl | rw [if_pos (by omega)] | rw [if_neg (by omega)] | grind)
    · refine kw_iconst dX7_canNow_37 ⟨by decide, by decide⟩ ?_
      refine kw_goto (tgt := 42) dX7_canNow_38 (by decide) ?_
      exact kv_rb dX7_canNow_42 rfl (by first | rfl | omega | (split <;> omega) | ((repeat' split) <;> omega) | grind) (by first | rfl | rw [if_pos (by omega)] | rw [if_neg (by omega)] | grind)
theorem c_mtakes {E : kEnv} {f : Nat → Int → Int} {s : Int → Int} {g : Nat → Int → Option Nat} {i b : Int} (hm : kGM g) (hT : mTO (f 47)) (hS : mSO (f 47) s) (hb : 0 ≤ b ∧ b < f 47 0) (hi : 0 ≤ i ∧ i < f 47 1) : kF E 0 M_X7_takes [kA (45), kI (i), kI (b)] ((kMC ++ kMM), kst f 50 s, g) (none) ((kMC ++ kMM), kst f 50 (mTakes (f 47) s i b), g) := by
  refine kF_of (by decide) (by simp [k_one]) (Nat.le_of_ble_eq_true rfl) (L := [some (kA (45)), some (kI (i)), some (kI (b))]) rfl ?_
  have n0 := hT.1
  have n1 := hT.2.1
  have fb := hT.2.2.2.2.2.1 b hb.1 hb.2
  have sb := hS.2.1 b hb.1 hb.2
  have gb := hS.1 b (by omega) (by omega)
  have fi := hT.2.2.2.2.2.2 i hi.1 hi.2
  have si := hS.2.2 i hi.1 hi.2
  have sg := mGone_le hS
  refine kw_aload_n dX7_takes_0 rfl ?_
  refine kv_getR (b := 50) dX7_takes_1 kf_X7_22 rfl rfl rfl (hm (45, 5, 50) (by decide)) ?_
  refine kw_bipush dX7_takes_4 (by decide) (by decide) ?_
  refine kw_iload_n dX7_takes_6 rfl ?_
  refine kw_iadd dX7_takes_7 ⟨by omega, by omega⟩ ?_
  refine kw_iconst dX7_takes_8 ⟨by decide, by decide⟩ ?_
  refine kv_iast dX7_takes_9 rfl (by omega) (by omega) ?_
  rw [kst_u]
  refine kw_aload_n dX7_takes_10 rfl ?_
  refine kv_getR (b := 50) dX7_takes_11 kf_X7_22 rfl rfl rfl (hm (45, 5, 50) (by decide)) ?_
  refine kw_bipush dX7_takes_14 (by decide) (by decide) ?_
  refine kw_iload_n dX7_takes_16 rfl ?_
  refine kw_iadd dX7_takes_17 ⟨by omega, by omega⟩ ?_
  refine kw_dup2 dX7_takes_18 trivial trivial ?_
  refine kv_iald dX7_takes_19 rfl (by omega) (by omega) ((congrFun kst_self _).trans (upi_ne (by omega))) ?_
  refine kw_aload_n dX7_takes_20 rfl ?_
  refine kv_getR (b := 47) dX7_takes_21 kf_X7_13 rfl rfl rfl (hm (45, 2, 47) (by decide)) ?_
  refine kw_bipush dX7_takes_24 (by decide) (by decide) ?_
  refine kw_iload_n dX7_takes_26 rfl ?_
  refine kw_iadd dX7_takes_27 ⟨by omega, by omega⟩ ?_
  refine kv_iald dX7_takes_28 rfl (by omega) (by omega) (congrFun (kst_ne (by decide)) _) ?_
  refine kw_iadd dX7_takes_29 ⟨by omega, by omega⟩ ?_
  refine kv_iast dX7_takes_30 rfl (by omega) (by omega) ?_
  rw [kst_u]
  refine kw_aload_n dX7_takes_31 rfl ?_
  refine kv_getR (b := 50) dX7_takes_32 kf_X7_22 rfl rfl rfl (hm (45, 5, 50) (by decide)) ?_
  refine kw_bipush dX7_takes_35 (by decide) (by decide) ?_
  refine kw_iload_n dX7_takes_37 rfl ?_
  refine kw_iadd dX7_takes_38 ⟨by omega, by omega⟩ ?_
  refine kw_dup2 dX7_takes_39 trivial trivial ?_
  refine kv_iald dX7_takes_40 rfl (by omega) (by omega) ((congrFun kst_self _).trans ((upi_ne (by omega)).trans (upi_ne (by omega)))) ?_
  refine kw_aload_n dX7_takes_41 rfl ?_
  refine kv_getR (b := 47) dX7_takes_42 kf_X7_13 rfl rfl rfl (hm (45, 2, 47) (by decide)) ?_
  refine kw_bipush dX7_takes_45 (by decide) (by decide) ?_
  refine kw_iload_n dX7_takes_47 rfl ?_
  refine kw_iadd dX7_takes_48 ⟨by omega, by omega⟩ ?_
  refine kv_iald dX7_takes_49 rfl (by omega) (by omega) (congrFun (kst_ne (by decide)) _) ?_
  refine kw_iadd dX7_takes_50 ⟨by omega, by omega⟩ ?_
  refine kv_iast dX7_takes_51 rfl (by omega) (by omega) ?_
  rw [kst_u]
  exact kv_rv dX7_takes_52 rfl rfl
theorem c_mpasses {E : kEnv} {f : Nat → Int → Int} {s : Int → Int} {g : Nat → Int → Option Nat}  (hm : kGM g) (hx : -1000 ≤ s 28 ∧ s 28 ≤ 1000) : kF E 0 M_X7_passes [kA (45)] ((kMC ++ kMM), kst f 50 s, g) (none) ((kMC ++ kMM), kst f 50 (mPass s), g) := by
  refine kF_of (by decide) (by simp [k_one]) (Nat.le_of_ble_eq_true rfl) (L := [some (kA (45)), none]) rfl ?_
  refine kw_aload_n dX7_passes_0 rfl ?_
  refine kv_getR (b := 50) dX7_passes_1 kf_X7_22 rfl rfl rfl (hm (45, 5, 50) (by decide)) ?_
  refine kw_bipush dX7_passes_4 (by decide) (by decide) ?_
  refine kw_dup2 dX7_passes_6 trivial trivial ?_
  refine kv_iald dX7_passes_7 rfl (by omega) (by omega) (congrFun kst_self _) ?_
  refine kw_iconst dX7_passes_8 ⟨by decide, by decide⟩ ?_
  refine kw_iadd dX7_passes_9 ⟨by omega, by omega⟩ ?_
  refine kv_iast dX7_passes_10 rfl (by omega) (by omega) ?_
  rw [kst_u]
  refine kw_iconst dX7_passes_11 ⟨by decide, by decide⟩ ?_
  refine kw_istore_n dX7_passes_12 (by decide) trivial (L2 := [some (kA (45)), some (kI (0))]) rfl ?_
  refine kw_iload_n dX7_passes_13 rfl ?_
  refine kw_iconst dX7_passes_14 ⟨by decide, by decide⟩ ?_
  refine kw_icmp_ge (tgt := 34) dX7_passes_15 (by decide) (kt := fun h => absurd h (by decide)) (kf := fun _ => ?_)
  refine kw_aload_n dX7_passes_18 rfl ?_
  refine kv_getR (b := 50) dX7_passes_19 kf_X7_22 rfl rfl rfl (hm (45, 5, 50) (by decide)) ?_
  refine kw_bipush dX7_passes_22 (by decide) (by decide) ?_
  refine kw_iload_n dX7_passes_24 rfl ?_
  refine kw_iadd dX7_passes_25 ⟨by omega, by omega⟩ ?_
  refine kw_iconst dX7_passes_26 ⟨by decide, by decide⟩ ?_
  refine kv_iast dX7_passes_27 rfl (by omega) (by omega) ?_
  rw [kst_u]
  refine kw_iinc dX7_passes_28 (by decide) rfl ⟨by omega, by omega⟩ trivial (L2 := [some (kA (45)), some (kI (1))]) rfl ?_
  refine kw_goto (tgt := 13) dX7_passes_31 (by decide) ?_
  refine kw_iload_n dX7_passes_13 rfl ?_
  refine kw_iconst dX7_passes_14 ⟨by decide, by decide⟩ ?_
  refine kw_icmp_ge (tgt := 34) dX7_passes_15 (by decide) (kt := fun h => absurd h (by decide)) (kf := fun _ => ?_)
  refine kw_aload_n dX7_passes_18 rfl ?_
  refine kv_getR (b := 50) dX7_passes_19 kf_X7_22 rfl rfl rfl (hm (45, 5, 50) (by decide)) ?_
  refine kw_bipush dX7_passes_22 (by decide) (by decide) ?_
  refine kw_iload_n dX7_passes_24 rfl ?_
  refine kw_iadd dX7_passes_25 ⟨by omega, by omega⟩ ?_
  refine kw_iconst dX7_passes_26 ⟨by decide, by decide⟩ ?_
  refine kv_iast dX7_passes_27 rfl (by omega) (by omega) ?_
  rw [kst_u]
  refine kw_iinc dX7_passes_28 (by decide) rfl ⟨by omega, by omega⟩ trivial (L2 := [some (kA (45)), some (kI (2))]) rfl ?_
  refine kw_goto (tgt := 13) dX7_passes_31 (by decide) ?_
  refine kw_iload_n dX7_passes_13 rfl ?_
  refine kw_iconst dX7_passes_14 ⟨by decide, by decide⟩ ?_
  refine kw_icmp_ge (tgt := 34) dX7_passes_15 (by decide) (kt := fun h => absurd h (by decide)) (kf := fun _ => ?_)
  refine kw_aload_n dX7_passes_18 rfl ?_
  refine kv_getR (b := 50) dX7_passes_19 kf_X7_22 rfl rfl rfl (hm (45, 5, 50) (by decide)) ?_
  refine kw_bipush dX7_passes_22 (by decide) (by decide) ?_
  refine kw_iload_n dX7_passes_24 rfl ?_
  refine kw_iadd dX7_passes_25 ⟨by omega, by omega⟩ ?_
  refine kw_iconst dX7_passes_26 ⟨by decide, by decide⟩ ?_
  refine kv_iast dX7_passes_27 rfl (by omega) (by omega) ?_
  rw [kst_u]
  refine kw_iinc dX7_passes_28 (by decide) rfl ⟨by omega, by omega⟩ trivial (L2 := [some (kA (45)), some (kI (3))]) rfl ?_
  refine kw_goto (tgt := 13) dX7_passes_31 (by decide) ?_
  refine kw_iload_n dX7_passes_13 rfl ?_
  refine kw_iconst dX7_passes_14 ⟨by decide, by decide⟩ ?_
  refine kw_icmp_ge (tgt := 34) dX7_passes_15 (by decide) (kt := fun h => absurd h (by decide)) (kf := fun _ => ?_)
  refine kw_aload_n dX7_passes_18 rfl ?_
  refine kv_getR (b := 50) dX7_passes_19 kf_X7_22 rfl rfl rfl (hm (45, 5, 50) (by decide)) ?_
  refine kw_bipush dX7_passes_22 (by decide) (by decide) ?_
  refine kw_iload_n dX7_passes_24 rfl ?_
  refine kw_iadd dX7_passes_25 ⟨by omega, by omega⟩ ?_
  refine kw_iconst dX7_passes_26 ⟨by decide, by decide⟩ ?_
  refine kv_iast dX7_passes_27 rfl (by omega) (by omega) ?_
  rw [kst_u]
  refine kw_iinc dX7_passes_28 (by decide) rfl ⟨by omega, by omega⟩ trivial (L2 := [some (kA (45)), some (kI (4))]) rfl ?_
  refine kw_goto (tgt := 13) dX7_passes_31 (by decide) ?_
  refine kw_iload_n dX7_passes_13 rfl ?_
  refine kw_iconst dX7_passes_14 ⟨by decide, by decide⟩ ?_
  refine kw_icmp_ge (tgt := 34) dX7_passes_15 (by decide) (kf := fun h => absurd (by decide) h) (kt := fun _ => ?_)
  exact kv_rv dX7_passes_34 rfl rfl
