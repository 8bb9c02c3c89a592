/-! the class: constructors -/
def kO : Nat → Int → Int := fun _ _ => 0
theorem kO_z {a : Nat} : k_zi kO a = kO := by
  funext b j
  unfold k_zi kO
  split <;> rfl
section KN
variable {E : kEnv} {d mc ms d2 mc2 ms2 mc3 ms3 : Nat} {M M2 : kMd} {pc idx : Nat} {L : kLs} {S S0 As : List kV} {m m2 : List (Nat × Nat)} {g : Nat → Int → Option Nat} {h h2 : kH} {Q : Option kV → kH → Prop}
theorem kn_h {x : Nat × Nat} {a : Nat} (ha : m.length = a) (em : m ++ [x] = m2) : k_new (m, kO, g) x = (m2, kO, k_zr g a) := by
  subst ha em
  show (m ++ [x], k_zi kO m.length, k_zr g m.length) = _
  rw [kO_z]
theorem kn_new {ci N a : Nat} (hd : decode M.2.1 pc = .ok (.new idx, 3)) (q : k_mk M.1.cls idx ci N) (ha : m.length = a) (hl : a < 999999) (hmc : mc2 + 1 ≤ mc) (hms : ms2 + N ≤ ms) (em : m ++ [(ci, N)] = m2) (k : kW E d mc2 ms2 M (pc + 3) L (kA a :: S) (m2, kO, k_zr g a) Q) : kW E d mc ms M pc L S (m, kO, g) Q :=
  kw_new hd q ha hl hmc hms (by rw [kn_h ha em]; exact k)
theorem kn_newI {n : Int} {a : Nat} (hd : decode M.2.1 pc = .ok (.newarray .int, 2)) (h0 : 0 ≤ n) (h1 : n ≤ 1000) (ha : m.length = a) (hl : a < 999999) (hmc : mc2 + 1 ≤ mc) (hms : ms2 + n.toNat ≤ ms) (em : m ++ [(100, n.toNat)] = m2) (k : kW E d mc2 ms2 M (pc + 2) L (kA a :: S) (m2, kO, k_zr g a) Q) : kW E d mc ms M pc L (kI n :: S) (m, kO, g) Q :=
  kw_newI hd h0 h1 ha hl hmc hms (by rw [kn_h ha em]; exact k)
theorem kn_newC {n : Int} {a : Nat} (hd : decode M.2.1 pc = .ok (.newarray .char, 2)) (h0 : 0 ≤ n) (h1 : n ≤ 1000) (ha : m.length = a) (hl : a < 999999) (hmc : mc2 + 1 ≤ mc) (hms : ms2 + n.toNat ≤ ms) (em : m ++ [(101, n.toNat)] = m2) (k : kW E d mc2 ms2 M (pc + 2) L (kA a :: S) (m2, kO, k_zr g a) Q) : kW E d mc ms M pc L (kI n :: S) (m, kO, g) Q :=
  kw_newC hd h0 h1 ha hl hmc hms (by rw [kn_h ha em]; exact k)
theorem kn_newQ {n : Int} {a : Nat} (hd : decode M.2.1 pc = .ok (.anewarray idx, 3)) (hw : Cond.classLink M.1.cls idx RX4 ∈ k_KT) (h0 : 0 ≤ n) (h1 : n ≤ 1000) (ha : m.length = a) (hl : a < 999999) (hmc : mc2 + 1 ≤ mc) (hms : ms2 + n.toNat ≤ ms) (em : m ++ [(102, n.toNat)] = m2) (k : kW E d mc2 ms2 M (pc + 3) L (kA a :: S) (m2, kO, k_zr g a) Q) : kW E d mc ms M pc L (kI n :: S) (m, kO, g) Q :=
  kw_newQ hd hw h0 h1 ha hl hmc hms (by rw [kn_h ha em]; exact k)
theorem kn_callI {b : Nat} (hd : decode M.2.1 pc = .ok (.invokespecial idx, 3)) (hlk : Cond.methodLink M.1.cls idx M2.1 ∈ k_KT) (q : k_qI M2 As.length) (hb : b < 1000000) (hs0 : S0 = As.reverse ++ kA b :: S) (hwd : (S.map k_wd).sum ≤ 8) (hc : kC E d2 mc2 ms2 M2 (kA b :: As) h (fun r h' => r = none ∧ h' = h2)) (hd2 : d2 + 1 ≤ d) (hmc : mc3 + mc2 ≤ mc) (hms : ms3 + ms2 ≤ ms) (k : kW E d mc3 ms3 M (pc + 3) L S h2 Q) : kW E d mc ms M pc L S0 h Q :=
  kw_callI hd hlk q hb hs0 hwd hc hd2 hmc hms (fun r h' z => by obtain ⟨rfl, rfl⟩ := z; exact k)
theorem kn_callIN {b : Nat} (hd : decode M.2.1 pc = .ok (.invokespecial idx, 3)) (hlk : (idx, M.1.cls, M2.1) ∈ k_nest) (q : k_qI M2 As.length) (hb : b < 1000000) (hs0 : S0 = As.reverse ++ kA b :: S) (hwd : (S.map k_wd).sum ≤ 8) (hc : kC E d2 mc2 ms2 M2 (kA b :: As) h (fun r h' => r = none ∧ h' = h2)) (hd2 : d2 + 1 ≤ d) (hmc : mc3 + mc2 ≤ mc) (hms : ms3 + ms2 ≤ ms) (k : kW E d mc3 ms3 M (pc + 3) L S h2 Q) : kW E d mc ms M pc L S0 h Q :=
  kw_callIN hd hlk q hb hs0 hwd hc hd2 hmc hms (fun r h' z => by obtain ⟨rfl, rfl⟩ := z; exact k)
end KN
theorem c_init4 {E : kEnv} {m m2 : List (Nat × Nat)} {g : Nat → Int → Option Nat} {a L : Nat} (hl : m.length = L) (em : m ++ [(100, 20)] = m2) (hq : a < L ∧ L < 1000 ∧ m[a]? = some (4, 3)) : kC E 1 1 20 M_X4_init [kA a] (m, kO, g) (fun r h' => r = none ∧ h' = (m2, kO, k_u (k_zr g L) a 0 (some L))) := by
  refine kC_of (by decide) (by simp [k_one]) (Nat.le_of_ble_eq_true rfl) ?_
  refine (show kW E 1 1 20 M_X4_init 0 [some (kA a)] [] (m, kO, g) _ from ?_)
  have ha2 : m2[a]? = some (4, 3) := by
    rw [← em, List.getElem?_append_left (by omega)]
    exact hq.2.2
  refine kw_aload_n dX4_init_0 rfl ?_
  refine kw_objInit dX4_init_1 ml_X4_5 (by omega) (by decide) (by omega) ?_
  refine kw_aload_n dX4_init_4 rfl ?_
  refine kw_bipush dX4_init_5 (by decide) (by decide) ?_
  refine kn_newI dX4_init_7 (by decide) (by decide) (mc2 := 0) (ms2 := 0) hl (by omega) (by decide) (by decide) em ?_
  refine kv_putR (kz := 0) dX4_init_9 kp_X4_11 ha2 rfl (by omega) (fun _ => rfl) rfl ?_
  exact kv_rv dX4_init_12 rfl rfl
theorem c_init5 {E : kEnv} {g : Nat → Int → Option Nat} : kC E 2 2 204 M_X5_init [kA (1)] (kMC.take 2, kO, g) (fun r h' => r = none ∧ h' = (kMC.take 4, kO, k_u ((k_zr (k_u ((k_zr g 2)) 1 0 (some 2)) 3)) 1 1 (some 3))) := by
  refine kC_of (by decide) (by simp [k_one]) (Nat.le_of_ble_eq_true rfl) ?_
  refine (show kW E 2 2 204 M_X5_init 0 [some (kA (1))] [] (kMC.take 2, kO, g) _ from ?_)
  refine kw_aload_n dX5_init_0 rfl ?_
  refine kw_objInit dX5_init_1 ml_X5_3 (by omega) (by decide) (by omega) ?_
  refine kw_aload_n dX5_init_4 rfl ?_
  refine kw_sipush dX5_init_5 (by decide) (by decide) ?_
  refine kn_newC dX5_init_8 (by decide) (by decide) (a := 2) (mc2 := 1) (ms2 := 4) (m2 := kMC.take 3) rfl (by decide) (by decide) (by decide) rfl ?_
  refine kv_putR (kz := 0) dX5_init_10 kp_X5_11 rfl rfl (by omega) (fun _ => rfl) rfl ?_
  refine kw_aload_n dX5_init_13 rfl ?_
  refine kw_iconst dX5_init_14 ⟨by decide, by decide⟩ ?_
  refine kn_newI dX5_init_15 (by decide) (by decide) (a := 3) (mc2 := 0) (ms2 := 0) (m2 := kMC.take 4) rfl (by decide) (by decide) (by decide) rfl ?_
  refine kv_putR (kz := 1) dX5_init_17 kp_X5_15 rfl rfl (by omega) (fun _ => rfl) rfl ?_
  exact kv_rv dX5_init_20 rfl rfl
theorem c_init2 {E : kEnv} {g : Nat → Int → Option Nat} : kC E 2 5 32 M_X2_init [kA (4)] (kMC.take 5, kO, g) (fun r h' => r = none ∧ h' = (kMC.take 10, kO, k_u ((k_zr (k_u ((k_zr (k_u ((k_zr (k_u ((k_zr (k_u ((k_zr g 5)) 4 0 (some 5)) 6)) 4 1 (some 6)) 7)) 4 2 (some 7)) 8)) 4 3 (some 8)) 9)) 4 4 (some 9))) := by
  refine kC_of (by decide) (by simp [k_one]) (Nat.le_of_ble_eq_true rfl) ?_
  refine (show kW E 2 5 32 M_X2_init 0 [some (kA (4))] [] (kMC.take 5, kO, g) _ from ?_)
  refine kw_aload_n dX2_init_0 rfl ?_
  refine kw_objInit dX2_init_1 ml_X2_3 (by omega) (by decide) (by omega) ?_
  refine kw_aload_n dX2_init_4 rfl ?_
  refine kw_bipush dX2_init_5 (by decide) (by decide) ?_
  refine kn_newI dX2_init_7 (by decide) (by decide) (a := 5) (mc2 := 4) (ms2 := 24) (m2 := kMC.take 6) rfl (by decide) (by decide) (by decide) rfl ?_
  refine kv_putR (kz := 0) dX2_init_9 kp_X2_9 rfl rfl (by omega) (fun _ => rfl) rfl ?_
  refine kw_aload_n dX2_init_12 rfl ?_
  refine kw_bipush dX2_init_13 (by decide) (by decide) ?_
  refine kn_newI dX2_init_15 (by decide) (by decide) (a := 6) (mc2 := 3) (ms2 := 16) (m2 := kMC.take 7) rfl (by decide) (by decide) (by decide) rfl ?_
  refine kv_putR (kz := 1) dX2_init_17 kp_X2_15 rfl rfl (by omega) (fun _ => rfl) rfl ?_
  refine kw_aload_n dX2_init_20 rfl ?_
  refine kw_bipush dX2_init_21 (by decide) (by decide) ?_
  refine kn_newI dX2_init_23 (by decide) (by decide) (a := 7) (mc2 := 2) (ms2 := 8) (m2 := kMC.take 8) rfl (by decide) (by decide) (by decide) rfl ?_
  refine kv_putR (kz := 2) dX2_init_25 kp_X2_18 rfl rfl (by omega) (fun _ => rfl) rfl ?_
  refine kw_aload_n dX2_init_28 rfl ?_
  refine kw_iconst dX2_init_29 ⟨by decide, by decide⟩ ?_
  refine kn_newI dX2_init_30 (by decide) (by decide) (a := 8) (mc2 := 1) (ms2 := 4) (m2 := kMC.take 9) rfl (by decide) (by decide) (by decide) rfl ?_
  refine kv_putR (kz := 3) dX2_init_32 kp_X2_21 rfl rfl (by omega) (fun _ => rfl) rfl ?_
  refine kw_aload_n dX2_init_35 rfl ?_
  refine kw_iconst dX2_init_36 ⟨by decide, by decide⟩ ?_
  refine kn_newI dX2_init_37 (by decide) (by decide) (a := 9) (mc2 := 0) (ms2 := 0) (m2 := kMC.take 10) rfl (by decide) (by decide) (by decide) rfl ?_
  refine kv_putR (kz := 4) dX2_init_39 kp_X2_24 rfl rfl (by omega) (fun _ => rfl) rfl ?_
  exact kv_rv dX2_init_42 rfl rfl
theorem c_init38 {E : kEnv} {g : Nat → Int → Option Nat} : kC E 2 17 192 M_X3_init [kA (12), kI (8)] (kMC.take 13, kO, g) (fun r h' => r = none ∧ h' = (kMC.take 30, kO, (k_u ((k_u (k_zr ((k_zr ((k_u ((k_u (k_zr ((k_zr ((k_u ((k_u (k_zr ((k_zr ((k_u ((k_u (k_zr ((k_zr ((k_u ((k_u (k_zr ((k_zr ((k_u ((k_u (k_zr ((k_zr ((k_u ((k_u (k_zr ((k_zr ((k_u ((k_u (k_zr ((k_zr (k_u ((k_zr g 13)) 12 0 (some 13)) 14)) 15) 14 0 (some 15))) 13 0 (some 14))) 16)) 17) 16 0 (some 17))) 13 1 (some 16))) 18)) 19) 18 0 (some 19))) 13 2 (some 18))) 20)) 21) 20 0 (some 21))) 13 3 (some 20))) 22)) 23) 22 0 (some 23))) 13 4 (some 22))) 24)) 25) 24 0 (some 25))) 13 5 (some 24))) 26)) 27) 26 0 (some 27))) 13 6 (some 26))) 28)) 29) 28 0 (some 29))) 13 7 (some 28)))) := by
  refine kC_of (by decide) (by simp [k_one]) (Nat.le_of_ble_eq_true rfl) ?_
  refine (show kW E 2 17 192 M_X3_init 0 [some (kA (12)), some (kI (8)), none] [] (kMC.take 13, kO, g) _ from ?_)
  refine kw_aload_n dX3_init_0 rfl ?_
  refine kw_objInit dX3_init_1 ml_X3_1 (by omega) (by decide) (by omega) ?_
  refine kw_aload_n dX3_init_4 rfl ?_
  refine kw_iconst dX3_init_5 ⟨by decide, by decide⟩ ?_
  refine kw_iload_n dX3_init_6 rfl ?_
  refine kw_max dX3_init_7 ml_X3_7 (Nat.le_of_ble_eq_true rfl) (by omega) ?_
  refine (show kW _ _ _ _ _ _ _ (kI 8 :: _) _ _ from ?_)
  refine kn_newQ dX3_init_10 cl_X3_13 (by decide) (by decide) (a := 13) (mc2 := 16) (ms2 := 184) (m2 := kMC.take 14) rfl (by decide) (by decide) (by decide) rfl ?_
  refine kv_putR (kz := 0) dX3_init_13 kp_X3_15 rfl rfl (by omega) (fun _ => rfl) rfl ?_
  refine kw_iconst dX3_init_16 ⟨by decide, by decide⟩ ?_
  refine kw_istore_n dX3_init_17 (by decide) trivial (L2 := [some (kA (12)), some (kI (8)), some (kI (0))]) rfl ?_
  refine kw_iload_n dX3_init_18 rfl ?_
  refine kw_aload_n dX3_init_19 rfl ?_
  refine kv_getR (b := 13) dX3_init_20 kf_X3_15 rfl rfl rfl (by rfl) ?_
  refine kv_alen dX3_init_23 rfl (by decide) ?_
  refine kw_icmp_ge (tgt := 46) dX3_init_24 (by decide) (kt := fun h => absurd h (by decide)) (kf := fun _ => ?_)
  refine kw_aload_n dX3_init_27 rfl ?_
  refine kv_getR (b := 13) dX3_init_28 kf_X3_15 rfl rfl rfl (by rfl) ?_
  refine kw_iload_n dX3_init_31 rfl ?_
  refine kn_new dX3_init_32 km_X3_13 (a := 14) (mc2 := 15) (ms2 := 181) (m2 := kMC.take 15) rfl (by decide) (by decide) (by decide) rfl ?_
  refine kw_dup dX3_init_35 trivial ?_
  refine kn_callIN (M2 := M_X4_init) (As := []) (b := 14) (mc3 := 14) (ms3 := 161) dX3_init_36 (by decide +kernel) q_X4_init (by decide) rfl (Nat.le_of_ble_eq_true rfl) (c_init4 (m := kMC.take 15) (m2 := kMC.take 16) (g := (k_zr (k_u ((k_zr g 13)) 12 0 (some 13)) 14)) (a := 14) (L := 15) rfl rfl (by decide)) (by omega) (by decide) (by decide) ?_
  refine kv_aast dX3_init_39 rfl rfl (by decide) (by decide) ?_
  refine kw_iinc dX3_init_40 (by decide) rfl ⟨by omega, by omega⟩ trivial (L2 := [some (kA (12)), some (kI (8)), some (kI (1))]) rfl ?_
  refine kw_goto (tgt := 18) dX3_init_43 (by decide) ?_
  refine kw_iload_n dX3_init_18 rfl ?_
  refine kw_aload_n dX3_init_19 rfl ?_
  refine kv_getR (b := 13) dX3_init_20 kf_X3_15 rfl rfl rfl (by rfl) ?_
  refine kv_alen dX3_init_23 rfl (by decide) ?_
  refine kw_icmp_ge (tgt := 46) dX3_init_24 (by decide) (kt := fun h => absurd h (by decide)) (kf := fun _ => ?_)
  refine kw_aload_n dX3_init_27 rfl ?_
  refine kv_getR (b := 13) dX3_init_28 kf_X3_15 rfl rfl rfl (by rfl) ?_
  refine kw_iload_n dX3_init_31 rfl ?_
  refine kn_new dX3_init_32 km_X3_13 (a := 16) (mc2 := 13) (ms2 := 158) (m2 := kMC.take 17) rfl (by decide) (by decide) (by decide) rfl ?_
  refine kw_dup dX3_init_35 trivial ?_
  refine kn_callIN (M2 := M_X4_init) (As := []) (b := 16) (mc3 := 12) (ms3 := 138) dX3_init_36 (by decide +kernel) q_X4_init (by decide) rfl (Nat.le_of_ble_eq_true rfl) (c_init4 (m := kMC.take 17) (m2 := kMC.take 18) (g := (k_zr ((k_u ((k_u (k_zr ((k_zr (k_u ((k_zr g 13)) 12 0 (some 13)) 14)) 15) 14 0 (some 15))) 13 0 (some 14))) 16)) (a := 16) (L := 17) rfl rfl (by decide)) (by omega) (by decide) (by decide) ?_
  refine kv_aast dX3_init_39 rfl rfl (by decide) (by decide) ?_
  refine kw_iinc dX3_init_40 (by decide) rfl ⟨by omega, by omega⟩ trivial (L2 := [some (kA (12)), some (kI (8)), some (kI (2))]) rfl ?_
  refine kw_goto (tgt := 18) dX3_init_43 (by decide) ?_
  refine kw_iload_n dX3_init_18 rfl ?_
  refine kw_aload_n dX3_init_19 rfl ?_
  refine kv_getR (b := 13) dX3_init_20 kf_X3_15 rfl rfl rfl (by rfl) ?_
  refine kv_alen dX3_init_23 rfl (by decide) ?_
  refine kw_icmp_ge (tgt := 46) dX3_init_24 (by decide) (kt := fun h => absurd h (by decide)) (kf := fun _ => ?_)
  refine kw_aload_n dX3_init_27 rfl ?_
  refine kv_getR (b := 13) dX3_init_28 kf_X3_15 rfl rfl rfl (by rfl) ?_
  refine kw_iload_n dX3_init_31 rfl ?_
  refine kn_new dX3_init_32 km_X3_13 (a := 18) (mc2 := 11) (ms2 := 135) (m2 := kMC.take 19) rfl (by decide) (by decide) (by decide) rfl ?_
  refine kw_dup dX3_init_35 trivial ?_
  refine kn_callIN (M2 := M_X4_init) (As := []) (b := 18) (mc3 := 10) (ms3 := 115) dX3_init_36 (by decide +kernel) q_X4_init (by decide) rfl (Nat.le_of_ble_eq_true rfl) (c_init4 (m := kMC.take 19) (m2 := kMC.take 20) (g := (k_zr ((k_u ((k_u (k_zr ((k_zr ((k_u ((k_u (k_zr ((k_zr (k_u ((k_zr g 13)) 12 0 (some 13)) 14)) 15) 14 0 (some 15))) 13 0 (some 14))) 16)) 17) 16 0 (some 17))) 13 1 (some 16))) 18)) (a := 18) (L := 19) rfl rfl (by decide)) (by omega) (by decide) (by decide) ?_
  refine kv_aast dX3_init_39 rfl rfl (by decide) (by decide) ?_
  refine kw_iinc dX3_init_40 (by decide) rfl ⟨by omega, by omega⟩ trivial (L2 := [some (kA (12)), some (kI (8)), some (kI (3))]) rfl ?_
  refine kw_goto (tgt := 18) dX3_init_43 (by decide) ?_
  refine kw_iload_n dX3_init_18 rfl ?_
  refine kw_aload_n dX3_init_19 rfl ?_
  refine kv_getR (b := 13) dX3_init_20 kf_X3_15 rfl rfl rfl (by rfl) ?_
  refine kv_alen dX3_init_23 rfl (by decide) ?_
  refine kw_icmp_ge (tgt := 46) dX3_init_24 (by decide) (kt := fun h => absurd h (by decide)) (kf := fun _ => ?_)
  refine kw_aload_n dX3_init_27 rfl ?_
  refine kv_getR (b := 13) dX3_init_28 kf_X3_15 rfl rfl rfl (by rfl) ?_
  refine kw_iload_n dX3_init_31 rfl ?_
  refine kn_new dX3_init_32 km_X3_13 (a := 20) (mc2 := 9) (ms2 := 112) (m2 := kMC.take 21) rfl (by decide) (by decide) (by decide) rfl ?_
  refine kw_dup dX3_init_35 trivial ?_
  refine kn_callIN (M2 := M_X4_init) (As := []) (b := 20) (mc3 := 8) (ms3 := 92) dX3_init_36 (by decide +kernel) q_X4_init (by decide) rfl (Nat.le_of_ble_eq_true rfl) (c_init4 (m := kMC.take 21) (m2 := kMC.take 22) (g := (k_zr ((k_u ((k_u (k_zr ((k_zr ((k_u ((k_u (k_zr ((k_zr ((k_u ((k_u (k_zr ((k_zr (k_u ((k_zr g 13)) 12 0 (some 13)) 14)) 15) 14 0 (some 15))) 13 0 (some 14))) 16)) 17) 16 0 (some 17))) 13 1 (some 16))) 18)) 19) 18 0 (some 19))) 13 2 (some 18))) 20)) (a := 20) (L := 21) rfl rfl (by decide)) (by omega) (by decide) (by decide) ?_
  refine kv_aast dX3_init_39 rfl rfl (by decide) (by decide) ?_
  refine kw_iinc dX3_init_40 (by decide) rfl ⟨by omega, by omega⟩ trivial (L2 := [some (kA (12)), some (kI (8)), some (kI (4))]) rfl ?_
  refine kw_goto (tgt := 18) dX3_init_43 (by decide) ?_
  refine kw_iload_n dX3_init_18 rfl ?_
  refine kw_aload_n dX3_init_19 rfl ?_
  refine kv_getR (b := 13) dX3_init_20 kf_X3_15 rfl rfl rfl (by rfl) ?_
  refine kv_alen dX3_init_23 rfl (by decide) ?_
  refine kw_icmp_ge (tgt := 46) dX3_init_24 (by decide) (kt := fun h => absurd h (by decide)) (kf := fun _ => ?_)
  refine kw_aload_n dX3_init_27 rfl ?_
  refine kv_getR (b := 13) dX3_init_28 kf_X3_15 rfl rfl rfl (by rfl) ?_
  refine kw_iload_n dX3_init_31 rfl ?_
  refine kn_new dX3_init_32 km_X3_13 (a := 22) (mc2 := 7) (ms2 := 89) (m2 := kMC.take 23) rfl (by decide) (by decide) (by decide) rfl ?_
  refine kw_dup dX3_init_35 trivial ?_
  refine kn_callIN (M2 := M_X4_init) (As := []) (b := 22) (mc3 := 6) (ms3 := 69) dX3_init_36 (by decide +kernel) q_X4_init (by decide) rfl (Nat.le_of_ble_eq_true rfl) (c_init4 (m := kMC.take 23) (m2 := kMC.take 24) (g := (k_zr ((k_u ((k_u (k_zr ((k_zr ((k_u ((k_u (k_zr ((k_zr ((k_u ((k_u (k_zr ((k_zr ((k_u ((k_u (k_zr ((k_zr (k_u ((k_zr g 13)) 12 0 (some 13)) 14)) 15) 14 0 (some 15))) 13 0 (some 14))) 16)) 17) 16 0 (some 17))) 13 1 (some 16))) 18)) 19) 18 0 (some 19))) 13 2 (some 18))) 20)) 21) 20 0 (some 21))) 13 3 (some 20))) 22)) (a := 22) (L := 23) rfl rfl (by decide)) (by omega) (by decide) (by decide) ?_
  refine kv_aast dX3_init_39 rfl rfl (by decide) (by decide) ?_
  refine kw_iinc dX3_init_40 (by decide) rfl ⟨by omega, by omega⟩ trivial (L2 := [some (kA (12)), some (kI (8)), some (kI (5))]) rfl ?_
  refine kw_goto (tgt := 18) dX3_init_43 (by decide) ?_
  refine kw_iload_n dX3_init_18 rfl ?_
  refine kw_aload_n dX3_init_19 rfl ?_
  refine kv_getR (b := 13) dX3_init_20 kf_X3_15 rfl rfl rfl (by rfl) ?_
  refine kv_alen dX3_init_23 rfl (by decide) ?_
  refine kw_icmp_ge (tgt := 46) dX3_init_24 (by decide) (kt := fun h => absurd h (by decide)) (kf := fun _ => ?_)
  refine kw_aload_n dX3_init_27 rfl ?_
  refine kv_getR (b := 13) dX3_init_28 kf_X3_15 rfl rfl rfl (by rfl) ?_
  refine kw_iload_n dX3_init_31 rfl ?_
  refine kn_new dX3_init_32 km_X3_13 (a := 24) (mc2 := 5) (ms2 := 66) (m2 := kMC.take 25) rfl (by decide) (by decide) (by decide) rfl ?_
  refine kw_dup dX3_init_35 trivial ?_
  refine kn_callIN (M2 := M_X4_init) (As := []) (b := 24) (mc3 := 4) (ms3 := 46) dX3_init_36 (by decide +kernel) q_X4_init (by decide) rfl (Nat.le_of_ble_eq_true rfl) (c_init4 (m := kMC.take 25) (m2 := kMC.take 26) (g := (k_zr ((k_u ((k_u (k_zr ((k_zr ((k_u ((k_u (k_zr ((k_zr ((k_u ((k_u (k_zr ((k_zr ((k_u ((k_u (k_zr ((k_zr ((k_u ((k_u (k_zr ((k_zr (k_u ((k_zr g 13)) 12 0 (some 13)) 14)) 15) 14 0 (some 15))) 13 0 (some 14))) 16)) 17) 16 0 (some 17))) 13 1 (some 16))) 18)) 19) 18 0 (some 19))) 13 2 (some 18))) 20)) 21) 20 0 (some 21))) 13 3 (some 20))) 22)) 23) 22 0 (some 23))) 13 4 (some 22))) 24)) (a := 24) (L := 25) rfl rfl (by decide)) (by omega) (by decide) (by decide) ?_
  refine kv_aast dX3_init_39 rfl rfl (by decide) (by decide) ?_
  refine kw_iinc dX3_init_40 (by decide) rfl ⟨by omega, by omega⟩ trivial (L2 := [some (kA (12)), some (kI (8)), some (kI (6))]) rfl ?_
  refine kw_goto (tgt := 18) dX3_init_43 (by decide) ?_
  refine kw_iload_n dX3_init_18 rfl ?_
  refine kw_aload_n dX3_init_19 rfl ?_
  refine kv_getR (b := 13) dX3_init_20 kf_X3_15 rfl rfl rfl (by rfl) ?_
  refine kv_alen dX3_init_23 rfl (by decide) ?_
  refine kw_icmp_ge (tgt := 46) dX3_init_24 (by decide) (kt := fun h => absurd h (by decide)) (kf := fun _ => ?_)
  refine kw_aload_n dX3_init_27 rfl ?_
  refine kv_getR (b := 13) dX3_init_28 kf_X3_15 rfl rfl rfl (by rfl) ?_
  refine kw_iload_n dX3_init_31 rfl ?_
  refine kn_new dX3_init_32 km_X3_13 (a := 26) (mc2 := 3) (ms2 := 43) (m2 := kMC.take 27) rfl (by decide) (by decide) (by decide) rfl ?_
  refine kw_dup dX3_init_35 trivial ?_
  refine kn_callIN (M2 := M_X4_init) (As := []) (b := 26) (mc3 := 2) (ms3 := 23) dX3_init_36 (by decide +kernel) q_X4_init (by decide) rfl (Nat.le_of_ble_eq_true rfl) (c_init4 (m := kMC.take 27) (m2 := kMC.take 28) (g := (k_zr ((k_u ((k_u (k_zr ((k_zr ((k_u ((k_u (k_zr ((k_zr ((k_u ((k_u (k_zr ((k_zr ((k_u ((k_u (k_zr ((k_zr ((k_u ((k_u (k_zr ((k_zr ((k_u ((k_u (k_zr ((k_zr (k_u ((k_zr g 13)) 12 0 (some 13)) 14)) 15) 14 0 (some 15))) 13 0 (some 14))) 16)) 17) 16 0 (some 17))) 13 1 (some 16))) 18)) 19) 18 0 (some 19))) 13 2 (some 18))) 20)) 21) 20 0 (some 21))) 13 3 (some 20))) 22)) 23) 22 0 (some 23))) 13 4 (some 22))) 24)) 25) 24 0 (some 25))) 13 5 (some 24))) 26)) (a := 26) (L := 27) rfl rfl (by decide)) (by omega) (by decide) (by decide) ?_
  refine kv_aast dX3_init_39 rfl rfl (by decide) (by decide) ?_
  refine kw_iinc dX3_init_40 (by decide) rfl ⟨by omega, by omega⟩ trivial (L2 := [some (kA (12)), some (kI (8)), some (kI (7))]) rfl ?_
  refine kw_goto (tgt := 18) dX3_init_43 (by decide) ?_
  refine kw_iload_n dX3_init_18 rfl ?_
  refine kw_aload_n dX3_init_19 rfl ?_
  refine kv_getR (b := 13) dX3_init_20 kf_X3_15 rfl rfl rfl (by rfl) ?_
  refine kv_alen dX3_init_23 rfl (by decide) ?_
  refine kw_icmp_ge (tgt := 46) dX3_init_24 (by decide) (kt := fun h => absurd h (by decide)) (kf := fun _ => ?_)
  refine kw_aload_n dX3_init_27 rfl ?_
  refine kv_getR (b := 13) dX3_init_28 kf_X3_15 rfl rfl rfl (by rfl) ?_
  refine kw_iload_n dX3_init_31 rfl ?_
  refine kn_new dX3_init_32 km_X3_13 (a := 28) (mc2 := 1) (ms2 := 20) (m2 := kMC.take 29) rfl (by decide) (by decide) (by decide) rfl ?_
  refine kw_dup dX3_init_35 trivial ?_
  refine kn_callIN (M2 := M_X4_init) (As := []) (b := 28) (mc3 := 0) (ms3 := 0) dX3_init_36 (by decide +kernel) q_X4_init (by decide) rfl (Nat.le_of_ble_eq_true rfl) (c_init4 (m := kMC.take 29) (m2 := kMC.take 30) (g := (k_zr ((k_u ((k_u (k_zr ((k_zr ((k_u ((k_u (k_zr ((k_zr ((k_u ((k_u (k_zr ((k_zr ((k_u ((k_u (k_zr ((k_zr ((k_u ((k_u (k_zr ((k_zr ((k_u ((k_u (k_zr ((k_zr ((k_u ((k_u (k_zr ((k_zr (k_u ((k_zr g 13)) 12 0 (some 13)) 14)) 15) 14 0 (some 15))) 13 0 (some 14))) 16)) 17) 16 0 (some 17))) 13 1 (some 16))) 18)) 19) 18 0 (some 19))) 13 2 (some 18))) 20)) 21) 20 0 (some 21))) 13 3 (some 20))) 22)) 23) 22 0 (some 23))) 13 4 (some 22))) 24)) 25) 24 0 (some 25))) 13 5 (some 24))) 26)) 27) 26 0 (some 27))) 13 6 (some 26))) 28)) (a := 28) (L := 29) rfl rfl (by decide)) (by omega) (by decide) (by decide) ?_
  refine kv_aast dX3_init_39 rfl rfl (by decide) (by decide) ?_
  refine kw_iinc dX3_init_40 (by decide) rfl ⟨by omega, by omega⟩ trivial (L2 := [some (kA (12)), some (kI (8)), some (kI (8))]) rfl ?_
  refine kw_goto (tgt := 18) dX3_init_43 (by decide) ?_
  refine kw_iload_n dX3_init_18 rfl ?_
  refine kw_aload_n dX3_init_19 rfl ?_
  refine kv_getR (b := 13) dX3_init_20 kf_X3_15 rfl rfl rfl (by rfl) ?_
  refine kv_alen dX3_init_23 rfl (by decide) ?_
  refine kw_icmp_ge (tgt := 46) dX3_init_24 (by decide) (kf := fun h => absurd (by decide) h) (kt := fun _ => ?_)
  exact kv_rv dX3_init_46 rfl rfl
theorem c_init32 {E : kEnv} {g : Nat → Int → Option Nat} : kC E 2 5 48 M_X3_init [kA (30), kI (2)] (kMC.take 31, kO, g) (fun r h' => r = none ∧ h' = (kMC.take 36, kO, (k_u ((k_u (k_zr ((k_zr ((k_u ((k_u (k_zr ((k_zr (k_u ((k_zr g 31)) 30 0 (some 31)) 32)) 33) 32 0 (some 33))) 31 0 (some 32))) 34)) 35) 34 0 (some 35))) 31 1 (some 34)))) := by
  refine kC_of (by decide) (by simp [k_one]) (Nat.le_of_ble_eq_true rfl) ?_
  refine (show kW E 2 5 48 M_X3_init 0 [some (kA (30)), some (kI (2)), none] [] (kMC.take 31, kO, g) _ from ?_)
  refine kw_aload_n dX3_init_0 rfl ?_
  refine kw_objInit dX3_init_1 ml_X3_1 (by omega) (by decide) (by omega) ?_
  refine kw_aload_n dX3_init_4 rfl ?_
  refine kw_iconst dX3_init_5 ⟨by decide, by decide⟩ ?_
  refine kw_iload_n dX3_init_6 rfl ?_
  refine kw_max dX3_init_7 ml_X3_7 (Nat.le_of_ble_eq_true rfl) (by omega) ?_
  refine (show kW _ _ _ _ _ _ _ (kI 2 :: _) _ _ from ?_)
  refine kn_newQ dX3_init_10 cl_X3_13 (by decide) (by decide) (a := 31) (mc2 := 4) (ms2 := 46) (m2 := kMC.take 32) rfl (by decide) (by decide) (by decide) rfl ?_
  refine kv_putR (kz := 0) dX3_init_13 kp_X3_15 rfl rfl (by omega) (fun _ => rfl) rfl ?_
  refine kw_iconst dX3_init_16 ⟨by decide, by decide⟩ ?_
  refine kw_istore_n dX3_init_17 (by decide) trivial (L2 := [some (kA (30)), some (kI (2)), some (kI (0))]) rfl ?_
  refine kw_iload_n dX3_init_18 rfl ?_
  refine kw_aload_n dX3_init_19 rfl ?_
  refine kv_getR (b := 31) dX3_init_20 kf_X3_15 rfl rfl rfl (by rfl) ?_
  refine kv_alen dX3_init_23 rfl (by decide) ?_
  refine kw_icmp_ge (tgt := 46) dX3_init_24 (by decide) (kt := fun h => absurd h (by decide)) (kf := fun _ => ?_)
  refine kw_aload_n dX3_init_27 rfl ?_
  refine kv_getR (b := 31) dX3_init_28 kf_X3_15 rfl rfl rfl (by rfl) ?_
  refine kw_iload_n dX3_init_31 rfl ?_
  refine kn_new dX3_init_32 km_X3_13 (a := 32) (mc2 := 3) (ms2 := 43) (m2 := kMC.take 33) rfl (by decide) (by decide) (by decide) rfl ?_
  refine kw_dup dX3_init_35 trivial ?_
  refine kn_callIN (M2 := M_X4_init) (As := []) (b := 32) (mc3 := 2) (ms3 := 23) dX3_init_36 (by decide +kernel) q_X4_init (by decide) rfl (Nat.le_of_ble_eq_true rfl) (c_init4 (m := kMC.take 33) (m2 := kMC.take 34) (g := (k_zr (k_u ((k_zr g 31)) 30 0 (some 31)) 32)) (a := 32) (L := 33) rfl rfl (by decide)) (by omega) (by decide) (by decide) ?_
  refine kv_aast dX3_init_39 rfl rfl (by decide) (by decide) ?_
  refine kw_iinc dX3_init_40 (by decide) rfl ⟨by omega, by omega⟩ trivial (L2 := [some (kA (30)), some (kI (2)), some (kI (1))]) rfl ?_
  refine kw_goto (tgt := 18) dX3_init_43 (by decide) ?_
  refine kw_iload_n dX3_init_18 rfl ?_
  refine kw_aload_n dX3_init_19 rfl ?_
  refine kv_getR (b := 31) dX3_init_20 kf_X3_15 rfl rfl rfl (by rfl) ?_
  refine kv_alen dX3_init_23 rfl (by decide) ?_
  refine kw_icmp_ge (tgt := 46) dX3_init_24 (by decide) (kt := fun h => absurd h (by decide)) (kf := fun _ => ?_)
  refine kw_aload_n dX3_init_27 rfl ?_
  refine kv_getR (b := 31) dX3_init_28 kf_X3_15 rfl rfl rfl (by rfl) ?_
  refine kw_iload_n dX3_init_31 rfl ?_
  refine kn_new dX3_init_32 km_X3_13 (a := 34) (mc2 := 1) (ms2 := 20) (m2 := kMC.take 35) rfl (by decide) (by decide) (by decide) rfl ?_
  refine kw_dup dX3_init_35 trivial ?_
  refine kn_callIN (M2 := M_X4_init) (As := []) (b := 34) (mc3 := 0) (ms3 := 0) dX3_init_36 (by decide +kernel) q_X4_init (by decide) rfl (Nat.le_of_ble_eq_true rfl) (c_init4 (m := kMC.take 35) (m2 := kMC.take 36) (g := (k_zr ((k_u ((k_u (k_zr ((k_zr (k_u ((k_zr g 31)) 30 0 (some 31)) 32)) 33) 32 0 (some 33))) 31 0 (some 32))) 34)) (a := 34) (L := 35) rfl rfl (by decide)) (by omega) (by decide) (by decide) ?_
  refine kv_aast dX3_init_39 rfl rfl (by decide) (by decide) ?_
  refine kw_iinc dX3_init_40 (by decide) rfl ⟨by omega, by omega⟩ trivial (L2 := [some (kA (30)), some (kI (2)), some (kI (2))]) rfl ?_
  refine kw_goto (tgt := 18) dX3_init_43 (by decide) ?_
  refine kw_iload_n dX3_init_18 rfl ?_
  refine kw_aload_n dX3_init_19 rfl ?_
  refine kv_getR (b := 31) dX3_init_20 kf_X3_15 rfl rfl rfl (by rfl) ?_
  refine kv_alen dX3_init_23 rfl (by decide) ?_
  refine kw_icmp_ge (tgt := 46) dX3_init_24 (by decide) (kf := fun h => absurd (by decide) h) (kt := fun _ => ?_)
  exact kv_rv dX3_init_46 rfl rfl
theorem c_init0 {E : kEnv} {g : Nat → Int → Option Nat} : kC E 2 2 23 M_X0_init [kA (36), kA (4)] (kMC.take 37, kO, g) (fun r h' => r = none ∧ h' = (kMC.take 39, kO, k_u (k_u ((k_u (k_zr ((k_zr g 37)) 38) 37 0 (some 38))) 36 1 (some 37)) 36 0 (some 4))) := by
  refine kC_of (by decide) (by simp [k_one]) (Nat.le_of_ble_eq_true rfl) ?_
  refine (show kW E 2 2 23 M_X0_init 0 [some (kA (36)), some (kA (4))] [] (kMC.take 37, kO, g) _ from ?_)
  refine kw_aload_n dX0_init_0 rfl ?_
  refine kw_objInit dX0_init_1 ml_X0_3 (by omega) (by decide) (by omega) ?_
  refine kw_aload_n dX0_init_4 rfl ?_
  refine kn_new dX0_init_5 km_X0_9 (a := 37) (mc2 := 1) (ms2 := 20) (m2 := kMC.take 38) rfl (by decide) (by decide) (by decide) rfl ?_
  refine kw_dup dX0_init_8 trivial ?_
  refine kn_callIN (M2 := M_X4_init) (As := []) (b := 37) (mc3 := 0) (ms3 := 0) dX0_init_9 (by decide +kernel) q_X4_init (by decide) rfl (Nat.le_of_ble_eq_true rfl) (c_init4 (m := kMC.take 38) (m2 := kMC.take 39) (g := (k_zr g 37)) (a := 37) (L := 38) rfl rfl (by decide)) (by omega) (by decide) (by decide) ?_
  refine kv_putR (kz := 1) dX0_init_12 kp_X0_12 rfl rfl (by omega) (fun _ => rfl) rfl ?_
  refine kw_aload_n dX0_init_15 rfl ?_
  refine kw_aload_n dX0_init_16 rfl ?_
  refine kv_putR (kz := 0) dX0_init_17 kp_X0_18 rfl rfl (by omega) (fun _ => rfl) rfl ?_
  exact kv_rv dX0_init_20 rfl rfl
theorem c_init1 {E : kEnv} {g : Nat → Int → Option Nat} : kC E 2 5 37 M_X1_init [kA (39), kA (4)] (kMC.take 40, kO, g) (fun r h' => r = none ∧ h' = (kMC.take 45, kO, k_u (k_u ((k_zr (k_u ((k_zr (k_u ((k_zr (k_u ((k_zr (k_u ((k_zr g 40)) 39 1 (some 40)) 41)) 39 2 (some 41)) 42)) 39 3 (some 42)) 43)) 39 4 (some 43)) 44)) 39 5 (some 44)) 39 0 (some 4))) := by
  refine kC_of (by decide) (by simp [k_one]) (Nat.le_of_ble_eq_true rfl) ?_
  refine (show kW E 2 5 37 M_X1_init 0 [some (kA (39)), some (kA (4))] [] (kMC.take 40, kO, g) _ from ?_)
  refine kw_aload_n dX1_init_0 rfl ?_
  refine kw_objInit dX1_init_1 ml_X1_3 (by omega) (by decide) (by omega) ?_
  refine kw_aload_n dX1_init_4 rfl ?_
  refine kw_bipush dX1_init_5 (by decide) (by decide) ?_
  refine kn_newI dX1_init_7 (by decide) (by decide) (a := 40) (mc2 := 4) (ms2 := 29) (m2 := kMC.take 41) rfl (by decide) (by decide) (by decide) rfl ?_
  refine kv_putR (kz := 1) dX1_init_9 kp_X1_9 rfl rfl (by omega) (fun _ => rfl) rfl ?_
  refine kw_aload_n dX1_init_12 rfl ?_
  refine kw_bipush dX1_init_13 (by decide) (by decide) ?_
  refine kn_newI dX1_init_15 (by decide) (by decide) (a := 41) (mc2 := 3) (ms2 := 20) (m2 := kMC.take 42) rfl (by decide) (by decide) (by decide) rfl ?_
  refine kv_putR (kz := 2) dX1_init_17 kp_X1_15 rfl rfl (by omega) (fun _ => rfl) rfl ?_
  refine kw_aload_n dX1_init_20 rfl ?_
  refine kw_iconst dX1_init_21 ⟨by decide, by decide⟩ ?_
  refine kn_newI dX1_init_22 (by decide) (by decide) (a := 42) (mc2 := 2) (ms2 := 16) (m2 := kMC.take 43) rfl (by decide) (by decide) (by decide) rfl ?_
  refine kv_putR (kz := 3) dX1_init_24 kp_X1_18 rfl rfl (by omega) (fun _ => rfl) rfl ?_
  refine kw_aload_n dX1_init_27 rfl ?_
  refine kw_bipush dX1_init_28 (by decide) (by decide) ?_
  refine kn_newI dX1_init_30 (by decide) (by decide) (a := 43) (mc2 := 1) (ms2 := 8) (m2 := kMC.take 44) rfl (by decide) (by decide) (by decide) rfl ?_
  refine kv_putR (kz := 4) dX1_init_32 kp_X1_21 rfl rfl (by omega) (fun _ => rfl) rfl ?_
  refine kw_aload_n dX1_init_35 rfl ?_
  refine kw_bipush dX1_init_36 (by decide) (by decide) ?_
  refine kn_newI dX1_init_38 (by decide) (by decide) (a := 44) (mc2 := 0) (ms2 := 0) (m2 := kMC.take 45) rfl (by decide) (by decide) (by decide) rfl ?_
  refine kv_putR (kz := 5) dX1_init_40 kp_X1_24 rfl rfl (by omega) (fun _ => rfl) rfl ?_
  refine kw_aload_n dX1_init_43 rfl ?_
  refine kw_aload_n dX1_init_44 rfl ?_
  refine kv_putR (kz := 0) dX1_init_45 kp_X1_27 rfl rfl (by omega) (fun _ => rfl) rfl ?_
  exact kv_rv dX1_init_48 rfl rfl
