/-! the text that the class begins with -/
theorem kv_callVS1 {E : kEnv} {d mc ms d2 : Nat} {M M2 : kMd} {pc idx : Nat} {L : kLs} {S S0 As : List kV} {h h2 : kH} {Q : Option kV → kH → Prop} {v : kV} (hd : decode M.2.1 pc = .ok (.invokevirtual idx, 3)) (hlk : Cond.methodLink M.1.cls idx M2.1 ∈ k_KT) (q : k_qV M2 As.length) (hcl : M2.1.cls = RJ0) (hs0 : S0 = As.reverse ++ kA 1000003 :: S) (hwd : (S.map k_wd).sum ≤ 8) (hc : kF E d2 M2 (kA 1000003 :: As) h (some v) h2) (hd2 : d2 + 1 ≤ d)
    (k : kW E d mc ms M (pc + 3) L (v :: S) h2 Q) : kW E d mc ms M pc L S0 h Q := kw_callVS hd hlk q hcl hs0 hwd hc hd2 (Nat.le_refl _) (Nat.le_refl _) (fun r h' z => by obtain ⟨rfl, rfl⟩ := z; exact k)
theorem k_FTr : ∀ i, i < 87 → 32 ≤ k_FT.getD i 0 ∧ k_FT.getD i 0 ≤ 126 := by decide +kernel
theorem k_FTa : ∀ i, i < 87 → Int32.ofInt (k_FT.getD i 0) &&& Int32.ofInt 255 = Int32.ofInt (k_FT.getD i 0) := by decide +kernel
theorem c_scoder {E : kEnv} {h : kH}   : kF E 0 M_J0_coder_7d493 [kA (1000003)] h (some (kI (0))) h := by
  refine kF_of (by decide) (by simp [k_one]) (Nat.le_of_ble_eq_true rfl) (L := [some (kA (1000003))]) rfl ?_
  refine kw_getsC dJ0_coder_7d493_0 fl_J0_38 ?_
  refine kw_if_eq (tgt := 13) dJ0_coder_7d493_3 (by decide) (kt := fun h => absurd h (by decide)) (kf := fun _ => ?_)
  refine kw_aload_n dJ0_coder_7d493_6 rfl ?_
  refine kw_getSc dJ0_coder_7d493_7 fl_J0_15 ?_
  refine kw_goto (tgt := 14) dJ0_coder_7d493_10 (by decide) ?_
  exact kw_iret dJ0_coder_7d493_14 rfl rfl ⟨rfl, rfl⟩
theorem c_slatin {E : kEnv} {h : kH}   : kF E 0 M_J0_isLatin1_aae02 [kA (1000003)] h (some (kI (1))) h := by
  refine kF_of (by decide) (by simp [k_one]) (Nat.le_of_ble_eq_true rfl) (L := [some (kA (1000003))]) rfl ?_
  refine kw_getsC dJ0_isLatin1_aae02_0 fl_J0_38 ?_
  refine kw_if_eq (tgt := 17) dJ0_isLatin1_aae02_3 (by decide) (kt := fun h => absurd h (by decide)) (kf := fun _ => ?_)
  refine kw_aload_n dJ0_isLatin1_aae02_6 rfl ?_
  refine kw_getSc dJ0_isLatin1_aae02_7 fl_J0_15 ?_
  refine kw_if_ne (tgt := 17) dJ0_isLatin1_aae02_10 (by decide) (kt := fun h => absurd h (by decide)) (kf := fun _ => ?_)
  refine kw_iconst dJ0_isLatin1_aae02_13 ⟨by decide, by decide⟩ ?_
  refine kw_goto (tgt := 18) dJ0_isLatin1_aae02_14 (by decide) ?_
  exact kw_iret dJ0_isLatin1_aae02_18 rfl rfl ⟨rfl, rfl⟩
theorem c_sprec {E : kEnv} {h : kH} {i n : Int} (hi : 0 ≤ i ∧ i < n) : kF E 0 M_J3_checkIndex_8e157 [kI (i), kI (n), kA (1000005)] h (some (kI (i))) h := by
  refine kF_of (by decide) (by simp [k_one]) (Nat.le_of_ble_eq_true rfl) (L := [some (kI (i)), some (kI (n)), some (kA (1000005))]) rfl ?_
  refine kw_iload_n dJ3_checkIndex_8e157_0 rfl ?_
  refine kw_if_lt (tgt := 9) dJ3_checkIndex_8e157_1 (by decide) (kt := fun h1 => absurd h1 (by omega)) (kf := fun h1 => ?_)
  refine kw_iload_n dJ3_checkIndex_8e157_4 rfl ?_
  refine kw_iload_n dJ3_checkIndex_8e157_5 rfl ?_
  refine kw_icmp_lt (tgt := 16) dJ3_checkIndex_8e157_6 (by decide) (kf := fun h2 => absurd h2 (by omega)) (kt := fun h2 => ?_)
  refine kw_iload_n dJ3_checkIndex_8e157_16 rfl ?_
  exact kv_ri dJ3_checkIndex_8e157_17 rfl rfl rfl
theorem c_scheck {E : kEnv} {h : kH} {i n : Int} (hi : 0 ≤ i ∧ i < n) : kF E 1 M_J0_checkIndex_df160 [kI (i), kI (n)] h (none) h := by
  refine kF_of (by decide) (by simp [k_one]) (Nat.le_of_ble_eq_true rfl) (L := [some (kI (i)), some (kI (n))]) rfl ?_
  refine kw_iload_n dJ0_checkIndex_df160_0 rfl ?_
  refine kw_iload_n dJ0_checkIndex_df160_1 rfl ?_
  refine kw_getsF dJ0_checkIndex_df160_2 fl_J0_1053 ?_
  refine kv_callS1 (M2 := M_J3_checkIndex_8e157) (As := [kI (i), kI (n), kA (1000005)]) dJ0_checkIndex_df160_5 ml_J0_1059 q_J3_checkIndex_8e157 rfl (Nat.le_of_ble_eq_true rfl) (c_sprec (by omega)) (by omega) ?_
  refine kw_pop dJ0_checkIndex_df160_8 trivial ?_
  exact kv_rv dJ0_checkIndex_df160_9 rfl rfl
theorem c_s1 {E : kEnv} {h : kH} {k : Int} (hi : 0 ≤ k ∧ k < 87) : kF E 2 M_J1_charAt_3b067 [kA (1000004), kI (k)] h (some (kI (k_FT.getD k.toNat 0))) h := by
  refine kF_of (by decide) (by simp [k_one]) (Nat.le_of_ble_eq_true rfl) (L := [some (kA (1000004)), some (kI (k))]) rfl ?_
  have kr := k_FTr k.toNat (by omega)
  refine kw_iload_n dJ1_charAt_3b067_0 rfl ?_
  refine kw_aload_n dJ1_charAt_3b067_1 rfl ?_
  refine kw_alenB dJ1_charAt_3b067_2 ?_
  refine kv_callS0 (M2 := M_J0_checkIndex_df160) (As := [kI (k), kI (87)]) dJ1_charAt_3b067_3 ml_J1_9 q_J0_checkIndex_df160 rfl (Nat.le_of_ble_eq_true rfl) (c_scheck (by omega)) (by omega) ?_
  refine kw_aload_n dJ1_charAt_3b067_6 rfl ?_
  refine kw_iload_n dJ1_charAt_3b067_7 rfl ?_
  refine kw_baldB dJ1_charAt_3b067_8 (by omega) (by omega) ?_
  refine kw_sipush dJ1_charAt_3b067_9 (by decide) (by decide) ?_
  refine kw_iandG dJ1_charAt_3b067_12 (z := k_FT.getD k.toNat 0) ⟨by omega, by omega⟩ (k_FTa _ (by omega)) ?_
  refine kw_i2c dJ1_charAt_3b067_13 (by omega) (by omega) ?_
  exact kv_rc dJ1_charAt_3b067_14 rfl (by omega) (by omega) rfl rfl
theorem c_slen {E : kEnv} {h : kH}   : kF E 1 M_J0_length_8abf5 [kA (1000003)] h (some (kI (87))) h := by
  refine kF_of (by decide) (by simp [k_one]) (Nat.le_of_ble_eq_true rfl) (L := [some (kA (1000003))]) rfl ?_
  refine kw_aload_n dJ0_length_8abf5_0 rfl ?_
  refine kw_getSv dJ0_length_8abf5_1 fl_J0_9 ?_
  refine kw_alenB dJ0_length_8abf5_4 ?_
  refine kw_aload_n dJ0_length_8abf5_5 rfl ?_
  refine kv_callVS1 (M2 := M_J0_coder_7d493) (As := []) dJ0_length_8abf5_6 ml_J0_335 q_J0_coder_7d493 rfl rfl (Nat.le_of_ble_eq_true rfl) (c_scoder) (by omega) ?_
  refine kv_shr dJ0_length_8abf5_9 (by omega) (by omega) (by omega) (by omega) ?_
  exact kv_ri dJ0_length_8abf5_10 rfl rfl rfl
theorem c_sat {E : kEnv} {h : kH} {k : Int} (hi : 0 ≤ k ∧ k < 87) : kF E 3 M_J0_charAt_5068e [kA (1000003), kI (k)] h (some (kI (k_FT.getD k.toNat 0))) h := by
  refine kF_of (by decide) (by simp [k_one]) (Nat.le_of_ble_eq_true rfl) (L := [some (kA (1000003)), some (kI (k))]) rfl ?_
  have kr := k_FTr k.toNat (by omega)
  refine kw_aload_n dJ0_charAt_5068e_0 rfl ?_
  refine kv_callVS1 (M2 := M_J0_isLatin1_aae02) (As := []) dJ0_charAt_5068e_1 ml_J0_492 q_J0_isLatin1_aae02 rfl rfl (Nat.le_of_ble_eq_true rfl) (c_slatin) (by omega) ?_
  refine kw_if_eq (tgt := 16) dJ0_charAt_5068e_4 (by decide) (kt := fun h => absurd h (by decide)) (kf := fun _ => ?_)
  refine kw_aload_n dJ0_charAt_5068e_7 rfl ?_
  refine kw_getSv dJ0_charAt_5068e_8 fl_J0_9 ?_
  refine kw_iload_n dJ0_charAt_5068e_11 rfl ?_
  refine kv_callS1 (M2 := M_J1_charAt_3b067) (As := [kA (1000004), kI (k)]) dJ0_charAt_5068e_12 ml_J0_495 q_J1_charAt_3b067 rfl (Nat.le_of_ble_eq_true rfl) (c_s1 (by omega)) (by omega) ?_
  exact kv_rc dJ0_charAt_5068e_15 rfl (by omega) (by omega) rfl rfl
/-- the first k letters of that text stand in the class's text -/
def kFt (f : Nat → Int → Int) (k : Int) : Nat → Int → Int := fun b j => if b = 2 ∧ 0 ≤ j ∧ j < k then k_FT.getD j.toNat 0 else if b = 1 ∧ j = 2 then k else f b j
theorem kFt_0 {f : Nat → Int → Int} : k_u f 1 2 0 = kFt f 0 := by
  funext b j
  unfold k_u kFt
  by_cases h : b = 1 ∧ j = 2
  · rw [if_pos h, if_neg (by omega)]
  · rw [if_neg h, if_neg (by omega)]
theorem kFt_s {f : Nat → Int → Int} {k : Int} (h : 0 ≤ k) : k_u (k_u (kFt f k) 2 k (k_FT.getD k.toNat 0)) 1 2 (k + 1) = kFt f (k + 1) := by
  funext b j
  unfold k_u kFt
  by_cases h1 : b = 1 ∧ j = 2
  · rw [if_pos h1, if_neg (by omega), if_pos h1]
  · rw [if_neg h1]
    by_cases h2 : b = 2 ∧ j = k
    · rw [if_pos h2, if_pos (by omega), h2.2]
    · rw [if_neg h2]
      by_cases h3 : b = 2 ∧ 0 ≤ j ∧ j < k
      · rw [if_pos h3, if_pos (by omega)]
      · rw [if_neg h3, if_neg h1, if_neg (by omega), if_neg h1]
theorem kFt_l {f : Nat → Int → Int} {k : Int} : kFt f k 1 2 = k := (if_neg (fun z => absurd z.1 (by decide))).trans (if_pos ⟨rfl, rfl⟩)
theorem kFt_o {f : Nat → Int → Int} {k : Int} {b : Nat} (h : b ≠ 1 ∧ b ≠ 2) : kFt f k b = f b := by
  funext j
  exact (if_neg (fun z => h.2 z.1)).trans (if_neg (fun z => h.1 z.1))
theorem l_become {E : kEnv} {w : List (Nat × Nat)} {f : Nat → Int → Int} {g : Nat → Int → Option Nat} (hg : kG g) : ∀ (m : Nat) (k : Int), (0 ≤ k ∧ k ≤ 87) → (87 - k).toNat < m → kW E 4 0 0 M_X5_become 7 [some (kA 1), some (kA 1000003), some (kI k)] [] ((kMC ++ w), kFt f k, g) (fun r h' => r = none ∧ h' = ((kMC ++ w), kFt f 87, g)) := by
  intro m
  induction m with
  | zero => intro k _ y; omega
  | succ m ih =>
    intro k y0 y1
    refine kw_iload_n dX5_become_7 rfl ?_
    refine kw_aload_n dX5_become_8 rfl ?_
    refine kv_callVS1 (M2 := M_J0_length_8abf5) (As := []) dX5_become_9 ml_X5_23 q_J0_length_8abf5 rfl rfl (Nat.le_of_ble_eq_true rfl) (c_slen) (by omega) ?_
    refine kw_icmp_ge (tgt := 30) dX5_become_12 (by decide) (fun h1 => ?_) (fun h1 => ?_)
    · exact kv_rv dX5_become_30 rfl (by rw [show k = 87 by omega])
    · have kr := k_FTr k.toNat (by omega)
      refine kw_aload_n dX5_become_15 rfl ?_
      refine kw_aload_n dX5_become_16 rfl ?_
      refine kw_iload_n dX5_become_17 rfl ?_
      refine kv_callVS1 (M2 := M_J0_charAt_5068e) (As := [kI (k)]) dX5_become_18 ml_X5_28 q_J0_charAt_5068e rfl rfl (Nat.le_of_ble_eq_true rfl) (c_sat (by omega)) (by omega) ?_
      refine kv_callV0 (M2 := M_X5_add) (As := [kI (k_FT.getD k.toNat 0)]) dX5_become_21 ml_X5_32 q_X5_add rfl rfl rfl (Nat.le_of_ble_eq_true rfl) (c_tadd hg (by rw [kFt_l]; omega) (by omega)) (by omega) ?_
      refine kw_iinc dX5_become_24 (by decide) rfl ⟨by omega, by omega⟩ trivial (L2 := [some (kA (1)), some (kA (1000003)), some (kI (k + 1))]) rfl ?_
      refine kw_goto (tgt := 7) dX5_become_27 (by decide) ?_
      rw [kFt_l, kFt_s y0.1]
      exact ih (k + 1) ⟨by omega, by omega⟩ (by omega)
theorem c_tbecome {E : kEnv} {w : List (Nat × Nat)} {f : Nat → Int → Int} {g : Nat → Int → Option Nat}  (hg : kG g) : kF E 4 M_X5_become [kA (1), kA (1000003)] ((kMC ++ w), f, g) (none) ((kMC ++ w), kFt f 87, g) := by
  refine kF_of (by decide) (by simp [k_one]) (Nat.le_of_ble_eq_true rfl) (L := [some (kA (1)), some (kA (1000003)), none]) rfl ?_
  refine kw_aload_n dX5_become_0 rfl ?_
  refine kw_iconst dX5_become_1 ⟨by decide, by decide⟩ ?_
  refine kv_putI (kz := 2) dX5_become_2 kp_X5_19 rfl rfl (fun h => by cases h) rfl ?_
  refine kw_iconst dX5_become_5 ⟨by decide, by decide⟩ ?_
  refine kw_istore_n dX5_become_6 (by decide) trivial (L2 := [some (kA (1)), some (kA (1000003)), some (kI (0))]) rfl ?_
  rw [kFt_0]
  exact l_become hg _ 0 ⟨by omega, by omega⟩ (Nat.lt_succ_self _)
