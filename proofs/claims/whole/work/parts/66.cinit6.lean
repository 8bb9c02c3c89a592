/-! the class: its first text is read; its constructor -/
def txF : Int → Int := fun j => k_FT.getD j.toNat 0
def fT0 : Int → Int := bgT (fun _ => 0)
def fS0 : Int → Int := bgS (fun _ => 0)
def fT1 : Int → Int := iB fT0 0 6 4
def fS1 : Int → Int := upi fS0 (fT0 0) 0
def fT2 : Int → Int := iB fT1 0 9 7
def fS2 : Int → Int := upi fS1 (fT1 0) 2
def fT3 : Int → Int := iB fT2 1 5 9
def fS3 : Int → Int := upi fS2 (fT2 0) 0
def fT4 : Int → Int := iB fT3 2 4 5
def fS4 : Int → Int := upi fS3 (fT3 0) 1
def fT5 : Int → Int := iB fT4 3 15 3
def fS5 : Int → Int := upi fS4 (fT4 0) 4
def fT6 : Int → Int := iB fT5 0 12 6
def fS6 : Int → Int := upi fS5 (fT5 0) 8
def fT7 : Int → Int := iN fT6 8 9
def fS7 : Int → Int := upi fS6 (16 + fT6 1) 6
def fT8 : Int → Int := iN fT7 6 12
def fS8 : Int → Int := upi fS7 (16 + fT7 1) 10
def fT9 : Int → Int := iN fT8 9 6
def fS9 : Int → Int := upi fS8 (16 + fT8 1) 7
def fT10 : Int → Int := upi (upi fT9 2 8) 3 3
def fS10 : Int → Int := fS9
def fT11 : Int → Int := upi fT10 4 6
def fS11 : Int → Int := fS10
theorem fst_0 : rA txF 87 100 0 fT0 fS0 = rA txF 87 99 9 fT1 fS1 := by
  have e1 : xN txF 87 0 = 9 := by decide +kernel
  have eT : iT txF 87 0 fT0 = fT1 := (if_pos (by decide +kernel)).trans (by rw [show xV txF 87 (0 + 1) = 0 by decide +kernel, show xV txF 87 (x2 txF 87 0) = 6 by decide +kernel, show xV txF 87 (x3 txF 87 0) = 4 by decide +kernel]; rfl)
  have eS : iS txF 87 0 fT0 fS0 = fS1 := (if_pos (by decide +kernel)).trans (by rw [show xV txF 87 (x4 txF 87 0) = 0 by decide +kernel]; rfl)
  rw [rA_go (by decide) (by decide +kernel), e1, eT, eS]
theorem fst_1 : rA txF 87 99 9 fT1 fS1 = rA txF 87 98 18 fT2 fS2 := by
  have e1 : xN txF 87 9 = 18 := by decide +kernel
  have eT : iT txF 87 9 fT1 = fT2 := (if_pos (by decide +kernel)).trans (by rw [show xV txF 87 (9 + 1) = 0 by decide +kernel, show xV txF 87 (x2 txF 87 9) = 9 by decide +kernel, show xV txF 87 (x3 txF 87 9) = 7 by decide +kernel]; rfl)
  have eS : iS txF 87 9 fT1 fS1 = fS2 := (if_pos (by decide +kernel)).trans (by rw [show xV txF 87 (x4 txF 87 9) = 2 by decide +kernel]; rfl)
  rw [rA_go (by decide) (by decide +kernel), e1, eT, eS]
theorem fst_2 : rA txF 87 98 18 fT2 fS2 = rA txF 87 97 27 fT3 fS3 := by
  have e1 : xN txF 87 18 = 27 := by decide +kernel
  have eT : iT txF 87 18 fT2 = fT3 := (if_pos (by decide +kernel)).trans (by rw [show xV txF 87 (18 + 1) = 1 by decide +kernel, show xV txF 87 (x2 txF 87 18) = 5 by decide +kernel, show xV txF 87 (x3 txF 87 18) = 9 by decide +kernel]; rfl)
  have eS : iS txF 87 18 fT2 fS2 = fS3 := (if_pos (by decide +kernel)).trans (by rw [show xV txF 87 (x4 txF 87 18) = 0 by decide +kernel]; rfl)
  rw [rA_go (by decide) (by decide +kernel), e1, eT, eS]
theorem fst_3 : rA txF 87 97 27 fT3 fS3 = rA txF 87 96 36 fT4 fS4 := by
  have e1 : xN txF 87 27 = 36 := by decide +kernel
  have eT : iT txF 87 27 fT3 = fT4 := (if_pos (by decide +kernel)).trans (by rw [show xV txF 87 (27 + 1) = 2 by decide +kernel, show xV txF 87 (x2 txF 87 27) = 4 by decide +kernel, show xV txF 87 (x3 txF 87 27) = 5 by decide +kernel]; rfl)
  have eS : iS txF 87 27 fT3 fS3 = fS4 := (if_pos (by decide +kernel)).trans (by rw [show xV txF 87 (x4 txF 87 27) = 1 by decide +kernel]; rfl)
  rw [rA_go (by decide) (by decide +kernel), e1, eT, eS]
theorem fst_4 : rA txF 87 96 36 fT4 fS4 = rA txF 87 95 46 fT5 fS5 := by
  have e1 : xN txF 87 36 = 46 := by decide +kernel
  have eT : iT txF 87 36 fT4 = fT5 := (if_pos (by decide +kernel)).trans (by rw [show xV txF 87 (36 + 1) = 3 by decide +kernel, show xV txF 87 (x2 txF 87 36) = 15 by decide +kernel, show xV txF 87 (x3 txF 87 36) = 3 by decide +kernel]; rfl)
  have eS : iS txF 87 36 fT4 fS4 = fS5 := (if_pos (by decide +kernel)).trans (by rw [show xV txF 87 (x4 txF 87 36) = 4 by decide +kernel]; rfl)
  rw [rA_go (by decide) (by decide +kernel), e1, eT, eS]
theorem fst_5 : rA txF 87 95 46 fT5 fS5 = rA txF 87 94 56 fT6 fS6 := by
  have e1 : xN txF 87 46 = 56 := by decide +kernel
  have eT : iT txF 87 46 fT5 = fT6 := (if_pos (by decide +kernel)).trans (by rw [show xV txF 87 (46 + 1) = 0 by decide +kernel, show xV txF 87 (x2 txF 87 46) = 12 by decide +kernel, show xV txF 87 (x3 txF 87 46) = 6 by decide +kernel]; rfl)
  have eS : iS txF 87 46 fT5 fS5 = fS6 := (if_pos (by decide +kernel)).trans (by rw [show xV txF 87 (x4 txF 87 46) = 8 by decide +kernel]; rfl)
  rw [rA_go (by decide) (by decide +kernel), e1, eT, eS]
theorem fst_6 : rA txF 87 94 56 fT6 fS6 = rA txF 87 93 63 fT7 fS7 := by
  have e1 : xN txF 87 56 = 63 := by decide +kernel
  have eT : iT txF 87 56 fT6 = fT7 := ((if_neg (by decide +kernel)).trans (if_pos (by decide +kernel))).trans (by rw [show xV txF 87 (x2 txF 87 56) = 8 by decide +kernel, show xV txF 87 (x3 txF 87 56) = 9 by decide +kernel]; rfl)
  have eS : iS txF 87 56 fT6 fS6 = fS7 := ((if_neg (by decide +kernel)).trans (if_pos (by decide +kernel))).trans (by rw [show xV txF 87 (56 + 1) = 6 by decide +kernel]; rfl)
  rw [rA_go (by decide) (by decide +kernel), e1, eT, eS]
theorem fst_7 : rA txF 87 93 63 fT7 fS7 = rA txF 87 92 72 fT8 fS8 := by
  have e1 : xN txF 87 63 = 72 := by decide +kernel
  have eT : iT txF 87 63 fT7 = fT8 := ((if_neg (by decide +kernel)).trans (if_pos (by decide +kernel))).trans (by rw [show xV txF 87 (x2 txF 87 63) = 6 by decide +kernel, show xV txF 87 (x3 txF 87 63) = 12 by decide +kernel]; rfl)
  have eS : iS txF 87 63 fT7 fS7 = fS8 := ((if_neg (by decide +kernel)).trans (if_pos (by decide +kernel))).trans (by rw [show xV txF 87 (63 + 1) = 10 by decide +kernel]; rfl)
  rw [rA_go (by decide) (by decide +kernel), e1, eT, eS]
theorem fst_8 : rA txF 87 92 72 fT8 fS8 = rA txF 87 91 79 fT9 fS9 := by
  have e1 : xN txF 87 72 = 79 := by decide +kernel
  have eT : iT txF 87 72 fT8 = fT9 := ((if_neg (by decide +kernel)).trans (if_pos (by decide +kernel))).trans (by rw [show xV txF 87 (x2 txF 87 72) = 9 by decide +kernel, show xV txF 87 (x3 txF 87 72) = 6 by decide +kernel]; rfl)
  have eS : iS txF 87 72 fT8 fS8 = fS9 := ((if_neg (by decide +kernel)).trans (if_pos (by decide +kernel))).trans (by rw [show xV txF 87 (72 + 1) = 7 by decide +kernel]; rfl)
  rw [rA_go (by decide) (by decide +kernel), e1, eT, eS]
theorem fst_9 : rA txF 87 91 79 fT9 fS9 = rA txF 87 90 84 fT10 fS10 := by
  have e1 : xN txF 87 79 = 84 := by decide +kernel
  have eT : iT txF 87 79 fT9 = fT10 := ((if_neg (by decide +kernel)).trans ((if_neg (by decide +kernel)).trans (if_pos (by decide +kernel)))).trans (by rw [show xV txF 87 (79 + 1) = 8 by decide +kernel, show xV txF 87 (x2 txF 87 79) = 3 by decide +kernel]; rfl)
  have eS : iS txF 87 79 fT9 fS9 = fS10 := (if_neg (by decide +kernel)).trans (if_neg (by decide +kernel))
  rw [rA_go (by decide) (by decide +kernel), e1, eT, eS]
theorem fst_10 : rA txF 87 90 84 fT10 fS10 = rA txF 87 89 87 fT11 fS11 := by
  have e1 : xN txF 87 84 = 87 := by decide +kernel
  have eT : iT txF 87 84 fT10 = fT11 := ((if_neg (by decide +kernel)).trans ((if_neg (by decide +kernel)).trans (if_neg (by decide +kernel)))).trans (by rw [show xV txF 87 (84 + 1) = 6 by decide +kernel]; rfl)
  have eS : iS txF 87 84 fT10 fS10 = fS11 := (if_neg (by decide +kernel)).trans (if_neg (by decide +kernel))
  rw [rA_go (by decide) (by decide +kernel), e1, eT, eS]
theorem fst_all : rA txF 87 100 0 fT0 fS0 = (-4, fT11, fS11) := by
  rw [fst_0, fst_1, fst_2, fst_3, fst_4, fst_5, fst_6, fst_7, fst_8, fst_9, fst_10]
  exact rA_end (by decide)
theorem txF_k {f : Nat → Int → Int} : kTx txF 87 (kFt f 87) := by
  refine ⟨⟨kFt_l, by decide, by decide⟩, fun j h0 h1 => ?_⟩
  have z := k_FTr j.toNat (by omega)
  exact ⟨if_pos ⟨rfl, h0, h1⟩, z⟩
/-- the class's references -/
def kgC (g : Nat → Int → Option Nat) : Nat → Int → Option Nat := k_u (k_u (k_u ((k_zr (k_u ((k_zr (k_u ((k_zr (k_u ((k_zr (k_u ((k_zr ((k_zr (k_u (k_u (k_u ((k_u (k_zr ((k_zr ((k_zr (k_u ((k_u ((k_u (k_zr ((k_zr ((k_u ((k_u (k_zr ((k_zr (k_u ((k_zr ((k_zr (k_u ((k_u ((k_u (k_zr ((k_zr ((k_u ((k_u (k_zr ((k_zr ((k_u ((k_u (k_zr ((k_zr ((k_u ((k_u (k_zr ((k_zr ((k_u ((k_u (k_zr ((k_zr ((k_u ((k_u (k_zr ((k_zr ((k_u ((k_u (k_zr ((k_zr ((k_u ((k_u (k_zr ((k_zr (k_u ((k_zr ((k_zr (k_u ((k_u (k_zr ((k_zr (k_u (k_u ((k_zr (k_u ((k_zr (k_u ((k_zr (k_u ((k_zr (k_u ((k_zr ((k_zr (k_u (k_u ((k_zr (k_u ((k_zr ((k_zr g 1)) 2)) 1 0 (some 2)) 3)) 1 1 (some 3)) 0 0 (some 1)) 4)) 5)) 4 0 (some 5)) 6)) 4 1 (some 6)) 7)) 4 2 (some 7)) 8)) 4 3 (some 8)) 9)) 4 4 (some 9)) 0 1 (some 4)) 10)) 11) 10 0 (some 11))) 0 2 (some 10)) 12)) 13)) 12 0 (some 13)) 14)) 15) 14 0 (some 15))) 13 0 (some 14))) 16)) 17) 16 0 (some 17))) 13 1 (some 16))) 18)) 19) 18 0 (some 19))) 13 2 (some 18))) 20)) 21) 20 0 (some 21))) 13 3 (some 20))) 22)) 23) 22 0 (some 23))) 13 4 (some 22))) 24)) 25) 24 0 (some 25))) 13 5 (some 24))) 26)) 27) 26 0 (some 27))) 13 6 (some 26))) 28)) 29) 28 0 (some 29))) 13 7 (some 28))) 0 3 (some 12)) 30)) 31)) 30 0 (some 31)) 32)) 33) 32 0 (some 33))) 31 0 (some 32))) 34)) 35) 34 0 (some 35))) 31 1 (some 34))) 0 4 (some 30)) 36)) 37)) 38) 37 0 (some 38))) 36 1 (some 37)) 36 0 (some 4)) 0 5 (some 36)) 39)) 40)) 39 1 (some 40)) 41)) 39 2 (some 41)) 42)) 39 3 (some 42)) 43)) 39 4 (some 43)) 44)) 39 5 (some 44)) 39 0 (some 4)) 0 6 (some 39)
theorem kgC_G {g : Nat → Int → Option Nat} : kG (kgC g) := by
  intro q hq
  simp only [kGL, List.mem_cons, List.not_mem_nil, or_false] at hq
  rcases hq with rfl | rfl | rfl | rfl | rfl | rfl | rfl | rfl | rfl | rfl | rfl | rfl | rfl | rfl | rfl | rfl | rfl | rfl | rfl | rfl | rfl | rfl | rfl | rfl | rfl | rfl | rfl | rfl | rfl | rfl | rfl | rfl | rfl | rfl | rfl | rfl <;> rfl
def kst0 (i : Int) : Nat := 14 + 2 * i.toNat
def kst1 (i : Int) : Nat := 32 + 2 * i.toNat
theorem kgC_P {g : Nat → Int → Option Nat} : kPile (kgC g) 13 8 kst0 := by
  intro i h0 h1
  rcases (show i = 0 ∨ i = 1 ∨ i = 2 ∨ i = 3 ∨ i = 4 ∨ i = 5 ∨ i = 6 ∨ i = 7 by omega) with rfl | rfl | rfl | rfl | rfl | rfl | rfl | rfl <;> exact ⟨rfl, by unfold kSA kst0; decide⟩
theorem kgC_K {g : Nat → Int → Option Nat} : kPile (kgC g) 31 2 kst1 := by
  intro i h0 h1
  rcases (show i = 0 ∨ i = 1 by omega) with rfl | rfl <;> exact ⟨rfl, by unfold kSA kst1; decide⟩
theorem c_init6 {E : kEnv} {g : Nat → Int → Option Nat} : kC E 5 44 585 M_X6_init [kA 0] (kMC.take 1, kO, g) (fun r h' => r = none ∧ ∃ f2, h' = (kMC ++ [], f2, kgC g) ∧ (RS fT11 fS11 f2 ∧ f2 1 2 = 0 ∧ f2 12 1 = 0 ∧ f2 30 1 = 0)) := by
  refine kC_of (by decide) (by simp [k_one]) (Nat.le_of_ble_eq_true rfl) ?_
  refine (show kW E 5 44 585 M_X6_init 0 [some (kA 0)] [] (kMC.take 1, kO, g) _ from ?_)
  refine kw_aload_n dX6_init_0 rfl ?_
  refine kw_objInit dX6_init_1 ml_X6_1 (by omega) (by decide) (by omega) ?_
  refine kw_aload_n dX6_init_4 rfl ?_
  refine kn_new dX6_init_5 km_X6_7 (a := 1) (mc2 := 43) (ms2 := 582) (m2 := kMC.take 2) rfl (by decide) (by decide) (by decide) rfl ?_
  refine kw_dup dX6_init_8 trivial ?_
  refine kn_callIN (M2 := M_X5_init) (As := []) (b := 1) (mc3 := 41) (ms3 := 378) dX6_init_9 (by decide +kernel) q_X5_init (by decide) rfl (Nat.le_of_ble_eq_true rfl) (c_init5) (by omega) (by decide) (by decide) ?_
  refine kv_putR (kz := 0) dX6_init_12 kp_X6_10 rfl rfl (by omega) (fun _ => rfl) rfl ?_
  refine kw_aload_n dX6_init_15 rfl ?_
  refine kn_new dX6_init_16 km_X6_16 (a := 4) (mc2 := 40) (ms2 := 368) (m2 := kMC.take 5) rfl (by decide) (by decide) (by decide) rfl ?_
  refine kw_dup dX6_init_19 trivial ?_
  refine kn_callIN (M2 := M_X2_init) (As := []) (b := 4) (mc3 := 35) (ms3 := 336) dX6_init_20 (by decide +kernel) q_X2_init (by decide) rfl (Nat.le_of_ble_eq_true rfl) (c_init2) (by omega) (by decide) (by decide) ?_
  refine kv_putR (kz := 1) dX6_init_23 kp_X6_19 rfl rfl (by omega) (fun _ => rfl) rfl ?_
  refine kw_aload_n dX6_init_26 rfl ?_
  refine kn_new dX6_init_27 km_X6_23 (a := 10) (mc2 := 34) (ms2 := 333) (m2 := kMC.take 11) rfl (by decide) (by decide) (by decide) rfl ?_
  refine kw_dup dX6_init_30 trivial ?_
  refine kn_callIN (M2 := M_X4_init) (As := []) (b := 10) (mc3 := 33) (ms3 := 313) dX6_init_31 (by decide +kernel) q_X4_init (by decide) rfl (Nat.le_of_ble_eq_true rfl) (c_init4 (m := kMC.take 11) (m2 := kMC.take 12) (g := (k_zr (k_u (k_u ((k_zr (k_u ((k_zr (k_u ((k_zr (k_u ((k_zr (k_u ((k_zr ((k_zr (k_u (k_u ((k_zr (k_u ((k_zr ((k_zr g 1)) 2)) 1 0 (some 2)) 3)) 1 1 (some 3)) 0 0 (some 1)) 4)) 5)) 4 0 (some 5)) 6)) 4 1 (some 6)) 7)) 4 2 (some 7)) 8)) 4 3 (some 8)) 9)) 4 4 (some 9)) 0 1 (some 4)) 10)) (a := 10) (L := 11) rfl rfl (by decide)) (by omega) (by decide) (by decide) ?_
  refine kv_putR (kz := 2) dX6_init_34 kp_X6_26 rfl rfl (by omega) (fun _ => rfl) rfl ?_
  refine kw_aload_n dX6_init_37 rfl ?_
  refine kn_new dX6_init_38 km_X6_30 (a := 12) (mc2 := 32) (ms2 := 311) (m2 := kMC.take 13) rfl (by decide) (by decide) (by decide) rfl ?_
  refine kw_dup dX6_init_41 trivial ?_
  refine kw_bipush dX6_init_42 (by decide) (by decide) ?_
  refine kn_callI (M2 := M_X3_init) (As := [kI (8)]) (b := 12) (mc3 := 15) (ms3 := 119) dX6_init_44 ml_X6_32 q_X3_init (by decide) rfl (Nat.le_of_ble_eq_true rfl) (c_init38) (by omega) (by decide) (by decide) ?_
  refine kv_putR (kz := 3) dX6_init_47 kp_X6_35 rfl rfl (by omega) (fun _ => rfl) rfl ?_
  refine kw_aload_n dX6_init_50 rfl ?_
  refine kn_new dX6_init_51 km_X6_30 (a := 30) (mc2 := 14) (ms2 := 117) (m2 := kMC.take 31) rfl (by decide) (by decide) (by decide) rfl ?_
  refine kw_dup dX6_init_54 trivial ?_
  refine kw_iconst dX6_init_55 ⟨by decide, by decide⟩ ?_
  refine kn_callI (M2 := M_X3_init) (As := [kI (2)]) (b := 30) (mc3 := 9) (ms3 := 69) dX6_init_56 ml_X6_32 q_X3_init (by decide) rfl (Nat.le_of_ble_eq_true rfl) (c_init32) (by omega) (by decide) (by decide) ?_
  refine kv_putR (kz := 4) dX6_init_59 kp_X6_39 rfl rfl (by omega) (fun _ => rfl) rfl ?_
  refine kw_aload_n dX6_init_62 rfl ?_
  refine kn_new dX6_init_63 km_X6_42 (a := 36) (mc2 := 8) (ms2 := 67) (m2 := kMC.take 37) rfl (by decide) (by decide) (by decide) rfl ?_
  refine kw_dup dX6_init_66 trivial ?_
  refine kw_aload_n dX6_init_67 rfl ?_
  refine kv_getR (b := 4) dX6_init_68 kf_X6_19 rfl rfl rfl (by rfl) ?_
  refine kn_callI (M2 := M_X0_init) (As := [kA (4)]) (b := 36) (mc3 := 6) (ms3 := 44) dX6_init_71 ml_X6_44 q_X0_init (by decide) rfl (Nat.le_of_ble_eq_true rfl) (c_init0) (by omega) (by decide) (by decide) ?_
  refine kv_putR (kz := 5) dX6_init_74 kp_X6_47 rfl rfl (by omega) (fun _ => rfl) rfl ?_
  refine kw_aload_n dX6_init_77 rfl ?_
  refine kn_new dX6_init_78 km_X6_51 (a := 39) (mc2 := 5) (ms2 := 37) (m2 := kMC.take 40) rfl (by decide) (by decide) (by decide) rfl ?_
  refine kw_dup dX6_init_81 trivial ?_
  refine kw_aload_n dX6_init_82 rfl ?_
  refine kv_getR (b := 4) dX6_init_83 kf_X6_19 rfl rfl rfl (by rfl) ?_
  refine kn_callI (M2 := M_X1_init) (As := [kA (4)]) (b := 39) (mc3 := 0) (ms3 := 0) dX6_init_86 ml_X6_53 q_X1_init (by decide) rfl (Nat.le_of_ble_eq_true rfl) (c_init1) (by omega) (by decide) (by decide) ?_
  refine kv_putR (kz := 6) dX6_init_89 kp_X6_54 rfl rfl (by omega) (fun _ => rfl) rfl ?_
  have hg : kG (kgC g) := kgC_G
  refine (show kW E 5 0 0 M_X6_init 92 [some (kA 0)] [] (kMC ++ [], kO, kgC g) _ from ?_)
  refine kw_aload_n dX6_init_92 rfl ?_
  refine kv_getR (b := 1) dX6_init_93 kf_X6_10 rfl rfl rfl (hg (0, 0, 1) (by decide)) ?_
  refine kw_ldcS rfl dX6_init_96 ?_
  refine kv_callV0 (M2 := M_X5_become) (As := [kA (1000003)]) dX6_init_98 ml_X6_60 q_X5_become rfl rfl rfl (Nat.le_of_ble_eq_true rfl) (c_tbecome hg) (by omega) ?_
  refine kw_aload_n dX6_init_101 rfl ?_
  refine kv_getR (b := 4) dX6_init_102 kf_X6_19 rfl rfl rfl (hg (0, 1, 4) (by decide)) ?_
  refine kw_aload_n dX6_init_105 rfl ?_
  refine kv_getR (b := 1) dX6_init_106 kf_X6_10 rfl rfl rfl (hg (0, 0, 1) (by decide)) ?_
  refine kw_aload_n dX6_init_109 rfl ?_
  refine kv_getR (b := 10) dX6_init_110 kf_X6_26 rfl rfl rfl (hg (0, 2, 10) (by decide)) ?_
  refine kv_callV0E (M2 := M_X2_read) (As := [kA (1), kA (10)]) dX6_init_113 ml_X6_64 q_X2_read rfl rfl rfl (Nat.le_of_ble_eq_true rfl) (c_read hg (txF_k (f := kO)) (F := 100) (T := fT0) (s := fS0) (by decide) bgT_p bgS_p bgT_v.1 bgT_v.2.1 bgT_v.2.2.1 bgT_v.2.2.2.1 bgT_v.2.2.2.2 fst_all) (by omega) (fun f9 h9 => ?_)
  refine kw_aload_n dX6_init_116 rfl ?_
  refine kv_getR (b := 1) dX6_init_117 kf_X6_10 rfl rfl rfl (hg (0, 0, 1) (by decide)) ?_
  refine kw_iconst dX6_init_120 ⟨by decide, by decide⟩ ?_
  refine kv_putI (kz := 2) dX6_init_121 kp_X6_68 rfl rfl (fun h => by cases h) rfl ?_
  refine kv_rvE dX6_init_124 rfl ⟨?_, k_u_self, ?_, ?_⟩
  · unfold RS RF
    simp only [k_u_off (show (4 : Nat) ≠ 1 by decide), k_u_off (show (5 : Nat) ≠ 1 by decide), k_u_off (show (6 : Nat) ≠ 1 by decide), k_u_off (show (7 : Nat) ≠ 1 by decide), k_u_off (show (8 : Nat) ≠ 1 by decide), k_u_off (show (9 : Nat) ≠ 1 by decide), k_u_off (show (10 : Nat) ≠ 1 by decide), k_u_off (show (11 : Nat) ≠ 1 by decide)]
    exact h9.1
  · rw [k_u_off (by decide), h9.2 12 (by decide), kFt_o (by decide)]; rfl
  · rw [k_u_off (by decide), h9.2 30 (by decide), kFt_o (by decide)]; rfl
