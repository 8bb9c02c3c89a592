/-! the model: a reading begins; items -/
/-- the row a with its first k naught -/
def kZ (f : Nat → Int → Int) (a : Nat) (k : Int) : Nat → Int → Int := fun b j => if b = a ∧ 0 ≤ j ∧ j < k then 0 else f b j
theorem kZ_0 {f : Nat → Int → Int} {a : Nat} : kZ f a 0 = f := by
  funext b j
  exact if_neg (by omega)
theorem kZ_s {f : Nat → Int → Int} {a : Nat} {k : Int} (h : 0 ≤ k) : k_u (kZ f a k) a k 0 = kZ f a (k + 1) := by
  funext b j
  unfold k_u kZ
  grind
theorem kZ_o {f : Nat → Int → Int} {a b : Nat} {k : Int} (h : b ≠ a) : kZ f a k b = f b := by
  funext j
  exact if_neg (fun z => h z.1)
def kB1 (f : Nat → Int → Int) : Nat → Int → Int := k_u (k_u (k_u (kZ f 48 37) 48 2 20) 48 3 3) 48 4 10
def kBg (f : Nat → Int → Int) : Nat → Int → Int := kZ (kB1 f) 49 29
def bgT (u : Int → Int) : Int → Int := upi (upi (upi (fun j => if 0 ≤ j ∧ j < 37 then 0 else u j) 2 20) 3 3) 4 10
def bgS (u : Int → Int) : Int → Int := fun j => if 0 ≤ j ∧ j < 29 then 0 else u j
theorem kBg_48 {f : Nat → Int → Int} : kBg f 48 = bgT (f 48) := by
  unfold kBg kB1 bgT
  rw [kZ_o (by decide), k_u_row, k_u_row, k_u_row]
  congr 3
  funext j
  simp [kZ]
theorem kBg_49 {f : Nat → Int → Int} : kBg f 49 = bgS (f 49) := by
  funext j
  simp [kBg, kB1, kZ, bgS, k_u]
theorem kBg_o {f : Nat → Int → Int} {a : Nat} (h : a ≠ 48 ∧ a ≠ 49) : kBg f a = f a := by
  unfold kBg kB1
  rw [kZ_o h.2, k_u_off h.1, k_u_off h.1, k_u_off h.1, kZ_o h.1]
theorem bgT_v {u : Int → Int} : bgT u 0 = 0 ∧ bgT u 1 = 0 ∧ bgT u 2 = 20 ∧ bgT u 3 = 3 ∧ bgT u 4 = 10 := by
  simp [bgT, upi]
theorem bgT_p {u : Int → Int} : mTp (bgT u) := by
  obtain ⟨a, b, c, d, e⟩ := bgT_v (u := u)
  refine ⟨by omega, by omega, by omega, by omega, by omega, fun b h0 h1 => by omega, fun i h0 h1 => by omega⟩
theorem bgS_p {u v : Int → Int} : mSp (bgT u) (bgS v) := by
  obtain ⟨a, b, c, d, e⟩ := bgT_v (u := u)
  refine ⟨fun j h0 h1 => if_pos (by omega), fun j h0 h1 => if_pos (by omega), fun b h0 h1 => by omega, fun i h0 h1 => by omega⟩
def iB (T : Int → Int) (k h w : Int) : Int → Int := upi (upi (upi (upi T (5 + T 0) k) (13 + T 0) h) (21 + T 0) w) 0 (T 0 + 1)
def iN (T : Int → Int) (c e : Int) : Int → Int := upi (upi (upi T (29 + T 1) c) (33 + T 1) e) 1 (T 1 + 1)
def kBo (f : Nat → Int → Int) (k h w d : Int) : Nat → Int → Int := k_u (k_u (k_u (k_u (k_u f 48 (5 + f 48 0) k) 48 (13 + f 48 0) h) 48 (21 + f 48 0) w) 49 (f 48 0) d) 48 0 (f 48 0 + 1)
def kTn (f : Nat → Int → Int) (r c e : Int) : Nat → Int → Int := k_u (k_u (k_u (k_u f 48 (29 + f 48 1) c) 48 (33 + f 48 1) e) 49 (16 + f 48 1) r) 48 1 (f 48 1 + 1)
theorem kBo_48 {f : Nat → Int → Int} {k h w d : Int} : kBo f k h w d 48 = iB (f 48) k h w := by
  unfold kBo iB
  rw [k_u_row, k_u_off (by decide), k_u_row, k_u_row, k_u_row]
theorem kBo_49 {f : Nat → Int → Int} {k h w d : Int} : kBo f k h w d 49 = upi (f 49) (f 48 0) d := by
  unfold kBo
  rw [k_u_off (by decide), k_u_row, k_u_off (by decide), k_u_off (by decide), k_u_off (by decide)]
theorem kBo_o {f : Nat → Int → Int} {k h w d : Int} {a : Nat} (ha : a ≠ 48 ∧ a ≠ 49) : kBo f k h w d a = f a := by
  unfold kBo
  rw [k_u_off ha.1, k_u_off ha.2, k_u_off ha.1, k_u_off ha.1, k_u_off ha.1]
theorem kTn_48 {f : Nat → Int → Int} {r c e : Int} : kTn f r c e 48 = iN (f 48) c e := by
  unfold kTn iN
  rw [k_u_row, k_u_off (by decide), k_u_row, k_u_row]
theorem kTn_49 {f : Nat → Int → Int} {r c e : Int} : kTn f r c e 49 = upi (f 49) (16 + f 48 1) r := by
  unfold kTn
  rw [k_u_off (by decide), k_u_row, k_u_off (by decide), k_u_off (by decide)]
theorem kTn_o {f : Nat → Int → Int} {r c e : Int} {a : Nat} (ha : a ≠ 48 ∧ a ≠ 49) : kTn f r c e a = f a := by
  unfold kTn
  rw [k_u_off ha.1, k_u_off ha.2, k_u_off ha.1, k_u_off ha.1]
theorem l_bg1 {E : kEnv} {f : Nat → Int → Int} {s : Int → Int} {g : Nat → Int → Option Nat} {d : Nat} {Q : Option kV → kH → Prop} (hm : kGM g) (hx : kW E d 0 0 M_X7_begins 21 [some (kA 45), some (kI 37)] [] ((kMC ++ kMM), kst (kZ f 48 37) 50 s, g) Q) : ∀ (n : Nat) (k : Int), (0 ≤ k ∧ k ≤ 37) → (37 - k).toNat < n → kW E d 0 0 M_X7_begins 2 [some (kA 45), some (kI k)] [] ((kMC ++ kMM), kst (kZ f 48 k) 50 s, g) Q := by
  intro n
  induction n with
  | zero => intro k _ q; omega
  | succ n ih =>
    intro k y0 y1
    refine kw_iload_n dX7_begins_2 rfl ?_
    refine kw_bipush dX7_begins_3 (by decide) (by decide) ?_
    refine kw_icmp_ge (tgt := 21) dX7_begins_5 (by decide) (fun h1 => ?_) (fun h1 => ?_)
    · have e1 : k = 37 := by omega
      subst e1
      exact hx
    · refine kw_aload_n dX7_begins_8 rfl ?_
      refine kv_getR (b := 48) dX7_begins_9 kf_X7_16 rfl rfl rfl (hm (45, 3, 48) (by decide)) ?_
      refine kw_iload_n dX7_begins_12 rfl ?_
      refine kw_iconst dX7_begins_13 ⟨by decide, by decide⟩ ?_
      refine kv_iast dX7_begins_14 rfl (by omega) (by omega) ?_
      rw [kst_uc (by decide)]
      refine kw_iinc dX7_begins_15 (by decide) rfl ⟨by omega, by omega⟩ trivial (L2 := [some (kA (45)), some (kI (k + 1))]) rfl ?_
      refine kw_goto (tgt := 2) dX7_begins_18 (by decide) ?_
      rw [kZ_s y0.1]
      exact ih (k + 1) ⟨by omega, by omega⟩ (by omega)
theorem l_bg2 {E : kEnv} {f : Nat → Int → Int} {s : Int → Int} {g : Nat → Int → Option Nat} {d : Nat} {Q : Option kV → kH → Prop} (hm : kGM g) (hx : kW E d 0 0 M_X7_begins 65 [some (kA 45), some (kI 29)] [] ((kMC ++ kMM), kst (kZ f 49 29) 50 s, g) Q) : ∀ (n : Nat) (k : Int), (0 ≤ k ∧ k ≤ 29) → (29 - k).toNat < n → kW E d 0 0 M_X7_begins 46 [some (kA 45), some (kI k)] [] ((kMC ++ kMM), kst (kZ f 49 k) 50 s, g) Q := by
  intro n
  induction n with
  | zero => intro k _ q; omega
  | succ n ih =>
    intro k y0 y1
    refine kw_iload_n dX7_begins_46 rfl ?_
    refine kw_bipush dX7_begins_47 (by decide) (by decide) ?_
    refine kw_icmp_ge (tgt := 65) dX7_begins_49 (by decide) (fun h1 => ?_) (fun h1 => ?_)
    · have e1 : k = 29 := by omega
      subst e1
      exact hx
    · refine kw_aload_n dX7_begins_52 rfl ?_
      refine kv_getR (b := 49) dX7_begins_53 kf_X7_19 rfl rfl rfl (hm (45, 4, 49) (by decide)) ?_
      refine kw_iload_n dX7_begins_56 rfl ?_
      refine kw_iconst dX7_begins_57 ⟨by decide, by decide⟩ ?_
      refine kv_iast dX7_begins_58 rfl (by omega) (by omega) ?_
      rw [kst_uc (by decide)]
      refine kw_iinc dX7_begins_59 (by decide) rfl ⟨by omega, by omega⟩ trivial (L2 := [some (kA (45)), some (kI (k + 1))]) rfl ?_
      refine kw_goto (tgt := 46) dX7_begins_62 (by decide) ?_
      rw [kZ_s y0.1]
      exact ih (k + 1) ⟨by omega, by omega⟩ (by omega)
theorem c_mbegins {E : kEnv} {f : Nat → Int → Int} {s : Int → Int} {g : Nat → Int → Option Nat}  (hm : kGM g)  : kF E 0 M_X7_begins [kA (45)] ((kMC ++ kMM), kst f 50 s, g) (none) ((kMC ++ kMM), kst (kBg f) 50 s, g) := by
  refine kF_of (by decide) (by simp [k_one]) (Nat.le_of_ble_eq_true rfl) (L := [some (kA (45)), none]) rfl ?_
  refine kw_iconst dX7_begins_0 ⟨by decide, by decide⟩ ?_
  refine kw_istore_n dX7_begins_1 (by decide) trivial (L2 := [some (kA (45)), some (kI (0))]) rfl ?_
  have h := l_bg1 (E := E) (f := f) (s := s) (d := 0) hm (Q := (fun r h' => r = none ∧ h' = ((kMC ++ kMM), kst (kBg f) 50 s, g))) ?_ _ 0 ⟨by omega, by omega⟩ (Nat.lt_succ_self _)
  · rw [kZ_0] at h
    exact h
  refine kw_aload_n dX7_begins_21 rfl ?_
  refine kv_getR (b := 48) dX7_begins_22 kf_X7_16 rfl rfl rfl (hm (45, 3, 48) (by decide)) ?_
  refine kw_iconst dX7_begins_25 ⟨by decide, by decide⟩ ?_
  refine kw_bipush dX7_begins_26 (by decide) (by decide) ?_
  refine kv_iast dX7_begins_28 rfl (by omega) (by omega) ?_
  rw [kst_uc (by decide)]
  refine kw_aload_n dX7_begins_29 rfl ?_
  refine kv_getR (b := 48) dX7_begins_30 kf_X7_16 rfl rfl rfl (hm (45, 3, 48) (by decide)) ?_
  refine kw_iconst dX7_begins_33 ⟨by decide, by decide⟩ ?_
  refine kw_iconst dX7_begins_34 ⟨by decide, by decide⟩ ?_
  refine kv_iast dX7_begins_35 rfl (by omega) (by omega) ?_
  rw [kst_uc (by decide)]
  refine kw_aload_n dX7_begins_36 rfl ?_
  refine kv_getR (b := 48) dX7_begins_37 kf_X7_16 rfl rfl rfl (hm (45, 3, 48) (by decide)) ?_
  refine kw_iconst dX7_begins_40 ⟨by decide, by decide⟩ ?_
  refine kw_bipush dX7_begins_41 (by decide) (by decide) ?_
  refine kv_iast dX7_begins_43 rfl (by omega) (by omega) ?_
  rw [kst_uc (by decide)]
  refine kw_iconst dX7_begins_44 ⟨by decide, by decide⟩ ?_
  refine kw_istore_n dX7_begins_45 (by decide) trivial (L2 := [some (kA (45)), some (kI (0))]) rfl ?_
  rw [show k_u (k_u (k_u (kZ f 48 37) 48 2 20) 48 3 3) 48 4 10 = kB1 f from rfl]
  have h := l_bg2 (E := E) (f := kB1 f) (s := s) (d := 0) hm (Q := (fun r h' => r = none ∧ h' = ((kMC ++ kMM), kst (kBg f) 50 s, g))) ?_ _ 0 ⟨by omega, by omega⟩ (Nat.lt_succ_self _)
  · rw [kZ_0] at h
    exact h
  exact kv_rv dX7_begins_65 rfl rfl
theorem c_mbo {E : kEnv} {f : Nat → Int → Int} {s : Int → Int} {g : Nat → Int → Option Nat} {k h w d : Int} (hm : kGM g) (hb : 0 ≤ f 48 0 ∧ f 48 0 < 8) : kF E 0 M_X7_boughOf [kA (45), kI (k), kI (h), kI (w), kI (d)] ((kMC ++ kMM), kst f 50 s, g) (none) ((kMC ++ kMM), kst (kBo f k h w d) 50 s, g) := by
  refine kF_of (by decide) (by simp [k_one]) (Nat.le_of_ble_eq_true rfl) (L := [some (kA (45)), some (kI (k)), some (kI (h)), some (kI (w)), some (kI (d)), none]) rfl ?_
  refine kw_aload_n dX7_boughOf_0 rfl ?_
  refine kv_getR (b := 48) dX7_boughOf_1 kf_X7_16 rfl rfl rfl (hm (45, 3, 48) (by decide)) ?_
  refine kw_iconst dX7_boughOf_4 ⟨by decide, by decide⟩ ?_
  refine kv_iald dX7_boughOf_5 rfl (by omega) (by omega) (congrFun (kst_ne (by decide)) _) ?_
  refine kw_istore dX7_boughOf_6 (by decide) trivial (L2 := [some (kA (45)), some (kI (k)), some (kI (h)), some (kI (w)), some (kI (d)), some (kI (f 48 0))]) rfl ?_
  refine kw_aload_n dX7_boughOf_8 rfl ?_
  refine kv_getR (b := 48) dX7_boughOf_9 kf_X7_16 rfl rfl rfl (hm (45, 3, 48) (by decide)) ?_
  refine kw_iconst dX7_boughOf_12 ⟨by decide, by decide⟩ ?_
  refine kw_iload dX7_boughOf_13 rfl ?_
  refine kw_iadd dX7_boughOf_15 ⟨by omega, by omega⟩ ?_
  refine kw_iload_n dX7_boughOf_16 rfl ?_
  refine kv_iast dX7_boughOf_17 rfl (by omega) (by omega) ?_
  rw [kst_uc (by decide)]
  refine kw_aload_n dX7_boughOf_18 rfl ?_
  refine kv_getR (b := 48) dX7_boughOf_19 kf_X7_16 rfl rfl rfl (hm (45, 3, 48) (by decide)) ?_
  refine kw_bipush dX7_boughOf_22 (by decide) (by decide) ?_
  refine kw_iload dX7_boughOf_24 rfl ?_
  refine kw_iadd dX7_boughOf_26 ⟨by omega, by omega⟩ ?_
  refine kw_iload_n dX7_boughOf_27 rfl ?_
  refine kv_iast dX7_boughOf_28 rfl (by omega) (by omega) ?_
  rw [kst_uc (by decide)]
  refine kw_aload_n dX7_boughOf_29 rfl ?_
  refine kv_getR (b := 48) dX7_boughOf_30 kf_X7_16 rfl rfl rfl (hm (45, 3, 48) (by decide)) ?_
  refine kw_bipush dX7_boughOf_33 (by decide) (by decide) ?_
  refine kw_iload dX7_boughOf_35 rfl ?_
  refine kw_iadd dX7_boughOf_37 ⟨by omega, by omega⟩ ?_
  refine kw_iload_n dX7_boughOf_38 rfl ?_
  refine kv_iast dX7_boughOf_39 rfl (by omega) (by omega) ?_
  rw [kst_uc (by decide)]
  refine kw_aload_n dX7_boughOf_40 rfl ?_
  refine kv_getR (b := 49) dX7_boughOf_41 kf_X7_19 rfl rfl rfl (hm (45, 4, 49) (by decide)) ?_
  refine kw_iload dX7_boughOf_44 rfl ?_
  refine kw_iload dX7_boughOf_46 rfl ?_
  refine kv_iast dX7_boughOf_48 rfl (by omega) (by omega) ?_
  rw [kst_uc (by decide)]
  refine kw_aload_n dX7_boughOf_49 rfl ?_
  refine kv_getR (b := 48) dX7_boughOf_50 kf_X7_16 rfl rfl rfl (hm (45, 3, 48) (by decide)) ?_
  refine kw_iconst dX7_boughOf_53 ⟨by decide, by decide⟩ ?_
  refine kw_dup2 dX7_boughOf_54 trivial trivial ?_
  refine kv_iald dX7_boughOf_55 rfl (by omega) (by omega) ((congrFun (kst_ne (by decide)) _).trans ((k_u_ne (by omega)).trans ((k_u_ne2 (by omega)).trans ((k_u_ne2 (by omega)).trans (k_u_ne2 (by omega)))))) ?_
  refine kw_iconst dX7_boughOf_56 ⟨by decide, by decide⟩ ?_
  refine kw_iadd dX7_boughOf_57 ⟨by omega, by omega⟩ ?_
  refine kv_iast dX7_boughOf_58 rfl (by omega) (by omega) ?_
  rw [kst_uc (by decide)]
  exact kv_rv dX7_boughOf_59 rfl rfl
theorem c_mtn {E : kEnv} {f : Nat → Int → Int} {s : Int → Int} {g : Nat → Int → Option Nat} {r c e : Int} (hm : kGM g) (hb : 0 ≤ f 48 1 ∧ f 48 1 < 4) : kF E 0 M_X7_tenantOf [kA (45), kI (r), kI (c), kI (e)] ((kMC ++ kMM), kst f 50 s, g) (none) ((kMC ++ kMM), kst (kTn f r c e) 50 s, g) := by
  refine kF_of (by decide) (by simp [k_one]) (Nat.le_of_ble_eq_true rfl) (L := [some (kA (45)), some (kI (r)), some (kI (c)), some (kI (e)), none]) rfl ?_
  refine kw_aload_n dX7_tenantOf_0 rfl ?_
  refine kv_getR (b := 48) dX7_tenantOf_1 kf_X7_16 rfl rfl rfl (hm (45, 3, 48) (by decide)) ?_
  refine kw_iconst dX7_tenantOf_4 ⟨by decide, by decide⟩ ?_
  refine kv_iald dX7_tenantOf_5 rfl (by omega) (by omega) (congrFun (kst_ne (by decide)) _) ?_
  refine kw_istore dX7_tenantOf_6 (by decide) trivial (L2 := [some (kA (45)), some (kI (r)), some (kI (c)), some (kI (e)), some (kI (f 48 1))]) rfl ?_
  refine kw_aload_n dX7_tenantOf_8 rfl ?_
  refine kv_getR (b := 48) dX7_tenantOf_9 kf_X7_16 rfl rfl rfl (hm (45, 3, 48) (by decide)) ?_
  refine kw_bipush dX7_tenantOf_12 (by decide) (by decide) ?_
  refine kw_iload dX7_tenantOf_14 rfl ?_
  refine kw_iadd dX7_tenantOf_16 ⟨by omega, by omega⟩ ?_
  refine kw_iload_n dX7_tenantOf_17 rfl ?_
  refine kv_iast dX7_tenantOf_18 rfl (by omega) (by omega) ?_
  rw [kst_uc (by decide)]
  refine kw_aload_n dX7_tenantOf_19 rfl ?_
  refine kv_getR (b := 48) dX7_tenantOf_20 kf_X7_16 rfl rfl rfl (hm (45, 3, 48) (by decide)) ?_
  refine kw_bipush dX7_tenantOf_23 (by decide) (by decide) ?_
  refine kw_iload dX7_tenantOf_25 rfl ?_
  refine kw_iadd dX7_tenantOf_27 ⟨by omega, by omega⟩ ?_
  refine kw_iload_n dX7_tenantOf_28 rfl ?_
  refine kv_iast dX7_tenantOf_29 rfl (by omega) (by omega) ?_
  rw [kst_uc (by decide)]
  refine kw_aload_n dX7_tenantOf_30 rfl ?_
  refine kv_getR (b := 49) dX7_tenantOf_31 kf_X7_19 rfl rfl rfl (hm (45, 4, 49) (by decide)) ?_
  refine kw_bipush dX7_tenantOf_34 (by decide) (by decide) ?_
  refine kw_iload dX7_tenantOf_36 rfl ?_
  refine kw_iadd dX7_tenantOf_38 ⟨by omega, by omega⟩ ?_
  refine kw_iload_n dX7_tenantOf_39 rfl ?_
  refine kv_iast dX7_tenantOf_40 rfl (by omega) (by omega) ?_
  rw [kst_uc (by decide)]
  refine kw_aload_n dX7_tenantOf_41 rfl ?_
  refine kv_getR (b := 48) dX7_tenantOf_42 kf_X7_16 rfl rfl rfl (hm (45, 3, 48) (by decide)) ?_
  refine kw_iconst dX7_tenantOf_45 ⟨by decide, by decide⟩ ?_
  refine kw_dup2 dX7_tenantOf_46 trivial trivial ?_
  refine kv_iald dX7_tenantOf_47 rfl (by omega) (by omega) ((congrFun (kst_ne (by decide)) _).trans ((k_u_ne (by omega)).trans ((k_u_ne2 (by omega)).trans (k_u_ne2 (by omega))))) ?_
  refine kw_iconst dX7_tenantOf_48 ⟨by decide, by decide⟩ ?_
  refine kw_iadd dX7_tenantOf_49 ⟨by omega, by omega⟩ ?_
  refine kv_iast dX7_tenantOf_50 rfl (by omega) (by omega) ?_
  rw [kst_uc (by decide)]
  exact kv_rv dX7_tenantOf_51 rfl rfl
/-- other cells than those of a reading are the same -/
def mKq (f f2 : Nat → Int → Int) : Prop := (∀ a : Nat, a ≠ 45 → a ≠ 48 → a ≠ 49 → f2 a = f a) ∧ ∀ j, j ≠ 10 → f2 45 j = f 45 j
theorem mKq_rf {f : Nat → Int → Int} : mKq f f := ⟨fun _ _ _ _ => rfl, fun _ _ => rfl⟩
theorem mKq_tr {f f2 f3 : Nat → Int → Int} (h : mKq f f2) (h2 : mKq f2 f3) : mKq f f3 := ⟨fun a x y z => (h2.1 a x y z).trans (h.1 a x y z), fun j x => (h2.2 j x).trans (h.2 j x)⟩
theorem mKq_a {f f2 : Nat → Int → Int} {v : Int} (h : mKq f f2) : mKq f (k_u f2 45 10 v) := mKq_tr h ⟨fun a x _ _ => k_u_off x, fun j x => k_u_ne2 x⟩
theorem mKq_8 {f f2 : Nat → Int → Int} {i v : Int} (h : mKq f f2) : mKq f (k_u f2 48 i v) := mKq_tr h ⟨fun a _ x _ => k_u_off x, fun j x => k_u_ne (by decide)⟩
theorem mKq_bo {f f2 : Nat → Int → Int} {k w v d : Int} (h : mKq f f2) : mKq f (kBo f2 k w v d) := mKq_tr h ⟨fun a _ x y => kBo_o ⟨x, y⟩, fun j x => congrFun (kBo_o (by decide)) j⟩
theorem mKq_tn {f f2 : Nat → Int → Int} {k w v : Int} (h : mKq f f2) : mKq f (kTn f2 k w v) := mKq_tr h ⟨fun a _ x y => kTn_o ⟨x, y⟩, fun j x => congrFun (kTn_o (by decide)) j⟩
theorem kTm_q {tx : Int → Int} {n : Int} {f f2 : Nat → Int → Int} (h : kTm tx n f) (h2 : mKq f f2) : kTm tx n f2 := kTm_eq h (h2.2 1 (by decide)) (h2.1 46 (by decide) (by decide) (by decide))
def mR (tx : Int → Int) (n p : Int) (f f2 : Nat → Int → Int) : Prop := mKq f f2 ∧ (xG tx n p (f 48) = true → f2 48 = iT tx n p (f 48) ∧ f2 49 = iS tx n p (f 48) (f 49) ∧ f2 45 10 = xN tx n p)
theorem mR_no {tx : Int → Int} {n p : Int} {f f2 : Nat → Int → Int} (h : mKq f f2) (h2 : xG tx n p (f 48) = false) : mR tx n p f f2 := ⟨h, fun z => by rw [h2] at z; cases z⟩
theorem xG_no {tx : Int → Int} {n p : Int} {T : Int → Int} (h : xI tx n p = false) : xG tx n p T = false := by
  cases q : xG tx n p T
  · rfl
  · have := (xG_i.mp q).1
    rw [h] at this
    cases this
theorem c_mi_b {E : kEnv} {f : Nat → Int → Int} {s : Int → Int} {g : Nat → Int → Option Nat} {tx : Int → Int} {n : Int} {p : Int} (hm : kGM g) (hx : kTm tx n f) (hp : 0 ≤ p ∧ p < n) (hc : tx p = 98) (h10 : f 45 10 = p + 1) (hT : mTp (f 48)) : kFE E 3 M_X7_readsItem [kA 45, kI 98] ((kMC ++ kMM), kst f 50 s, g) (some (kI (if xG tx n p (f 48) = true then 1 else 0))) (kMC ++ kMM) (fun F => ∃ f2, F = kst f2 50 s ∧ mR tx n p f f2) g := by
  refine kFE_of (by decide) (by simp [k_one]) (Nat.le_of_ble_eq_true rfl) (L := [some (kA (45)), some (kI (98)), none, none, none, none]) rfl ?_
  have hn := hx.1
  have t0 := hT.1
  have t1 := hT.2.1
  have lp : xL tx n p = tx p := if_pos hp.2
  have g0 := xE_gt (tx := tx) (n := n) (p := (p + 1))
  have g1 := xE_gt (tx := tx) (n := n) (p := (xE tx n (p + 1)))
  have g2 := xE_gt (tx := tx) (n := n) (p := (xE tx n (xE tx n (p + 1))))
  have g3 := xE_gt (tx := tx) (n := n) (p := (xE tx n (xE tx n (xE tx n (p + 1)))))
  have y2 : x2 tx n p = xE tx n (p + 1) := rfl
  have y3 : x3 tx n p = xE tx n (xE tx n (p + 1)) := rfl
  have y4 : x4 tx n p = xE tx n (xE tx n (xE tx n (p + 1))) := rfl
  have hcc : xL tx n p = 98 := by rw [lp, hc]
  have ei : xI tx n p = (xO tx n 0 3 44 (p + 1) && xO tx n 1 20 44 (x2 tx n p) && xO tx n 1 20 44 (x3 tx n p) && xO tx n 0 60 59 (x4 tx n p)) := if_pos hcc
  have en : xN tx n p = xE tx n (x4 tx n p) := if_pos hcc
  rw [show kst f 50 s = kst (k_u f 45 10 (p + 1)) 50 s by rw [k_u_same h10]]
  cases z0 : xO tx n 0 3 44 (p + 1)
  · have hG : xG tx n p (f 48) = false := xG_no (by rw [ei, z0]; simp)
    refine kw_iload_n dX7_readsItem_0 rfl ?_
    refine kw_look (off := 43) (tgt := 44) dX7_readsItem_1 (by decide) rfl (by decide) ?_
    refine kw_aload_n dX7_readsItem_44 rfl ?_
    refine kw_iconst dX7_readsItem_45 ⟨by decide, by decide⟩ ?_
    refine kw_iconst dX7_readsItem_46 ⟨by decide, by decide⟩ ?_
    refine kw_bipush dX7_readsItem_47 (by decide) (by decide) ?_
    refine kv_callV1 (M2 := M_X7_number) (As := [kI (0), kI (3), kI (44)]) dX7_readsItem_49 ml_X7_73 q_X7_number rfl rfl rfl (Nat.le_of_ble_eq_true rfl) (show kF E 2 M_X7_number [kA 45, kI 0, kI 3, kI 44] ((kMC ++ kMM), kst (k_u f 45 10 (p + 1)) 50 s, g) (some (kI (-1))) ((kMC ++ kMM), kst (k_u f 45 10 (xA tx n (p + 1))) 50 s, g) from c_mnum_f hm hx (by omega) z0) (by omega) ?_
    refine kw_istore_n dX7_readsItem_52 (by decide) trivial (L2 := [some (kA (45)), some (kI (98)), some (kI (-1)), none, none, none]) rfl ?_
    refine kw_iload_n dX7_readsItem_53 rfl ?_
    refine kw_if_ge (tgt := 61) dX7_readsItem_54 (by decide) (kt := fun h => absurd h (by decide)) (kf := fun _ => ?_)
    refine kw_iconst dX7_readsItem_57 ⟨by decide, by decide⟩ ?_
    refine kw_goto (tgt := 70) dX7_readsItem_58 (by decide) ?_
    refine kw_istore_n dX7_readsItem_70 (by decide) trivial (L2 := [some (kA (45)), some (kI (98)), some (kI (-1)), some (kI (-1)), none, none]) rfl ?_
    refine kw_iload_n dX7_readsItem_71 rfl ?_
    refine kw_if_ge (tgt := 79) dX7_readsItem_72 (by decide) (kt := fun h => absurd h (by decide)) (kf := fun _ => ?_)
    refine kw_iconst dX7_readsItem_75 ⟨by decide, by decide⟩ ?_
    refine kw_goto (tgt := 88) dX7_readsItem_76 (by decide) ?_
    refine kw_istore dX7_readsItem_88 (by decide) trivial (L2 := [some (kA (45)), some (kI (98)), some (kI (-1)), some (kI (-1)), some (kI (-1)), none]) rfl ?_
    refine kw_iload dX7_readsItem_90 rfl ?_
    refine kw_if_ge (tgt := 99) dX7_readsItem_92 (by decide) (kt := fun h => absurd h (by decide)) (kf := fun _ => ?_)
    refine kw_iconst dX7_readsItem_95 ⟨by decide, by decide⟩ ?_
    refine kw_goto (tgt := 108) dX7_readsItem_96 (by decide) ?_
    refine kw_istore dX7_readsItem_108 (by decide) trivial (L2 := [some (kA (45)), some (kI (98)), some (kI (-1)), some (kI (-1)), some (kI (-1)), some (kI (-1))]) rfl ?_
    refine kw_iload dX7_readsItem_110 rfl ?_
    refine kw_if_lt (tgt := 126) dX7_readsItem_112 (by decide) (kf := fun h => absurd (by decide) h) (kt := fun _ => ?_)
    refine kw_iconst dX7_readsItem_126 ⟨by decide, by decide⟩ ?_
    exact kv_rbE dX7_readsItem_127 rfl (if_neg (by rw [hG]; decide)).symm ⟨_, rfl, mR_no (mKq_a mKq_rf) hG⟩
  · have hI : True := trivial
    cases z1 : xO tx n 1 20 44 (x2 tx n p)
    · have hG : xG tx n p (f 48) = false := xG_no (by rw [ei, z0, z1]; simp)
      refine kw_iload_n dX7_readsItem_0 rfl ?_
      refine kw_look (off := 43) (tgt := 44) dX7_readsItem_1 (by decide) rfl (by decide) ?_
      refine kw_aload_n dX7_readsItem_44 rfl ?_
      refine kw_iconst dX7_readsItem_45 ⟨by decide, by decide⟩ ?_
      refine kw_iconst dX7_readsItem_46 ⟨by decide, by decide⟩ ?_
      refine kw_bipush dX7_readsItem_47 (by decide) (by decide) ?_
      refine kv_callV1 (M2 := M_X7_number) (As := [kI (0), kI (3), kI (44)]) dX7_readsItem_49 ml_X7_73 q_X7_number rfl rfl rfl (Nat.le_of_ble_eq_true rfl) (show kF E 2 M_X7_number [kA 45, kI 0, kI 3, kI 44] ((kMC ++ kMM), kst (k_u f 45 10 (p + 1)) 50 s, g) (some (kI (xV tx n (p + 1)))) ((kMC ++ kMM), kst (k_u f 45 10 (x2 tx n p)) 50 s, g) from c_mnum_t hm hx (by omega) z0) (by omega) ?_
      have w0 := xV_rng (xO_i.mp z0).1
      have u0 := (xO_i.mp z0).2.2
      refine kw_istore_n dX7_readsItem_52 (by decide) trivial (L2 := [some (kA (45)), some (kI (98)), some (kI (xV tx n (p + 1))), none, none, none]) rfl ?_
      refine kw_iload_n dX7_readsItem_53 rfl ?_
      refine kw_if_ge (tgt := 61) dX7_readsItem_54 (by decide) (kf := fun h1 => absurd h1 (by omega)) (kt := fun h1 => ?_)
      refine kw_aload_n dX7_readsItem_61 rfl ?_
      refine kw_iconst dX7_readsItem_62 ⟨by decide, by decide⟩ ?_
      refine kw_bipush dX7_readsItem_63 (by decide) (by decide) ?_
      refine kw_bipush dX7_readsItem_65 (by decide) (by decide) ?_
      refine kv_callV1 (M2 := M_X7_number) (As := [kI (1), kI (20), kI (44)]) dX7_readsItem_67 ml_X7_73 q_X7_number rfl rfl rfl (Nat.le_of_ble_eq_true rfl) (show kF E 2 M_X7_number [kA 45, kI 1, kI 20, kI 44] ((kMC ++ kMM), kst (k_u f 45 10 (x2 tx n p)) 50 s, g) (some (kI (-1))) ((kMC ++ kMM), kst (k_u f 45 10 (xA tx n (x2 tx n p))) 50 s, g) from c_mnum_f hm hx (by omega) z1) (by omega) ?_
      refine kw_istore_n dX7_readsItem_70 (by decide) trivial (L2 := [some (kA (45)), some (kI (98)), some (kI (xV tx n (p + 1))), some (kI (-1)), none, none]) rfl ?_
      refine kw_iload_n dX7_readsItem_71 rfl ?_
      refine kw_if_ge (tgt := 79) dX7_readsItem_72 (by decide) (kt := fun h => absurd h (by decide)) (kf := fun _ => ?_)
      refine kw_iconst dX7_readsItem_75 ⟨by decide, by decide⟩ ?_
      refine kw_goto (tgt := 88) dX7_readsItem_76 (by decide) ?_
      refine kw_istore dX7_readsItem_88 (by decide) trivial (L2 := [some (kA (45)), some (kI (98)), some (kI (xV tx n (p + 1))), some (kI (-1)), some (kI (-1)), none]) rfl ?_
      refine kw_iload dX7_readsItem_90 rfl ?_
      refine kw_if_ge (tgt := 99) dX7_readsItem_92 (by decide) (kt := fun h => absurd h (by decide)) (kf := fun _ => ?_)
      refine kw_iconst dX7_readsItem_95 ⟨by decide, by decide⟩ ?_
      refine kw_goto (tgt := 108) dX7_readsItem_96 (by decide) ?_
      refine kw_istore dX7_readsItem_108 (by decide) trivial (L2 := [some (kA (45)), some (kI (98)), some (kI (xV tx n (p + 1))), some (kI (-1)), some (kI (-1)), some (kI (-1))]) rfl ?_
      refine kw_iload dX7_readsItem_110 rfl ?_
      refine kw_if_lt (tgt := 126) dX7_readsItem_112 (by decide) (kf := fun h => absurd (by decide) h) (kt := fun _ => ?_)
      refine kw_iconst dX7_readsItem_126 ⟨by decide, by decide⟩ ?_
      exact kv_rbE dX7_readsItem_127 rfl (if_neg (by rw [hG]; decide)).symm ⟨_, rfl, mR_no (mKq_a mKq_rf) hG⟩
    · have hI : True := trivial
      cases z2 : xO tx n 1 20 44 (x3 tx n p)
      · have hG : xG tx n p (f 48) = false := xG_no (by rw [ei, z0, z1, z2]; simp)
        refine kw_iload_n dX7_readsItem_0 rfl ?_
        refine kw_look (off := 43) (tgt := 44) dX7_readsItem_1 (by decide) rfl (by decide) ?_
        refine kw_aload_n dX7_readsItem_44 rfl ?_
        refine kw_iconst dX7_readsItem_45 ⟨by decide, by decide⟩ ?_
        refine kw_iconst dX7_readsItem_46 ⟨by decide, by decide⟩ ?_
        refine kw_bipush dX7_readsItem_47 (by decide) (by decide) ?_
        refine kv_callV1 (M2 := M_X7_number) (As := [kI (0), kI (3), kI (44)]) dX7_readsItem_49 ml_X7_73 q_X7_number rfl rfl rfl (Nat.le_of_ble_eq_true rfl) (show kF E 2 M_X7_number [kA 45, kI 0, kI 3, kI 44] ((kMC ++ kMM), kst (k_u f 45 10 (p + 1)) 50 s, g) (some (kI (xV tx n (p + 1)))) ((kMC ++ kMM), kst (k_u f 45 10 (x2 tx n p)) 50 s, g) from c_mnum_t hm hx (by omega) z0) (by omega) ?_
        have w0 := xV_rng (xO_i.mp z0).1
        have u0 := (xO_i.mp z0).2.2
        refine kw_istore_n dX7_readsItem_52 (by decide) trivial (L2 := [some (kA (45)), some (kI (98)), some (kI (xV tx n (p + 1))), none, none, none]) rfl ?_
        refine kw_iload_n dX7_readsItem_53 rfl ?_
        refine kw_if_ge (tgt := 61) dX7_readsItem_54 (by decide) (kf := fun h1 => absurd h1 (by omega)) (kt := fun h1 => ?_)
        refine kw_aload_n dX7_readsItem_61 rfl ?_
        refine kw_iconst dX7_readsItem_62 ⟨by decide, by decide⟩ ?_
        refine kw_bipush dX7_readsItem_63 (by decide) (by decide) ?_
        refine kw_bipush dX7_readsItem_65 (by decide) (by decide) ?_
        refine kv_callV1 (M2 := M_X7_number) (As := [kI (1), kI (20), kI (44)]) dX7_readsItem_67 ml_X7_73 q_X7_number rfl rfl rfl (Nat.le_of_ble_eq_true rfl) (show kF E 2 M_X7_number [kA 45, kI 1, kI 20, kI 44] ((kMC ++ kMM), kst (k_u f 45 10 (x2 tx n p)) 50 s, g) (some (kI (xV tx n (x2 tx n p)))) ((kMC ++ kMM), kst (k_u f 45 10 (x3 tx n p)) 50 s, g) from c_mnum_t hm hx (by omega) z1) (by omega) ?_
        have w1 := xV_rng (xO_i.mp z1).1
        have u1 := (xO_i.mp z1).2.2
        refine kw_istore_n dX7_readsItem_70 (by decide) trivial (L2 := [some (kA (45)), some (kI (98)), some (kI (xV tx n (p + 1))), some (kI (xV tx n (x2 tx n p))), none, none]) rfl ?_
        refine kw_iload_n dX7_readsItem_71 rfl ?_
        refine kw_if_ge (tgt := 79) dX7_readsItem_72 (by decide) (kf := fun h2 => absurd h2 (by omega)) (kt := fun h2 => ?_)
        refine kw_aload_n dX7_readsItem_79 rfl ?_
        refine kw_iconst dX7_readsItem_80 ⟨by decide, by decide⟩ ?_
        refine kw_bipush dX7_readsItem_81 (by decide) (by decide) ?_
        refine kw_bipush dX7_readsItem_83 (by decide) (by decide) ?_
        refine kv_callV1 (M2 := M_X7_number) (As := [kI (1), kI (20), kI (44)]) dX7_readsItem_85 ml_X7_73 q_X7_number rfl rfl rfl (Nat.le_of_ble_eq_true rfl) (show kF E 2 M_X7_number [kA 45, kI 1, kI 20, kI 44] ((kMC ++ kMM), kst (k_u f 45 10 (x3 tx n p)) 50 s, g) (some (kI (-1))) ((kMC ++ kMM), kst (k_u f 45 10 (xA tx n (x3 tx n p))) 50 s, g) from c_mnum_f hm hx (by omega) z2) (by omega) ?_
        refine kw_istore dX7_readsItem_88 (by decide) trivial (L2 := [some (kA (45)), some (kI (98)), some (kI (xV tx n (p + 1))), some (kI (xV tx n (x2 tx n p))), some (kI (-1)), none]) rfl ?_
        refine kw_iload dX7_readsItem_90 rfl ?_
        refine kw_if_ge (tgt := 99) dX7_readsItem_92 (by decide) (kt := fun h => absurd h (by decide)) (kf := fun _ => ?_)
        refine kw_iconst dX7_readsItem_95 ⟨by decide, by decide⟩ ?_
        refine kw_goto (tgt := 108) dX7_readsItem_96 (by decide) ?_
        refine kw_istore dX7_readsItem_108 (by decide) trivial (L2 := [some (kA (45)), some (kI (98)), some (kI (xV tx n (p + 1))), some (kI (xV tx n (x2 tx n p))), some (kI (-1)), some (kI (-1))]) rfl ?_
        refine kw_iload dX7_readsItem_110 rfl ?_
        refine kw_if_lt (tgt := 126) dX7_readsItem_112 (by decide) (kf := fun h => absurd (by decide) h) (kt := fun _ => ?_)
        refine kw_iconst dX7_readsItem_126 ⟨by decide, by decide⟩ ?_
        exact kv_rbE dX7_readsItem_127 rfl (if_neg (by rw [hG]; decide)).symm ⟨_, rfl, mR_no (mKq_a mKq_rf) hG⟩
      · have hI : True := trivial
        cases z3 : xO tx n 0 60 59 (x4 tx n p)
        · have hG : xG tx n p (f 48) = false := xG_no (by rw [ei, z0, z1, z2, z3]; simp)
          refine kw_iload_n dX7_readsItem_0 rfl ?_
          refine kw_look (off := 43) (tgt := 44) dX7_readsItem_1 (by decide) rfl (by decide) ?_
          refine kw_aload_n dX7_readsItem_44 rfl ?_
          refine kw_iconst dX7_readsItem_45 ⟨by decide, by decide⟩ ?_
          refine kw_iconst dX7_readsItem_46 ⟨by decide, by decide⟩ ?_
          refine kw_bipush dX7_readsItem_47 (by decide) (by decide) ?_
          refine kv_callV1 (M2 := M_X7_number) (As := [kI (0), kI (3), kI (44)]) dX7_readsItem_49 ml_X7_73 q_X7_number rfl rfl rfl (Nat.le_of_ble_eq_true rfl) (show kF E 2 M_X7_number [kA 45, kI 0, kI 3, kI 44] ((kMC ++ kMM), kst (k_u f 45 10 (p + 1)) 50 s, g) (some (kI (xV tx n (p + 1)))) ((kMC ++ kMM), kst (k_u f 45 10 (x2 tx n p)) 50 s, g) from c_mnum_t hm hx (by omega) z0) (by omega) ?_
          have w0 := xV_rng (xO_i.mp z0).1
          have u0 := (xO_i.mp z0).2.2
          refine kw_istore_n dX7_readsItem_52 (by decide) trivial (L2 := [some (kA (45)), some (kI (98)), some (kI (xV tx n (p + 1))), none, none, none]) rfl ?_
          refine kw_iload_n dX7_readsItem_53 rfl ?_
          refine kw_if_ge (tgt := 61) dX7_readsItem_54 (by decide) (kf := fun h1 => absurd h1 (by omega)) (kt := fun h1 => ?_)
          refine kw_aload_n dX7_readsItem_61 rfl ?_
          refine kw_iconst dX7_readsItem_62 ⟨by decide, by decide⟩ ?_
          refine kw_bipush dX7_readsItem_63 (by decide) (by decide) ?_
          refine kw_bipush dX7_readsItem_65 (by decide) (by decide) ?_
          refine kv_callV1 (M2 := M_X7_number) (As := [kI (1), kI (20), kI (44)]) dX7_readsItem_67 ml_X7_73 q_X7_number rfl rfl rfl (Nat.le_of_ble_eq_true rfl) (show kF E 2 M_X7_number [kA 45, kI 1, kI 20, kI 44] ((kMC ++ kMM), kst (k_u f 45 10 (x2 tx n p)) 50 s, g) (some (kI (xV tx n (x2 tx n p)))) ((kMC ++ kMM), kst (k_u f 45 10 (x3 tx n p)) 50 s, g) from c_mnum_t hm hx (by omega) z1) (by omega) ?_
          have w1 := xV_rng (xO_i.mp z1).1
          have u1 := (xO_i.mp z1).2.2
          refine kw_istore_n dX7_readsItem_70 (by decide) trivial (L2 := [some (kA (45)), some (kI (98)), some (kI (xV tx n (p + 1))), some (kI (xV tx n (x2 tx n p))), none, none]) rfl ?_
          refine kw_iload_n dX7_readsItem_71 rfl ?_
          refine kw_if_ge (tgt := 79) dX7_readsItem_72 (by decide) (kf := fun h2 => absurd h2 (by omega)) (kt := fun h2 => ?_)
          refine kw_aload_n dX7_readsItem_79 rfl ?_
          refine kw_iconst dX7_readsItem_80 ⟨by decide, by decide⟩ ?_
          refine kw_bipush dX7_readsItem_81 (by decide) (by decide) ?_
          refine kw_bipush dX7_readsItem_83 (by decide) (by decide) ?_
          refine kv_callV1 (M2 := M_X7_number) (As := [kI (1), kI (20), kI (44)]) dX7_readsItem_85 ml_X7_73 q_X7_number rfl rfl rfl (Nat.le_of_ble_eq_true rfl) (show kF E 2 M_X7_number [kA 45, kI 1, kI 20, kI 44] ((kMC ++ kMM), kst (k_u f 45 10 (x3 tx n p)) 50 s, g) (some (kI (xV tx n (x3 tx n p)))) ((kMC ++ kMM), kst (k_u f 45 10 (x4 tx n p)) 50 s, g) from c_mnum_t hm hx (by omega) z2) (by omega) ?_
          have w2 := xV_rng (xO_i.mp z2).1
          have u2 := (xO_i.mp z2).2.2
          refine kw_istore dX7_readsItem_88 (by decide) trivial (L2 := [some (kA (45)), some (kI (98)), some (kI (xV tx n (p + 1))), some (kI (xV tx n (x2 tx n p))), some (kI (xV tx n (x3 tx n p))), none]) rfl ?_
          refine kw_iload dX7_readsItem_90 rfl ?_
          refine kw_if_ge (tgt := 99) dX7_readsItem_92 (by decide) (kf := fun h3 => absurd h3 (by omega)) (kt := fun h3 => ?_)
          refine kw_aload_n dX7_readsItem_99 rfl ?_
          refine kw_iconst dX7_readsItem_100 ⟨by decide, by decide⟩ ?_
          refine kw_bipush dX7_readsItem_101 (by decide) (by decide) ?_
          refine kw_bipush dX7_readsItem_103 (by decide) (by decide) ?_
          refine kv_callV1 (M2 := M_X7_number) (As := [kI (0), kI (60), kI (59)]) dX7_readsItem_105 ml_X7_73 q_X7_number rfl rfl rfl (Nat.le_of_ble_eq_true rfl) (show kF E 2 M_X7_number [kA 45, kI 0, kI 60, kI 59] ((kMC ++ kMM), kst (k_u f 45 10 (x4 tx n p)) 50 s, g) (some (kI (-1))) ((kMC ++ kMM), kst (k_u f 45 10 (xA tx n (x4 tx n p))) 50 s, g) from c_mnum_f hm hx (by omega) z3) (by omega) ?_
          refine kw_istore dX7_readsItem_108 (by decide) trivial (L2 := [some (kA (45)), some (kI (98)), some (kI (xV tx n (p + 1))), some (kI (xV tx n (x2 tx n p))), some (kI (xV tx n (x3 tx n p))), some (kI (-1))]) rfl ?_
          refine kw_iload dX7_readsItem_110 rfl ?_
          refine kw_if_lt (tgt := 126) dX7_readsItem_112 (by decide) (kf := fun h => absurd (by decide) h) (kt := fun _ => ?_)
          refine kw_iconst dX7_readsItem_126 ⟨by decide, by decide⟩ ?_
          exact kv_rbE dX7_readsItem_127 rfl (if_neg (by rw [hG]; decide)).symm ⟨_, rfl, mR_no (mKq_a mKq_rf) hG⟩
        · have hI : True := trivial
          have hI : xI tx n p = true := by rw [ei, z0, z1, z2, z3]; rfl
          by_cases hb : f 48 0 = 8
          · have hG : xG tx n p (f 48) = false := by
              cases y : xG tx n p (f 48)
              · rfl
              · exact absurd ⟨hcc, hb⟩ (xG_i.mp y).2.1
            refine kw_iload_n dX7_readsItem_0 rfl ?_
            refine kw_look (off := 43) (tgt := 44) dX7_readsItem_1 (by decide) rfl (by decide) ?_
            refine kw_aload_n dX7_readsItem_44 rfl ?_
            refine kw_iconst dX7_readsItem_45 ⟨by decide, by decide⟩ ?_
            refine kw_iconst dX7_readsItem_46 ⟨by decide, by decide⟩ ?_
            refine kw_bipush dX7_readsItem_47 (by decide) (by decide) ?_
            refine kv_callV1 (M2 := M_X7_number) (As := [kI (0), kI (3), kI (44)]) dX7_readsItem_49 ml_X7_73 q_X7_number rfl rfl rfl (Nat.le_of_ble_eq_true rfl) (show kF E 2 M_X7_number [kA 45, kI 0, kI 3, kI 44] ((kMC ++ kMM), kst (k_u f 45 10 (p + 1)) 50 s, g) (some (kI (xV tx n (p + 1)))) ((kMC ++ kMM), kst (k_u f 45 10 (x2 tx n p)) 50 s, g) from c_mnum_t hm hx (by omega) z0) (by omega) ?_
            have w0 := xV_rng (xO_i.mp z0).1
            have u0 := (xO_i.mp z0).2.2
            refine kw_istore_n dX7_readsItem_52 (by decide) trivial (L2 := [some (kA (45)), some (kI (98)), some (kI (xV tx n (p + 1))), none, none, none]) rfl ?_
            refine kw_iload_n dX7_readsItem_53 rfl ?_
            refine kw_if_ge (tgt := 61) dX7_readsItem_54 (by decide) (kf := fun h1 => absurd h1 (by omega)) (kt := fun h1 => ?_)
            refine kw_aload_n dX7_readsItem_61 rfl ?_
            refine kw_iconst dX7_readsItem_62 ⟨by decide, by decide⟩ ?_
            refine kw_bipush dX7_readsItem_63 (by decide) (by decide) ?_
            refine kw_bipush dX7_readsItem_65 (by decide) (by decide) ?_
            refine kv_callV1 (M2 := M_X7_number) (As := [kI (1), kI (20), kI (44)]) dX7_readsItem_67 ml_X7_73 q_X7_number rfl rfl rfl (Nat.le_of_ble_eq_true rfl) (show kF E 2 M_X7_number [kA 45, kI 1, kI 20, kI 44] ((kMC ++ kMM), kst (k_u f 45 10 (x2 tx n p)) 50 s, g) (some (kI (xV tx n (x2 tx n p)))) ((kMC ++ kMM), kst (k_u f 45 10 (x3 tx n p)) 50 s, g) from c_mnum_t hm hx (by omega) z1) (by omega) ?_
            have w1 := xV_rng (xO_i.mp z1).1
            have u1 := (xO_i.mp z1).2.2
            refine kw_istore_n dX7_readsItem_70 (by decide) trivial (L2 := [some (kA (45)), some (kI (98)), some (kI (xV tx n (p + 1))), some (kI (xV tx n (x2 tx n p))), none, none]) rfl ?_
            refine kw_iload_n dX7_readsItem_71 rfl ?_
            refine kw_if_ge (tgt := 79) dX7_readsItem_72 (by decide) (kf := fun h2 => absurd h2 (by omega)) (kt := fun h2 => ?_)
            refine kw_aload_n dX7_readsItem_79 rfl ?_
            refine kw_iconst dX7_readsItem_80 ⟨by decide, by decide⟩ ?_
            refine kw_bipush dX7_readsItem_81 (by decide) (by decide) ?_
            refine kw_bipush dX7_readsItem_83 (by decide) (by decide) ?_
            refine kv_callV1 (M2 := M_X7_number) (As := [kI (1), kI (20), kI (44)]) dX7_readsItem_85 ml_X7_73 q_X7_number rfl rfl rfl (Nat.le_of_ble_eq_true rfl) (show kF E 2 M_X7_number [kA 45, kI 1, kI 20, kI 44] ((kMC ++ kMM), kst (k_u f 45 10 (x3 tx n p)) 50 s, g) (some (kI (xV tx n (x3 tx n p)))) ((kMC ++ kMM), kst (k_u f 45 10 (x4 tx n p)) 50 s, g) from c_mnum_t hm hx (by omega) z2) (by omega) ?_
            have w2 := xV_rng (xO_i.mp z2).1
            have u2 := (xO_i.mp z2).2.2
            refine kw_istore dX7_readsItem_88 (by decide) trivial (L2 := [some (kA (45)), some (kI (98)), some (kI (xV tx n (p + 1))), some (kI (xV tx n (x2 tx n p))), some (kI (xV tx n (x3 tx n p))), none]) rfl ?_
            refine kw_iload dX7_readsItem_90 rfl ?_
            refine kw_if_ge (tgt := 99) dX7_readsItem_92 (by decide) (kf := fun h3 => absurd h3 (by omega)) (kt := fun h3 => ?_)
            refine kw_aload_n dX7_readsItem_99 rfl ?_
            refine kw_iconst dX7_readsItem_100 ⟨by decide, by decide⟩ ?_
            refine kw_bipush dX7_readsItem_101 (by decide) (by decide) ?_
            refine kw_bipush dX7_readsItem_103 (by decide) (by decide) ?_
            refine kv_callV1 (M2 := M_X7_number) (As := [kI (0), kI (60), kI (59)]) dX7_readsItem_105 ml_X7_73 q_X7_number rfl rfl rfl (Nat.le_of_ble_eq_true rfl) (show kF E 2 M_X7_number [kA 45, kI 0, kI 60, kI 59] ((kMC ++ kMM), kst (k_u f 45 10 (x4 tx n p)) 50 s, g) (some (kI (xV tx n (x4 tx n p)))) ((kMC ++ kMM), kst (k_u f 45 10 (xE tx n (x4 tx n p))) 50 s, g) from c_mnum_t hm hx (by omega) z3) (by omega) ?_
            have w3 := xV_rng (xO_i.mp z3).1
            have u3 := (xO_i.mp z3).2.2
            refine kw_istore dX7_readsItem_108 (by decide) trivial (L2 := [some (kA (45)), some (kI (98)), some (kI (xV tx n (p + 1))), some (kI (xV tx n (x2 tx n p))), some (kI (xV tx n (x3 tx n p))), some (kI (xV tx n (x4 tx n p)))]) rfl ?_
            refine kw_iload dX7_readsItem_110 rfl ?_
            refine kw_if_lt (tgt := 126) dX7_readsItem_112 (by decide) (kt := fun h4 => absurd h4 (by omega)) (kf := fun h4 => ?_)
            refine kw_aload_n dX7_readsItem_115 rfl ?_
            refine kv_getR (b := 48) dX7_readsItem_116 kf_X7_16 rfl rfl rfl (hm (45, 3, 48) (by decide)) ?_
            refine kw_iconst dX7_readsItem_119 ⟨by decide, by decide⟩ ?_
            refine kv_iald dX7_readsItem_120 rfl (by omega) (by omega) ((congrFun (kst_ne (by decide)) _).trans (k_u_ne2 (by decide))) ?_
            refine kw_bipush dX7_readsItem_121 (by decide) (by decide) ?_
            refine kw_icmp_ne (tgt := 128) dX7_readsItem_123 (by decide) (kt := fun h5 => absurd h5 (by omega)) (kf := fun h5 => ?_)
            refine kw_iconst dX7_readsItem_126 ⟨by decide, by decide⟩ ?_
            exact kv_rbE dX7_readsItem_127 rfl (if_neg (by rw [hG]; decide)).symm ⟨_, rfl, mR_no (mKq_a mKq_rf) hG⟩
          · have hG : xG tx n p (f 48) = true := xG_i.mpr ⟨hI, fun y => by omega, fun y => by omega⟩
            refine kw_iload_n dX7_readsItem_0 rfl ?_
            refine kw_look (off := 43) (tgt := 44) dX7_readsItem_1 (by decide) rfl (by decide) ?_
            refine kw_aload_n dX7_readsItem_44 rfl ?_
            refine kw_iconst dX7_readsItem_45 ⟨by decide, by decide⟩ ?_
            refine kw_iconst dX7_readsItem_46 ⟨by decide, by decide⟩ ?_
            refine kw_bipush dX7_readsItem_47 (by decide) (by decide) ?_
            refine kv_callV1 (M2 := M_X7_number) (As := [kI (0), kI (3), kI (44)]) dX7_readsItem_49 ml_X7_73 q_X7_number rfl rfl rfl (Nat.le_of_ble_eq_true rfl) (show kF E 2 M_X7_number [kA 45, kI 0, kI 3, kI 44] ((kMC ++ kMM), kst (k_u f 45 10 (p + 1)) 50 s, g) (some (kI (xV tx n (p + 1)))) ((kMC ++ kMM), kst (k_u f 45 10 (x2 tx n p)) 50 s, g) from c_mnum_t hm hx (by omega) z0) (by omega) ?_
            have w0 := xV_rng (xO_i.mp z0).1
            have u0 := (xO_i.mp z0).2.2
            refine kw_istore_n dX7_readsItem_52 (by decide) trivial (L2 := [some (kA (45)), some (kI (98)), some (kI (xV tx n (p + 1))), none, none, none]) rfl ?_
            refine kw_iload_n dX7_readsItem_53 rfl ?_
            refine kw_if_ge (tgt := 61) dX7_readsItem_54 (by decide) (kf := fun h1 => absurd h1 (by omega)) (kt := fun h1 => ?_)
            refine kw_aload_n dX7_readsItem_61 rfl ?_
            refine kw_iconst dX7_readsItem_62 ⟨by decide, by decide⟩ ?_
            refine kw_bipush dX7_readsItem_63 (by decide) (by decide) ?_
            refine kw_bipush dX7_readsItem_65 (by decide) (by decide) ?_
            refine kv_callV1 (M2 := M_X7_number) (As := [kI (1), kI (20), kI (44)]) dX7_readsItem_67 ml_X7_73 q_X7_number rfl rfl rfl (Nat.le_of_ble_eq_true rfl) (show kF E 2 M_X7_number [kA 45, kI 1, kI 20, kI 44] ((kMC ++ kMM), kst (k_u f 45 10 (x2 tx n p)) 50 s, g) (some (kI (xV tx n (x2 tx n p)))) ((kMC ++ kMM), kst (k_u f 45 10 (x3 tx n p)) 50 s, g) from c_mnum_t hm hx (by omega) z1) (by omega) ?_
            have w1 := xV_rng (xO_i.mp z1).1
            have u1 := (xO_i.mp z1).2.2
            refine kw_istore_n dX7_readsItem_70 (by decide) trivial (L2 := [some (kA (45)), some (kI (98)), some (kI (xV tx n (p + 1))), some (kI (xV tx n (x2 tx n p))), none, none]) rfl ?_
            refine kw_iload_n dX7_readsItem_71 rfl ?_
            refine kw_if_ge (tgt := 79) dX7_readsItem_72 (by decide) (kf := fun h2 => absurd h2 (by omega)) (kt := fun h2 => ?_)
            refine kw_aload_n dX7_readsItem_79 rfl ?_
            refine kw_iconst dX7_readsItem_80 ⟨by decide, by decide⟩ ?_
            refine kw_bipush dX7_readsItem_81 (by decide) (by decide) ?_
            refine kw_bipush dX7_readsItem_83 (by decide) (by decide) ?_
            refine kv_callV1 (M2 := M_X7_number) (As := [kI (1), kI (20), kI (44)]) dX7_readsItem_85 ml_X7_73 q_X7_number rfl rfl rfl (Nat.le_of_ble_eq_true rfl) (show kF E 2 M_X7_number [kA 45, kI 1, kI 20, kI 44] ((kMC ++ kMM), kst (k_u f 45 10 (x3 tx n p)) 50 s, g) (some (kI (xV tx n (x3 tx n p)))) ((kMC ++ kMM), kst (k_u f 45 10 (x4 tx n p)) 50 s, g) from c_mnum_t hm hx (by omega) z2) (by omega) ?_
            have w2 := xV_rng (xO_i.mp z2).1
            have u2 := (xO_i.mp z2).2.2
            refine kw_istore dX7_readsItem_88 (by decide) trivial (L2 := [some (kA (45)), some (kI (98)), some (kI (xV tx n (p + 1))), some (kI (xV tx n (x2 tx n p))), some (kI (xV tx n (x3 tx n p))), none]) rfl ?_
            refine kw_iload dX7_readsItem_90 rfl ?_
            refine kw_if_ge (tgt := 99) dX7_readsItem_92 (by decide) (kf := fun h3 => absurd h3 (by omega)) (kt := fun h3 => ?_)
            refine kw_aload_n dX7_readsItem_99 rfl ?_
            refine kw_iconst dX7_readsItem_100 ⟨by decide, by decide⟩ ?_
            refine kw_bipush dX7_readsItem_101 (by decide) (by decide) ?_
            refine kw_bipush dX7_readsItem_103 (by decide) (by decide) ?_
            refine kv_callV1 (M2 := M_X7_number) (As := [kI (0), kI (60), kI (59)]) dX7_readsItem_105 ml_X7_73 q_X7_number rfl rfl rfl (Nat.le_of_ble_eq_true rfl) (show kF E 2 M_X7_number [kA 45, kI 0, kI 60, kI 59] ((kMC ++ kMM), kst (k_u f 45 10 (x4 tx n p)) 50 s, g) (some (kI (xV tx n (x4 tx n p)))) ((kMC ++ kMM), kst (k_u f 45 10 (xE tx n (x4 tx n p))) 50 s, g) from c_mnum_t hm hx (by omega) z3) (by omega) ?_
            have w3 := xV_rng (xO_i.mp z3).1
            have u3 := (xO_i.mp z3).2.2
            refine kw_istore dX7_readsItem_108 (by decide) trivial (L2 := [some (kA (45)), some (kI (98)), some (kI (xV tx n (p + 1))), some (kI (xV tx n (x2 tx n p))), some (kI (xV tx n (x3 tx n p))), some (kI (xV tx n (x4 tx n p)))]) rfl ?_
            refine kw_iload dX7_readsItem_110 rfl ?_
            refine kw_if_lt (tgt := 126) dX7_readsItem_112 (by decide) (kt := fun h4 => absurd h4 (by omega)) (kf := fun h4 => ?_)
            refine kw_aload_n dX7_readsItem_115 rfl ?_
            refine kv_getR (b := 48) dX7_readsItem_116 kf_X7_16 rfl rfl rfl (hm (45, 3, 48) (by decide)) ?_
            refine kw_iconst dX7_readsItem_119 ⟨by decide, by decide⟩ ?_
            refine kv_iald dX7_readsItem_120 rfl (by omega) (by omega) ((congrFun (kst_ne (by decide)) _).trans (k_u_ne2 (by decide))) ?_
            refine kw_bipush dX7_readsItem_121 (by decide) (by decide) ?_
            refine kw_icmp_ne (tgt := 128) dX7_readsItem_123 (by decide) (kf := fun h5 => absurd h5 (by omega)) (kt := fun h5 => ?_)
            refine kw_aload_n dX7_readsItem_128 rfl ?_
            refine kw_iload_n dX7_readsItem_129 rfl ?_
            refine kw_iload_n dX7_readsItem_130 rfl ?_
            refine kw_iload dX7_readsItem_131 rfl ?_
            refine kw_iload dX7_readsItem_133 rfl ?_
            refine kv_callV0 (M2 := M_X7_boughOf) (As := [kI (xV tx n (p + 1)), kI (xV tx n (x2 tx n p)), kI (xV tx n (x3 tx n p)), kI (xV tx n (x4 tx n p))]) dX7_readsItem_135 ml_X7_43 q_X7_boughOf rfl rfl rfl (Nat.le_of_ble_eq_true rfl) (c_mbo hm (by rw [k_u_ne (by decide)]; omega)) (by omega) ?_
            refine kw_iconst dX7_readsItem_138 ⟨by decide, by decide⟩ ?_
            exact kv_rbE dX7_readsItem_139 rfl (if_pos hG).symm ⟨_, rfl, (mKq_bo (mKq_a mKq_rf)), fun _ => ⟨kBo_48.trans (by rw [k_u_off (by decide)]; exact (if_pos hcc).symm), kBo_49.trans (by rw [k_u_off (by decide), k_u_off (by decide)]; exact (if_pos hcc).symm), (congrFun (kBo_o (by decide)) 10).trans (k_u_self.trans en.symm)⟩⟩
theorem c_mi_t {E : kEnv} {f : Nat → Int → Int} {s : Int → Int} {g : Nat → Int → Option Nat} {tx : Int → Int} {n : Int} {p : Int} (hm : kGM g) (hx : kTm tx n f) (hp : 0 ≤ p ∧ p < n) (hc : tx p = 116) (h10 : f 45 10 = p + 1) (hT : mTp (f 48)) : kFE E 3 M_X7_readsItem [kA 45, kI 116] ((kMC ++ kMM), kst f 50 s, g) (some (kI (if xG tx n p (f 48) = true then 1 else 0))) (kMC ++ kMM) (fun F => ∃ f2, F = kst f2 50 s ∧ mR tx n p f f2) g := by
  refine kFE_of (by decide) (by simp [k_one]) (Nat.le_of_ble_eq_true rfl) (L := [some (kA (45)), some (kI (116)), none, none, none, none]) rfl ?_
  have hn := hx.1
  have t0 := hT.1
  have t1 := hT.2.1
  have lp : xL tx n p = tx p := if_pos hp.2
  have g0 := xE_gt (tx := tx) (n := n) (p := (p + 1))
  have g1 := xE_gt (tx := tx) (n := n) (p := (xE tx n (p + 1)))
  have g2 := xE_gt (tx := tx) (n := n) (p := (xE tx n (xE tx n (p + 1))))
  have y2 : x2 tx n p = xE tx n (p + 1) := rfl
  have y3 : x3 tx n p = xE tx n (xE tx n (p + 1)) := rfl
  have y4 : x4 tx n p = xE tx n (xE tx n (xE tx n (p + 1))) := rfl
  have hcc : xL tx n p = 116 := by rw [lp, hc]
  have ei : xI tx n p = (xO tx n 1 20 44 (p + 1) && xO tx n 1 40 44 (x2 tx n p) && xO tx n 1 60 59 (x3 tx n p)) := (if_neg (by omega)).trans (if_pos hcc)
  have en : xN tx n p = x4 tx n p := (if_neg (by omega)).trans (if_pos hcc)
  rw [show kst f 50 s = kst (k_u f 45 10 (p + 1)) 50 s by rw [k_u_same h10]]
  cases z0 : xO tx n 1 20 44 (p + 1)
  · have hG : xG tx n p (f 48) = false := xG_no (by rw [ei, z0]; simp)
    refine kw_iload_n dX7_readsItem_0 rfl ?_
    refine kw_look (off := 139) (tgt := 140) dX7_readsItem_1 (by decide) rfl (by decide) ?_
    refine kw_aload_n dX7_readsItem_140 rfl ?_
    refine kw_iconst dX7_readsItem_141 ⟨by decide, by decide⟩ ?_
    refine kw_bipush dX7_readsItem_142 (by decide) (by decide) ?_
    refine kw_bipush dX7_readsItem_144 (by decide) (by decide) ?_
    refine kv_callV1 (M2 := M_X7_number) (As := [kI (1), kI (20), kI (44)]) dX7_readsItem_146 ml_X7_73 q_X7_number rfl rfl rfl (Nat.le_of_ble_eq_true rfl) (show kF E 2 M_X7_number [kA 45, kI 1, kI 20, kI 44] ((kMC ++ kMM), kst (k_u f 45 10 (p + 1)) 50 s, g) (some (kI (-1))) ((kMC ++ kMM), kst (k_u f 45 10 (xA tx n (p + 1))) 50 s, g) from c_mnum_f hm hx (by omega) z0) (by omega) ?_
    refine kw_istore_n dX7_readsItem_149 (by decide) trivial (L2 := [some (kA (45)), some (kI (116)), some (kI (-1)), none, none, none]) rfl ?_
    refine kw_iload_n dX7_readsItem_150 rfl ?_
    refine kw_if_ge (tgt := 158) dX7_readsItem_151 (by decide) (kt := fun h => absurd h (by decide)) (kf := fun _ => ?_)
    refine kw_iconst dX7_readsItem_154 ⟨by decide, by decide⟩ ?_
    refine kw_goto (tgt := 167) dX7_readsItem_155 (by decide) ?_
    refine kw_istore_n dX7_readsItem_167 (by decide) trivial (L2 := [some (kA (45)), some (kI (116)), some (kI (-1)), some (kI (-1)), none, none]) rfl ?_
    refine kw_iload_n dX7_readsItem_168 rfl ?_
    refine kw_if_ge (tgt := 176) dX7_readsItem_169 (by decide) (kt := fun h => absurd h (by decide)) (kf := fun _ => ?_)
    refine kw_iconst dX7_readsItem_172 ⟨by decide, by decide⟩ ?_
    refine kw_goto (tgt := 185) dX7_readsItem_173 (by decide) ?_
    refine kw_istore dX7_readsItem_185 (by decide) trivial (L2 := [some (kA (45)), some (kI (116)), some (kI (-1)), some (kI (-1)), some (kI (-1)), none]) rfl ?_
    refine kw_iload dX7_readsItem_187 rfl ?_
    refine kw_if_lt (tgt := 202) dX7_readsItem_189 (by decide) (kf := fun h => absurd (by decide) h) (kt := fun _ => ?_)
    refine kw_iconst dX7_readsItem_202 ⟨by decide, by decide⟩ ?_
    exact kv_rbE dX7_readsItem_203 rfl (if_neg (by rw [hG]; decide)).symm ⟨_, rfl, mR_no (mKq_a mKq_rf) hG⟩
  · have hI : True := trivial
    cases z1 : xO tx n 1 40 44 (x2 tx n p)
    · have hG : xG tx n p (f 48) = false := xG_no (by rw [ei, z0, z1]; simp)
      refine kw_iload_n dX7_readsItem_0 rfl ?_
      refine kw_look (off := 139) (tgt := 140) dX7_readsItem_1 (by decide) rfl (by decide) ?_
      refine kw_aload_n dX7_readsItem_140 rfl ?_
      refine kw_iconst dX7_readsItem_141 ⟨by decide, by decide⟩ ?_
      refine kw_bipush dX7_readsItem_142 (by decide) (by decide) ?_
      refine kw_bipush dX7_readsItem_144 (by decide) (by decide) ?_
      refine kv_callV1 (M2 := M_X7_number) (As := [kI (1), kI (20), kI (44)]) dX7_readsItem_146 ml_X7_73 q_X7_number rfl rfl rfl (Nat.le_of_ble_eq_true rfl) (show kF E 2 M_X7_number [kA 45, kI 1, kI 20, kI 44] ((kMC ++ kMM), kst (k_u f 45 10 (p + 1)) 50 s, g) (some (kI (xV tx n (p + 1)))) ((kMC ++ kMM), kst (k_u f 45 10 (x2 tx n p)) 50 s, g) from c_mnum_t hm hx (by omega) z0) (by omega) ?_
      have w0 := xV_rng (xO_i.mp z0).1
      have u0 := (xO_i.mp z0).2.2
      refine kw_istore_n dX7_readsItem_149 (by decide) trivial (L2 := [some (kA (45)), some (kI (116)), some (kI (xV tx n (p + 1))), none, none, none]) rfl ?_
      refine kw_iload_n dX7_readsItem_150 rfl ?_
      refine kw_if_ge (tgt := 158) dX7_readsItem_151 (by decide) (kf := fun h1 => absurd h1 (by omega)) (kt := fun h1 => ?_)
      refine kw_aload_n dX7_readsItem_158 rfl ?_
      refine kw_iconst dX7_readsItem_159 ⟨by decide, by decide⟩ ?_
      refine kw_bipush dX7_readsItem_160 (by decide) (by decide) ?_
      refine kw_bipush dX7_readsItem_162 (by decide) (by decide) ?_
      refine kv_callV1 (M2 := M_X7_number) (As := [kI (1), kI (40), kI (44)]) dX7_readsItem_164 ml_X7_73 q_X7_number rfl rfl rfl (Nat.le_of_ble_eq_true rfl) (show kF E 2 M_X7_number [kA 45, kI 1, kI 40, kI 44] ((kMC ++ kMM), kst (k_u f 45 10 (x2 tx n p)) 50 s, g) (some (kI (-1))) ((kMC ++ kMM), kst (k_u f 45 10 (xA tx n (x2 tx n p))) 50 s, g) from c_mnum_f hm hx (by omega) z1) (by omega) ?_
      refine kw_istore_n dX7_readsItem_167 (by decide) trivial (L2 := [some (kA (45)), some (kI (116)), some (kI (xV tx n (p + 1))), some (kI (-1)), none, none]) rfl ?_
      refine kw_iload_n dX7_readsItem_168 rfl ?_
      refine kw_if_ge (tgt := 176) dX7_readsItem_169 (by decide) (kt := fun h => absurd h (by decide)) (kf := fun _ => ?_)
      refine kw_iconst dX7_readsItem_172 ⟨by decide, by decide⟩ ?_
      refine kw_goto (tgt := 185) dX7_readsItem_173 (by decide) ?_
      refine kw_istore dX7_readsItem_185 (by decide) trivial (L2 := [some (kA (45)), some (kI (116)), some (kI (xV tx n (p + 1))), some (kI (-1)), some (kI (-1)), none]) rfl ?_
      refine kw_iload dX7_readsItem_187 rfl ?_
      refine kw_if_lt (tgt := 202) dX7_readsItem_189 (by decide) (kf := fun h => absurd (by decide) h) (kt := fun _ => ?_)
      refine kw_iconst dX7_readsItem_202 ⟨by decide, by decide⟩ ?_
      exact kv_rbE dX7_readsItem_203 rfl (if_neg (by rw [hG]; decide)).symm ⟨_, rfl, mR_no (mKq_a mKq_rf) hG⟩
    · have hI : True := trivial
      cases z2 : xO tx n 1 60 59 (x3 tx n p)
      · have hG : xG tx n p (f 48) = false := xG_no (by rw [ei, z0, z1, z2]; simp)
        refine kw_iload_n dX7_readsItem_0 rfl ?_
        refine kw_look (off := 139) (tgt := 140) dX7_readsItem_1 (by decide) rfl (by decide) ?_
        refine kw_aload_n dX7_readsItem_140 rfl ?_
        refine kw_iconst dX7_readsItem_141 ⟨by decide, by decide⟩ ?_
        refine kw_bipush dX7_readsItem_142 (by decide) (by decide) ?_
        refine kw_bipush dX7_readsItem_144 (by decide) (by decide) ?_
        refine kv_callV1 (M2 := M_X7_number) (As := [kI (1), kI (20), kI (44)]) dX7_readsItem_146 ml_X7_73 q_X7_number rfl rfl rfl (Nat.le_of_ble_eq_true rfl) (show kF E 2 M_X7_number [kA 45, kI 1, kI 20, kI 44] ((kMC ++ kMM), kst (k_u f 45 10 (p + 1)) 50 s, g) (some (kI (xV tx n (p + 1)))) ((kMC ++ kMM), kst (k_u f 45 10 (x2 tx n p)) 50 s, g) from c_mnum_t hm hx (by omega) z0) (by omega) ?_
        have w0 := xV_rng (xO_i.mp z0).1
        have u0 := (xO_i.mp z0).2.2
        refine kw_istore_n dX7_readsItem_149 (by decide) trivial (L2 := [some (kA (45)), some (kI (116)), some (kI (xV tx n (p + 1))), none, none, none]) rfl ?_
        refine kw_iload_n dX7_readsItem_150 rfl ?_
        refine kw_if_ge (tgt := 158) dX7_readsItem_151 (by decide) (kf := fun h1 => absurd h1 (by omega)) (kt := fun h1 => ?_)
        refine kw_aload_n dX7_readsItem_158 rfl ?_
        refine kw_iconst dX7_readsItem_159 ⟨by decide, by decide⟩ ?_
        refine kw_bipush dX7_readsItem_160 (by decide) (by decide) ?_
        refine kw_bipush dX7_readsItem_162 (by decide) (by decide) ?_
        refine kv_callV1 (M2 := M_X7_number) (As := [kI (1), kI (40), kI (44)]) dX7_readsItem_164 ml_X7_73 q_X7_number rfl rfl rfl (Nat.le_of_ble_eq_true rfl) (show kF E 2 M_X7_number [kA 45, kI 1, kI 40, kI 44] ((kMC ++ kMM), kst (k_u f 45 10 (x2 tx n p)) 50 s, g) (some (kI (xV tx n (x2 tx n p)))) ((kMC ++ kMM), kst (k_u f 45 10 (x3 tx n p)) 50 s, g) from c_mnum_t hm hx (by omega) z1) (by omega) ?_
        have w1 := xV_rng (xO_i.mp z1).1
        have u1 := (xO_i.mp z1).2.2
        refine kw_istore_n dX7_readsItem_167 (by decide) trivial (L2 := [some (kA (45)), some (kI (116)), some (kI (xV tx n (p + 1))), some (kI (xV tx n (x2 tx n p))), none, none]) rfl ?_
        refine kw_iload_n dX7_readsItem_168 rfl ?_
        refine kw_if_ge (tgt := 176) dX7_readsItem_169 (by decide) (kf := fun h2 => absurd h2 (by omega)) (kt := fun h2 => ?_)
        refine kw_aload_n dX7_readsItem_176 rfl ?_
        refine kw_iconst dX7_readsItem_177 ⟨by decide, by decide⟩ ?_
        refine kw_bipush dX7_readsItem_178 (by decide) (by decide) ?_
        refine kw_bipush dX7_readsItem_180 (by decide) (by decide) ?_
        refine kv_callV1 (M2 := M_X7_number) (As := [kI (1), kI (60), kI (59)]) dX7_readsItem_182 ml_X7_73 q_X7_number rfl rfl rfl (Nat.le_of_ble_eq_true rfl) (show kF E 2 M_X7_number [kA 45, kI 1, kI 60, kI 59] ((kMC ++ kMM), kst (k_u f 45 10 (x3 tx n p)) 50 s, g) (some (kI (-1))) ((kMC ++ kMM), kst (k_u f 45 10 (xA tx n (x3 tx n p))) 50 s, g) from c_mnum_f hm hx (by omega) z2) (by omega) ?_
        refine kw_istore dX7_readsItem_185 (by decide) trivial (L2 := [some (kA (45)), some (kI (116)), some (kI (xV tx n (p + 1))), some (kI (xV tx n (x2 tx n p))), some (kI (-1)), none]) rfl ?_
        refine kw_iload dX7_readsItem_187 rfl ?_
        refine kw_if_lt (tgt := 202) dX7_readsItem_189 (by decide) (kf := fun h => absurd (by decide) h) (kt := fun _ => ?_)
        refine kw_iconst dX7_readsItem_202 ⟨by decide, by decide⟩ ?_
        exact kv_rbE dX7_readsItem_203 rfl (if_neg (by rw [hG]; decide)).symm ⟨_, rfl, mR_no (mKq_a mKq_rf) hG⟩
      · have hI : True := trivial
        have hI : xI tx n p = true := by rw [ei, z0, z1, z2]; rfl
        by_cases hb : f 48 1 = 4
        · have hG : xG tx n p (f 48) = false := by
            cases y : xG tx n p (f 48)
            · rfl
            · exact absurd ⟨hcc, hb⟩ (xG_i.mp y).2.2
          refine kw_iload_n dX7_readsItem_0 rfl ?_
          refine kw_look (off := 139) (tgt := 140) dX7_readsItem_1 (by decide) rfl (by decide) ?_
          refine kw_aload_n dX7_readsItem_140 rfl ?_
          refine kw_iconst dX7_readsItem_141 ⟨by decide, by decide⟩ ?_
          refine kw_bipush dX7_readsItem_142 (by decide) (by decide) ?_
          refine kw_bipush dX7_readsItem_144 (by decide) (by decide) ?_
          refine kv_callV1 (M2 := M_X7_number) (As := [kI (1), kI (20), kI (44)]) dX7_readsItem_146 ml_X7_73 q_X7_number rfl rfl rfl (Nat.le_of_ble_eq_true rfl) (show kF E 2 M_X7_number [kA 45, kI 1, kI 20, kI 44] ((kMC ++ kMM), kst (k_u f 45 10 (p + 1)) 50 s, g) (some (kI (xV tx n (p + 1)))) ((kMC ++ kMM), kst (k_u f 45 10 (x2 tx n p)) 50 s, g) from c_mnum_t hm hx (by omega) z0) (by omega) ?_
          have w0 := xV_rng (xO_i.mp z0).1
          have u0 := (xO_i.mp z0).2.2
          refine kw_istore_n dX7_readsItem_149 (by decide) trivial (L2 := [some (kA (45)), some (kI (116)), some (kI (xV tx n (p + 1))), none, none, none]) rfl ?_
          refine kw_iload_n dX7_readsItem_150 rfl ?_
          refine kw_if_ge (tgt := 158) dX7_readsItem_151 (by decide) (kf := fun h1 => absurd h1 (by omega)) (kt := fun h1 => ?_)
          refine kw_aload_n dX7_readsItem_158 rfl ?_
          refine kw_iconst dX7_readsItem_159 ⟨by decide, by decide⟩ ?_
          refine kw_bipush dX7_readsItem_160 (by decide) (by decide) ?_
          refine kw_bipush dX7_readsItem_162 (by decide) (by decide) ?_
          refine kv_callV1 (M2 := M_X7_number) (As := [kI (1), kI (40), kI (44)]) dX7_readsItem_164 ml_X7_73 q_X7_number rfl rfl rfl (Nat.le_of_ble_eq_true rfl) (show kF E 2 M_X7_number [kA 45, kI 1, kI 40, kI 44] ((kMC ++ kMM), kst (k_u f 45 10 (x2 tx n p)) 50 s, g) (some (kI (xV tx n (x2 tx n p)))) ((kMC ++ kMM), kst (k_u f 45 10 (x3 tx n p)) 50 s, g) from c_mnum_t hm hx (by omega) z1) (by omega) ?_
          have w1 := xV_rng (xO_i.mp z1).1
          have u1 := (xO_i.mp z1).2.2
          refine kw_istore_n dX7_readsItem_167 (by decide) trivial (L2 := [some (kA (45)), some (kI (116)), some (kI (xV tx n (p + 1))), some (kI (xV tx n (x2 tx n p))), none, none]) rfl ?_
          refine kw_iload_n dX7_readsItem_168 rfl ?_
          refine kw_if_ge (tgt := 176) dX7_readsItem_169 (by decide) (kf := fun h2 => absurd h2 (by omega)) (kt := fun h2 => ?_)
          refine kw_aload_n dX7_readsItem_176 rfl ?_
          refine kw_iconst dX7_readsItem_177 ⟨by decide, by decide⟩ ?_
          refine kw_bipush dX7_readsItem_178 (by decide) (by decide) ?_
          refine kw_bipush dX7_readsItem_180 (by decide) (by decide) ?_
          refine kv_callV1 (M2 := M_X7_number) (As := [kI (1), kI (60), kI (59)]) dX7_readsItem_182 ml_X7_73 q_X7_number rfl rfl rfl (Nat.le_of_ble_eq_true rfl) (show kF E 2 M_X7_number [kA 45, kI 1, kI 60, kI 59] ((kMC ++ kMM), kst (k_u f 45 10 (x3 tx n p)) 50 s, g) (some (kI (xV tx n (x3 tx n p)))) ((kMC ++ kMM), kst (k_u f 45 10 (x4 tx n p)) 50 s, g) from c_mnum_t hm hx (by omega) z2) (by omega) ?_
          have w2 := xV_rng (xO_i.mp z2).1
          have u2 := (xO_i.mp z2).2.2
          refine kw_istore dX7_readsItem_185 (by decide) trivial (L2 := [some (kA (45)), some (kI (116)), some (kI (xV tx n (p + 1))), some (kI (xV tx n (x2 tx n p))), some (kI (xV tx n (x3 tx n p))), none]) rfl ?_
          refine kw_iload dX7_readsItem_187 rfl ?_
          refine kw_if_lt (tgt := 202) dX7_readsItem_189 (by decide) (kt := fun h3 => absurd h3 (by omega)) (kf := fun h3 => ?_)
          refine kw_aload_n dX7_readsItem_192 rfl ?_
          refine kv_getR (b := 48) dX7_readsItem_193 kf_X7_16 rfl rfl rfl (hm (45, 3, 48) (by decide)) ?_
          refine kw_iconst dX7_readsItem_196 ⟨by decide, by decide⟩ ?_
          refine kv_iald dX7_readsItem_197 rfl (by omega) (by omega) ((congrFun (kst_ne (by decide)) _).trans (k_u_ne2 (by decide))) ?_
          refine kw_iconst dX7_readsItem_198 ⟨by decide, by decide⟩ ?_
          refine kw_icmp_ne (tgt := 204) dX7_readsItem_199 (by decide) (kt := fun h4 => absurd h4 (by omega)) (kf := fun h4 => ?_)
          refine kw_iconst dX7_readsItem_202 ⟨by decide, by decide⟩ ?_
          exact kv_rbE dX7_readsItem_203 rfl (if_neg (by rw [hG]; decide)).symm ⟨_, rfl, mR_no (mKq_a mKq_rf) hG⟩
        · have hG : xG tx n p (f 48) = true := xG_i.mpr ⟨hI, fun y => by omega, fun y => by omega⟩
          refine kw_iload_n dX7_readsItem_0 rfl ?_
          refine kw_look (off := 139) (tgt := 140) dX7_readsItem_1 (by decide) rfl (by decide) ?_
          refine kw_aload_n dX7_readsItem_140 rfl ?_
          refine kw_iconst dX7_readsItem_141 ⟨by decide, by decide⟩ ?_
          refine kw_bipush dX7_readsItem_142 (by decide) (by decide) ?_
          refine kw_bipush dX7_readsItem_144 (by decide) (by decide) ?_
          refine kv_callV1 (M2 := M_X7_number) (As := [kI (1), kI (20), kI (44)]) dX7_readsItem_146 ml_X7_73 q_X7_number rfl rfl rfl (Nat.le_of_ble_eq_true rfl) (show kF E 2 M_X7_number [kA 45, kI 1, kI 20, kI 44] ((kMC ++ kMM), kst (k_u f 45 10 (p + 1)) 50 s, g) (some (kI (xV tx n (p + 1)))) ((kMC ++ kMM), kst (k_u f 45 10 (x2 tx n p)) 50 s, g) from c_mnum_t hm hx (by omega) z0) (by omega) ?_
          have w0 := xV_rng (xO_i.mp z0).1
          have u0 := (xO_i.mp z0).2.2
          refine kw_istore_n dX7_readsItem_149 (by decide) trivial (L2 := [some (kA (45)), some (kI (116)), some (kI (xV tx n (p + 1))), none, none, none]) rfl ?_
          refine kw_iload_n dX7_readsItem_150 rfl ?_
          refine kw_if_ge (tgt := 158) dX7_readsItem_151 (by decide) (kf := fun h1 => absurd h1 (by omega)) (kt := fun h1 => ?_)
          refine kw_aload_n dX7_readsItem_158 rfl ?_
          refine kw_iconst dX7_readsItem_159 ⟨by decide, by decide⟩ ?_
          refine kw_bipush dX7_readsItem_160 (by decide) (by decide) ?_
          refine kw_bipush dX7_readsItem_162 (by decide) (by decide) ?_
          refine kv_callV1 (M2 := M_X7_number) (As := [kI (1), kI (40), kI (44)]) dX7_readsItem_164 ml_X7_73 q_X7_number rfl rfl rfl (Nat.le_of_ble_eq_true rfl) (show kF E 2 M_X7_number [kA 45, kI 1, kI 40, kI 44] ((kMC ++ kMM), kst (k_u f 45 10 (x2 tx n p)) 50 s, g) (some (kI (xV tx n (x2 tx n p)))) ((kMC ++ kMM), kst (k_u f 45 10 (x3 tx n p)) 50 s, g) from c_mnum_t hm hx (by omega) z1) (by omega) ?_
          have w1 := xV_rng (xO_i.mp z1).1
          have u1 := (xO_i.mp z1).2.2
          refine kw_istore_n dX7_readsItem_167 (by decide) trivial (L2 := [some (kA (45)), some (kI (116)), some (kI (xV tx n (p + 1))), some (kI (xV tx n (x2 tx n p))), none, none]) rfl ?_
          refine kw_iload_n dX7_readsItem_168 rfl ?_
          refine kw_if_ge (tgt := 176) dX7_readsItem_169 (by decide) (kf := fun h2 => absurd h2 (by omega)) (kt := fun h2 => ?_)
          refine kw_aload_n dX7_readsItem_176 rfl ?_
          refine kw_iconst dX7_readsItem_177 ⟨by decide, by decide⟩ ?_
          refine kw_bipush dX7_readsItem_178 (by decide) (by decide) ?_
          refine kw_bipush dX7_readsItem_180 (by decide) (by decide) ?_
          refine kv_callV1 (M2 := M_X7_number) (As := [kI (1), kI (60), kI (59)]) dX7_readsItem_182 ml_X7_73 q_X7_number rfl rfl rfl (Nat.le_of_ble_eq_true rfl) (show kF E 2 M_X7_number [kA 45, kI 1, kI 60, kI 59] ((kMC ++ kMM), kst (k_u f 45 10 (x3 tx n p)) 50 s, g) (some (kI (xV tx n (x3 tx n p)))) ((kMC ++ kMM), kst (k_u f 45 10 (x4 tx n p)) 50 s, g) from c_mnum_t hm hx (by omega) z2) (by omega) ?_
          have w2 := xV_rng (xO_i.mp z2).1
          have u2 := (xO_i.mp z2).2.2
          refine kw_istore dX7_readsItem_185 (by decide) trivial (L2 := [some (kA (45)), some (kI (116)), some (kI (xV tx n (p + 1))), some (kI (xV tx n (x2 tx n p))), some (kI (xV tx n (x3 tx n p))), none]) rfl ?_
          refine kw_iload dX7_readsItem_187 rfl ?_
          refine kw_if_lt (tgt := 202) dX7_readsItem_189 (by decide) (kt := fun h3 => absurd h3 (by omega)) (kf := fun h3 => ?_)
          refine kw_aload_n dX7_readsItem_192 rfl ?_
          refine kv_getR (b := 48) dX7_readsItem_193 kf_X7_16 rfl rfl rfl (hm (45, 3, 48) (by decide)) ?_
          refine kw_iconst dX7_readsItem_196 ⟨by decide, by decide⟩ ?_
          refine kv_iald dX7_readsItem_197 rfl (by omega) (by omega) ((congrFun (kst_ne (by decide)) _).trans (k_u_ne2 (by decide))) ?_
          refine kw_iconst dX7_readsItem_198 ⟨by decide, by decide⟩ ?_
          refine kw_icmp_ne (tgt := 204) dX7_readsItem_199 (by decide) (kf := fun h4 => absurd h4 (by omega)) (kt := fun h4 => ?_)
          refine kw_aload_n dX7_readsItem_204 rfl ?_
          refine kw_iload_n dX7_readsItem_205 rfl ?_
          refine kw_iload_n dX7_readsItem_206 rfl ?_
          refine kw_iload dX7_readsItem_207 rfl ?_
          refine kv_callV0 (M2 := M_X7_tenantOf) (As := [kI (xV tx n (p + 1)), kI (xV tx n (x2 tx n p)), kI (xV tx n (x3 tx n p))]) dX7_readsItem_209 ml_X7_47 q_X7_tenantOf rfl rfl rfl (Nat.le_of_ble_eq_true rfl) (c_mtn hm (by rw [k_u_ne (by decide)]; omega)) (by omega) ?_
          refine kw_iconst dX7_readsItem_212 ⟨by decide, by decide⟩ ?_
          exact kv_rbE dX7_readsItem_213 rfl (if_pos hG).symm ⟨_, rfl, (mKq_tn (mKq_a mKq_rf)), fun _ => ⟨kTn_48.trans (by rw [k_u_off (by decide)]; exact ((if_neg (by omega)).trans (if_pos hcc)).symm), kTn_49.trans (by rw [k_u_off (by decide), k_u_off (by decide)]; exact ((if_neg (by omega)).trans (if_pos hcc)).symm), (congrFun (kTn_o (by decide)) 10).trans (k_u_self.trans en.symm)⟩⟩
theorem c_mi_k {E : kEnv} {f : Nat → Int → Int} {s : Int → Int} {g : Nat → Int → Option Nat} {tx : Int → Int} {n : Int} {p : Int} (hm : kGM g) (hx : kTm tx n f) (hp : 0 ≤ p ∧ p < n) (hc : tx p = 107) (h10 : f 45 10 = p + 1) (hT : mTp (f 48)) : kFE E 3 M_X7_readsItem [kA 45, kI 107] ((kMC ++ kMM), kst f 50 s, g) (some (kI (if xG tx n p (f 48) = true then 1 else 0))) (kMC ++ kMM) (fun F => ∃ f2, F = kst f2 50 s ∧ mR tx n p f f2) g := by
  refine kFE_of (by decide) (by simp [k_one]) (Nat.le_of_ble_eq_true rfl) (L := [some (kA (45)), some (kI (107)), none, none, none, none]) rfl ?_
  have hn := hx.1
  have t0 := hT.1
  have t1 := hT.2.1
  have lp : xL tx n p = tx p := if_pos hp.2
  have g0 := xE_gt (tx := tx) (n := n) (p := (p + 1))
  have g1 := xE_gt (tx := tx) (n := n) (p := (xE tx n (p + 1)))
  have y2 : x2 tx n p = xE tx n (p + 1) := rfl
  have y3 : x3 tx n p = xE tx n (xE tx n (p + 1)) := rfl
  have y4 : x4 tx n p = xE tx n (xE tx n (xE tx n (p + 1))) := rfl
  have hcc : xL tx n p = 107 := by rw [lp, hc]
  have ei : xI tx n p = (xO tx n 1 20 44 (p + 1) && xO tx n 1 9 59 (x2 tx n p)) := (if_neg (by omega)).trans ((if_neg (by omega)).trans (if_pos hcc))
  have en : xN tx n p = x3 tx n p := (if_neg (by omega)).trans ((if_neg (by omega)).trans (if_pos hcc))
  rw [show kst f 50 s = kst (k_u f 45 10 (p + 1)) 50 s by rw [k_u_same h10]]
  cases z0 : xO tx n 1 20 44 (p + 1)
  · have hG : xG tx n p (f 48) = false := xG_no (by rw [ei, z0]; simp)
    refine kw_iload_n dX7_readsItem_0 rfl ?_
    refine kw_look (off := 213) (tgt := 214) dX7_readsItem_1 (by decide) rfl (by decide) ?_
    refine kw_aload_n dX7_readsItem_214 rfl ?_
    refine kw_iconst dX7_readsItem_215 ⟨by decide, by decide⟩ ?_
    refine kw_bipush dX7_readsItem_216 (by decide) (by decide) ?_
    refine kw_bipush dX7_readsItem_218 (by decide) (by decide) ?_
    refine kv_callV1 (M2 := M_X7_number) (As := [kI (1), kI (20), kI (44)]) dX7_readsItem_220 ml_X7_73 q_X7_number rfl rfl rfl (Nat.le_of_ble_eq_true rfl) (show kF E 2 M_X7_number [kA 45, kI 1, kI 20, kI 44] ((kMC ++ kMM), kst (k_u f 45 10 (p + 1)) 50 s, g) (some (kI (-1))) ((kMC ++ kMM), kst (k_u f 45 10 (xA tx n (p + 1))) 50 s, g) from c_mnum_f hm hx (by omega) z0) (by omega) ?_
    refine kw_istore_n dX7_readsItem_223 (by decide) trivial (L2 := [some (kA (45)), some (kI (107)), some (kI (-1)), none, none, none]) rfl ?_
    refine kw_iload_n dX7_readsItem_224 rfl ?_
    refine kw_if_ge (tgt := 232) dX7_readsItem_225 (by decide) (kt := fun h => absurd h (by decide)) (kf := fun _ => ?_)
    refine kw_iconst dX7_readsItem_228 ⟨by decide, by decide⟩ ?_
    refine kw_goto (tgt := 241) dX7_readsItem_229 (by decide) ?_
    refine kw_istore_n dX7_readsItem_241 (by decide) trivial (L2 := [some (kA (45)), some (kI (107)), some (kI (-1)), some (kI (-1)), none, none]) rfl ?_
    refine kw_aload_n dX7_readsItem_242 rfl ?_
    refine kv_getR (b := 48) dX7_readsItem_243 kf_X7_16 rfl rfl rfl (hm (45, 3, 48) (by decide)) ?_
    refine kw_iconst dX7_readsItem_246 ⟨by decide, by decide⟩ ?_
    refine kw_iload_n dX7_readsItem_247 rfl ?_
    refine kv_iast dX7_readsItem_248 rfl (by omega) (by omega) ?_
    rw [kst_uc (by decide)]
    refine kw_aload_n dX7_readsItem_249 rfl ?_
    refine kv_getR (b := 48) dX7_readsItem_250 kf_X7_16 rfl rfl rfl (hm (45, 3, 48) (by decide)) ?_
    refine kw_iconst dX7_readsItem_253 ⟨by decide, by decide⟩ ?_
    refine kw_iload_n dX7_readsItem_254 rfl ?_
    refine kv_iast dX7_readsItem_255 rfl (by omega) (by omega) ?_
    rw [kst_uc (by decide)]
    refine kw_iload_n dX7_readsItem_256 rfl ?_
    refine kw_if_le (tgt := 264) dX7_readsItem_257 (by decide) (kf := fun h => absurd (by decide) h) (kt := fun _ => ?_)
    refine kw_iconst dX7_readsItem_264 ⟨by decide, by decide⟩ ?_
    exact kv_rbE dX7_readsItem_265 rfl (if_neg (by rw [hG]; decide)).symm ⟨_, rfl, mR_no (mKq_8 (mKq_8 (mKq_a mKq_rf))) hG⟩
  · have hI : True := trivial
    cases z1 : xO tx n 1 9 59 (x2 tx n p)
    · have hG : xG tx n p (f 48) = false := xG_no (by rw [ei, z0, z1]; simp)
      refine kw_iload_n dX7_readsItem_0 rfl ?_
      refine kw_look (off := 213) (tgt := 214) dX7_readsItem_1 (by decide) rfl (by decide) ?_
      refine kw_aload_n dX7_readsItem_214 rfl ?_
      refine kw_iconst dX7_readsItem_215 ⟨by decide, by decide⟩ ?_
      refine kw_bipush dX7_readsItem_216 (by decide) (by decide) ?_
      refine kw_bipush dX7_readsItem_218 (by decide) (by decide) ?_
      refine kv_callV1 (M2 := M_X7_number) (As := [kI (1), kI (20), kI (44)]) dX7_readsItem_220 ml_X7_73 q_X7_number rfl rfl rfl (Nat.le_of_ble_eq_true rfl) (show kF E 2 M_X7_number [kA 45, kI 1, kI 20, kI 44] ((kMC ++ kMM), kst (k_u f 45 10 (p + 1)) 50 s, g) (some (kI (xV tx n (p + 1)))) ((kMC ++ kMM), kst (k_u f 45 10 (x2 tx n p)) 50 s, g) from c_mnum_t hm hx (by omega) z0) (by omega) ?_
      have w0 := xV_rng (xO_i.mp z0).1
      have u0 := (xO_i.mp z0).2.2
      refine kw_istore_n dX7_readsItem_223 (by decide) trivial (L2 := [some (kA (45)), some (kI (107)), some (kI (xV tx n (p + 1))), none, none, none]) rfl ?_
      refine kw_iload_n dX7_readsItem_224 rfl ?_
      refine kw_if_ge (tgt := 232) dX7_readsItem_225 (by decide) (kf := fun h1 => absurd h1 (by omega)) (kt := fun h1 => ?_)
      refine kw_aload_n dX7_readsItem_232 rfl ?_
      refine kw_iconst dX7_readsItem_233 ⟨by decide, by decide⟩ ?_
      refine kw_bipush dX7_readsItem_234 (by decide) (by decide) ?_
      refine kw_bipush dX7_readsItem_236 (by decide) (by decide) ?_
      refine kv_callV1 (M2 := M_X7_number) (As := [kI (1), kI (9), kI (59)]) dX7_readsItem_238 ml_X7_73 q_X7_number rfl rfl rfl (Nat.le_of_ble_eq_true rfl) (show kF E 2 M_X7_number [kA 45, kI 1, kI 9, kI 59] ((kMC ++ kMM), kst (k_u f 45 10 (x2 tx n p)) 50 s, g) (some (kI (-1))) ((kMC ++ kMM), kst (k_u f 45 10 (xA tx n (x2 tx n p))) 50 s, g) from c_mnum_f hm hx (by omega) z1) (by omega) ?_
      refine kw_istore_n dX7_readsItem_241 (by decide) trivial (L2 := [some (kA (45)), some (kI (107)), some (kI (xV tx n (p + 1))), some (kI (-1)), none, none]) rfl ?_
      refine kw_aload_n dX7_readsItem_242 rfl ?_
      refine kv_getR (b := 48) dX7_readsItem_243 kf_X7_16 rfl rfl rfl (hm (45, 3, 48) (by decide)) ?_
      refine kw_iconst dX7_readsItem_246 ⟨by decide, by decide⟩ ?_
      refine kw_iload_n dX7_readsItem_247 rfl ?_
      refine kv_iast dX7_readsItem_248 rfl (by omega) (by omega) ?_
      rw [kst_uc (by decide)]
      refine kw_aload_n dX7_readsItem_249 rfl ?_
      refine kv_getR (b := 48) dX7_readsItem_250 kf_X7_16 rfl rfl rfl (hm (45, 3, 48) (by decide)) ?_
      refine kw_iconst dX7_readsItem_253 ⟨by decide, by decide⟩ ?_
      refine kw_iload_n dX7_readsItem_254 rfl ?_
      refine kv_iast dX7_readsItem_255 rfl (by omega) (by omega) ?_
      rw [kst_uc (by decide)]
      refine kw_iload_n dX7_readsItem_256 rfl ?_
      refine kw_if_le (tgt := 264) dX7_readsItem_257 (by decide) (kf := fun h => absurd (by decide) h) (kt := fun _ => ?_)
      refine kw_iconst dX7_readsItem_264 ⟨by decide, by decide⟩ ?_
      exact kv_rbE dX7_readsItem_265 rfl (if_neg (by rw [hG]; decide)).symm ⟨_, rfl, mR_no (mKq_8 (mKq_8 (mKq_a mKq_rf))) hG⟩
    · have hI : True := trivial
      have hI : xI tx n p = true := by rw [ei, z0, z1]; rfl
      have hG : xG tx n p (f 48) = true := xG_i.mpr ⟨hI, fun y => by omega, fun y => by omega⟩
      refine kw_iload_n dX7_readsItem_0 rfl ?_
      refine kw_look (off := 213) (tgt := 214) dX7_readsItem_1 (by decide) rfl (by decide) ?_
      refine kw_aload_n dX7_readsItem_214 rfl ?_
      refine kw_iconst dX7_readsItem_215 ⟨by decide, by decide⟩ ?_
      refine kw_bipush dX7_readsItem_216 (by decide) (by decide) ?_
      refine kw_bipush dX7_readsItem_218 (by decide) (by decide) ?_
      refine kv_callV1 (M2 := M_X7_number) (As := [kI (1), kI (20), kI (44)]) dX7_readsItem_220 ml_X7_73 q_X7_number rfl rfl rfl (Nat.le_of_ble_eq_true rfl) (show kF E 2 M_X7_number [kA 45, kI 1, kI 20, kI 44] ((kMC ++ kMM), kst (k_u f 45 10 (p + 1)) 50 s, g) (some (kI (xV tx n (p + 1)))) ((kMC ++ kMM), kst (k_u f 45 10 (x2 tx n p)) 50 s, g) from c_mnum_t hm hx (by omega) z0) (by omega) ?_
      have w0 := xV_rng (xO_i.mp z0).1
      have u0 := (xO_i.mp z0).2.2
      refine kw_istore_n dX7_readsItem_223 (by decide) trivial (L2 := [some (kA (45)), some (kI (107)), some (kI (xV tx n (p + 1))), none, none, none]) rfl ?_
      refine kw_iload_n dX7_readsItem_224 rfl ?_
      refine kw_if_ge (tgt := 232) dX7_readsItem_225 (by decide) (kf := fun h1 => absurd h1 (by omega)) (kt := fun h1 => ?_)
      refine kw_aload_n dX7_readsItem_232 rfl ?_
      refine kw_iconst dX7_readsItem_233 ⟨by decide, by decide⟩ ?_
      refine kw_bipush dX7_readsItem_234 (by decide) (by decide) ?_
      refine kw_bipush dX7_readsItem_236 (by decide) (by decide) ?_
      refine kv_callV1 (M2 := M_X7_number) (As := [kI (1), kI (9), kI (59)]) dX7_readsItem_238 ml_X7_73 q_X7_number rfl rfl rfl (Nat.le_of_ble_eq_true rfl) (show kF E 2 M_X7_number [kA 45, kI 1, kI 9, kI 59] ((kMC ++ kMM), kst (k_u f 45 10 (x2 tx n p)) 50 s, g) (some (kI (xV tx n (x2 tx n p)))) ((kMC ++ kMM), kst (k_u f 45 10 (x3 tx n p)) 50 s, g) from c_mnum_t hm hx (by omega) z1) (by omega) ?_
      have w1 := xV_rng (xO_i.mp z1).1
      have u1 := (xO_i.mp z1).2.2
      refine kw_istore_n dX7_readsItem_241 (by decide) trivial (L2 := [some (kA (45)), some (kI (107)), some (kI (xV tx n (p + 1))), some (kI (xV tx n (x2 tx n p))), none, none]) rfl ?_
      refine kw_aload_n dX7_readsItem_242 rfl ?_
      refine kv_getR (b := 48) dX7_readsItem_243 kf_X7_16 rfl rfl rfl (hm (45, 3, 48) (by decide)) ?_
      refine kw_iconst dX7_readsItem_246 ⟨by decide, by decide⟩ ?_
      refine kw_iload_n dX7_readsItem_247 rfl ?_
      refine kv_iast dX7_readsItem_248 rfl (by omega) (by omega) ?_
      rw [kst_uc (by decide)]
      refine kw_aload_n dX7_readsItem_249 rfl ?_
      refine kv_getR (b := 48) dX7_readsItem_250 kf_X7_16 rfl rfl rfl (hm (45, 3, 48) (by decide)) ?_
      refine kw_iconst dX7_readsItem_253 ⟨by decide, by decide⟩ ?_
      refine kw_iload_n dX7_readsItem_254 rfl ?_
      refine kv_iast dX7_readsItem_255 rfl (by omega) (by omega) ?_
      rw [kst_uc (by decide)]
      refine kw_iload_n dX7_readsItem_256 rfl ?_
      refine kw_if_le (tgt := 264) dX7_readsItem_257 (by decide) (kt := fun h2 => absurd h2 (by omega)) (kf := fun h2 => ?_)
      refine kw_iconst dX7_readsItem_260 ⟨by decide, by decide⟩ ?_
      refine kw_goto (tgt := 265) dX7_readsItem_261 (by decide) ?_
      exact kv_rbE dX7_readsItem_265 rfl (if_pos hG).symm ⟨_, rfl, (mKq_8 (mKq_8 (mKq_a mKq_rf))), fun _ => ⟨by rw [k_u_row, k_u_row, k_u_off (by decide)]; exact ((if_neg (by omega)).trans ((if_neg (by omega)).trans (if_pos hcc))).symm, by rw [k_u_off (by decide), k_u_off (by decide), k_u_off (by decide)]; exact ((if_neg (by omega)).trans (if_neg (by omega))).symm, (k_u_ne (by decide)).trans ((k_u_ne (by decide)).trans (k_u_self.trans en.symm))⟩⟩
theorem c_mi_f {E : kEnv} {f : Nat → Int → Int} {s : Int → Int} {g : Nat → Int → Option Nat} {tx : Int → Int} {n : Int} {p : Int} (hm : kGM g) (hx : kTm tx n f) (hp : 0 ≤ p ∧ p < n) (hc : tx p = 102) (h10 : f 45 10 = p + 1) (hT : mTp (f 48)) : kFE E 3 M_X7_readsItem [kA 45, kI 102] ((kMC ++ kMM), kst f 50 s, g) (some (kI (if xG tx n p (f 48) = true then 1 else 0))) (kMC ++ kMM) (fun F => ∃ f2, F = kst f2 50 s ∧ mR tx n p f f2) g := by
  refine kFE_of (by decide) (by simp [k_one]) (Nat.le_of_ble_eq_true rfl) (L := [some (kA (45)), some (kI (102)), none, none, none, none]) rfl ?_
  have hn := hx.1
  have t0 := hT.1
  have t1 := hT.2.1
  have lp : xL tx n p = tx p := if_pos hp.2
  have g0 := xE_gt (tx := tx) (n := n) (p := (p + 1))
  have y2 : x2 tx n p = xE tx n (p + 1) := rfl
  have y3 : x3 tx n p = xE tx n (xE tx n (p + 1)) := rfl
  have y4 : x4 tx n p = xE tx n (xE tx n (xE tx n (p + 1))) := rfl
  have hcc : xL tx n p = 102 := by rw [lp, hc]
  have ei : xI tx n p = (xO tx n 1 30 59 (p + 1)) := (if_neg (by omega)).trans ((if_neg (by omega)).trans ((if_neg (by omega)).trans (if_pos hcc)))
  have en : xN tx n p = x2 tx n p := (if_neg (by omega)).trans ((if_neg (by omega)).trans (if_neg (by omega)))
  rw [show kst f 50 s = kst (k_u f 45 10 (p + 1)) 50 s by rw [k_u_same h10]]
  cases z0 : xO tx n 1 30 59 (p + 1)
  · have hG : xG tx n p (f 48) = false := xG_no (by rw [ei, z0])
    refine kw_iload_n dX7_readsItem_0 rfl ?_
    refine kw_look (off := 265) (tgt := 266) dX7_readsItem_1 (by decide) rfl (by decide) ?_
    refine kw_aload_n dX7_readsItem_266 rfl ?_
    refine kv_getR (b := 48) dX7_readsItem_267 kf_X7_16 rfl rfl rfl (hm (45, 3, 48) (by decide)) ?_
    refine kw_iconst dX7_readsItem_270 ⟨by decide, by decide⟩ ?_
    refine kw_aload_n dX7_readsItem_271 rfl ?_
    refine kw_iconst dX7_readsItem_272 ⟨by decide, by decide⟩ ?_
    refine kw_bipush dX7_readsItem_273 (by decide) (by decide) ?_
    refine kw_bipush dX7_readsItem_275 (by decide) (by decide) ?_
    refine kv_callV1 (M2 := M_X7_number) (As := [kI (1), kI (30), kI (59)]) dX7_readsItem_277 ml_X7_73 q_X7_number rfl rfl rfl (Nat.le_of_ble_eq_true rfl) (show kF E 2 M_X7_number [kA 45, kI 1, kI 30, kI 59] ((kMC ++ kMM), kst (k_u f 45 10 (p + 1)) 50 s, g) (some (kI (-1))) ((kMC ++ kMM), kst (k_u f 45 10 (xA tx n (p + 1))) 50 s, g) from c_mnum_f hm hx (by omega) z0) (by omega) ?_
    refine kv_iast dX7_readsItem_280 rfl (by omega) (by omega) ?_
    rw [kst_uc (by decide)]
    refine kw_aload_n dX7_readsItem_281 rfl ?_
    refine kv_getR (b := 48) dX7_readsItem_282 kf_X7_16 rfl rfl rfl (hm (45, 3, 48) (by decide)) ?_
    refine kw_iconst dX7_readsItem_285 ⟨by decide, by decide⟩ ?_
    refine kv_iald dX7_readsItem_286 rfl (by omega) (by omega) ((congrFun (kst_ne (by decide)) _).trans (k_u_self)) ?_
    refine kw_if_le (tgt := 294) dX7_readsItem_287 (by decide) (kf := fun h => absurd (by decide) h) (kt := fun _ => ?_)
    refine kw_iconst dX7_readsItem_294 ⟨by decide, by decide⟩ ?_
    exact kv_rbE dX7_readsItem_295 rfl (if_neg (by rw [hG]; decide)).symm ⟨_, rfl, mR_no (mKq_8 (mKq_a mKq_rf)) hG⟩
  · have hI : True := trivial
    have hI : xI tx n p = true := by rw [ei, z0]
    have hG : xG tx n p (f 48) = true := xG_i.mpr ⟨hI, fun y => by omega, fun y => by omega⟩
    refine kw_iload_n dX7_readsItem_0 rfl ?_
    refine kw_look (off := 265) (tgt := 266) dX7_readsItem_1 (by decide) rfl (by decide) ?_
    refine kw_aload_n dX7_readsItem_266 rfl ?_
    refine kv_getR (b := 48) dX7_readsItem_267 kf_X7_16 rfl rfl rfl (hm (45, 3, 48) (by decide)) ?_
    refine kw_iconst dX7_readsItem_270 ⟨by decide, by decide⟩ ?_
    refine kw_aload_n dX7_readsItem_271 rfl ?_
    refine kw_iconst dX7_readsItem_272 ⟨by decide, by decide⟩ ?_
    refine kw_bipush dX7_readsItem_273 (by decide) (by decide) ?_
    refine kw_bipush dX7_readsItem_275 (by decide) (by decide) ?_
    refine kv_callV1 (M2 := M_X7_number) (As := [kI (1), kI (30), kI (59)]) dX7_readsItem_277 ml_X7_73 q_X7_number rfl rfl rfl (Nat.le_of_ble_eq_true rfl) (show kF E 2 M_X7_number [kA 45, kI 1, kI 30, kI 59] ((kMC ++ kMM), kst (k_u f 45 10 (p + 1)) 50 s, g) (some (kI (xV tx n (p + 1)))) ((kMC ++ kMM), kst (k_u f 45 10 (x2 tx n p)) 50 s, g) from c_mnum_t hm hx (by omega) z0) (by omega) ?_
    have w0 := xV_rng (xO_i.mp z0).1
    have u0 := (xO_i.mp z0).2.2
    refine kv_iast dX7_readsItem_280 rfl (by omega) (by omega) ?_
    rw [kst_uc (by decide)]
    refine kw_aload_n dX7_readsItem_281 rfl ?_
    refine kv_getR (b := 48) dX7_readsItem_282 kf_X7_16 rfl rfl rfl (hm (45, 3, 48) (by decide)) ?_
    refine kw_iconst dX7_readsItem_285 ⟨by decide, by decide⟩ ?_
    refine kv_iald dX7_readsItem_286 rfl (by omega) (by omega) ((congrFun (kst_ne (by decide)) _).trans (k_u_self)) ?_
    refine kw_if_le (tgt := 294) dX7_readsItem_287 (by decide) (kt := fun h1 => absurd h1 (by omega)) (kf := fun h1 => ?_)
    refine kw_iconst dX7_readsItem_290 ⟨by decide, by decide⟩ ?_
    refine kw_goto (tgt := 295) dX7_readsItem_291 (by decide) ?_
    exact kv_rbE dX7_readsItem_295 rfl (if_pos hG).symm ⟨_, rfl, (mKq_8 (mKq_a mKq_rf)), fun _ => ⟨by rw [k_u_row, k_u_off (by decide)]; exact ((if_neg (by omega)).trans ((if_neg (by omega)).trans (if_neg (by omega)))).symm, by rw [k_u_off (by decide), k_u_off (by decide)]; exact ((if_neg (by omega)).trans (if_neg (by omega))).symm, (k_u_ne (by decide)).trans (k_u_self.trans en.symm)⟩⟩
theorem c_mitem {E : kEnv} {f : Nat → Int → Int} {s : Int → Int} {g : Nat → Int → Option Nat} {tx : Int → Int} {n : Int} {p : Int} (hm : kGM g) (hx : kTm tx n f) (hp : 0 ≤ p ∧ p < n) (h10 : f 45 10 = p + 1) (hT : mTp (f 48)) : kFE E 3 M_X7_readsItem [kA 45, kI (tx p)] ((kMC ++ kMM), kst f 50 s, g) (some (kI (if xG tx n p (f 48) = true then 1 else 0))) (kMC ++ kMM) (fun F => ∃ f2, F = kst f2 50 s ∧ mR tx n p f f2) g := by
  have lp : xL tx n p = tx p := if_pos hp.2
  by_cases c1 : tx p = 98
  · rw [c1]; exact c_mi_b hm hx hp c1 h10 hT
  by_cases c2 : tx p = 116
  · rw [c2]; exact c_mi_t hm hx hp c2 h10 hT
  by_cases c3 : tx p = 107
  · rw [c3]; exact c_mi_k hm hx hp c3 h10 hT
  by_cases c4 : tx p = 102
  · rw [c4]; exact c_mi_f hm hx hp c4 h10 hT
  have e2 : xI tx n p = false := by unfold xI; rw [lp, if_neg c1, if_neg c2, if_neg c3, if_neg c4]
  have hG : xG tx n p (f 48) = false := xG_no e2
  refine kFE_of (by decide) (by simp [k_one]) (Nat.le_of_ble_eq_true rfl) (L := [some (kA 45), some (kI (tx p)), none, none, none, none]) rfl ?_
  refine kw_iload_n dX7_readsItem_0 rfl ?_
  refine kw_look (off := 295) (tgt := 296) dX7_readsItem_1 (by decide) (by simp [Op.lookupswitch.offset]; repeat rw [if_neg (by omega)]) (by decide) ?_
  refine kw_iconst dX7_readsItem_296 ⟨by decide, by decide⟩ ?_
  exact kv_rbE dX7_readsItem_297 rfl (if_neg (by rw [hG]; decide)).symm ⟨_, rfl, mR_no mKq_rf hG⟩
