/-! the model: what it keeps -/
def kMv (f : Nat → Int → Int) (k : Int) : Nat → Int → Int := fun b j => if b = 51 ∧ 0 ≤ j ∧ j < k then f 51 (j + 29) else f b j
theorem kMv_0 {f : Nat → Int → Int} : kMv f 0 = f := by
  funext b j
  exact if_neg (by omega)
theorem kMv_s {f : Nat → Int → Int} {k : Int} (h : 0 ≤ k) : k_u (kMv f k) 51 k (kMv f k 51 (k + 29)) = kMv f (k + 1) := by
  have e : kMv f k 51 (k + 29) = f 51 (k + 29) := if_neg (by omega)
  rw [e]
  funext b j
  by_cases q : b = 51 ∧ j = k
  · rw [q.1, q.2, k_u_self]; exact (if_pos (by omega)).symm
  · have e2 : k_u (kMv f k) 51 k (f 51 (k + 29)) b j = kMv f k b j := if_neg q
    rw [e2]
    unfold kMv
    by_cases q2 : b = 51 ∧ 0 ≤ j ∧ j < k
    · exact (if_pos q2).trans (if_pos (by omega)).symm
    · exact (if_neg q2).trans (if_neg (by omega)).symm
/-- the row s put at c of a, its first k -/
def kPu (f : Nat → Int → Int) (s : Int → Int) (a : Nat) (c k : Int) : Nat → Int → Int := fun b j => if b = a ∧ c ≤ j ∧ j < c + k then s (j - c) else f b j
theorem kPu_0 {f : Nat → Int → Int} {s : Int → Int} {a : Nat} {c : Int} : kPu f s a c 0 = f := by
  funext b j
  exact if_neg (by omega)
theorem kPu_s {f : Nat → Int → Int} {s : Int → Int} {a : Nat} {c k : Int} (h : 0 ≤ k) : k_u (kPu f s a c k) a (c + k) (s k) = kPu f s a c (k + 1) := by
  funext b j
  by_cases q : b = a ∧ j = c + k
  · rw [q.1, q.2, k_u_self]
    have z : kPu f s a c (k + 1) a (c + k) = s (c + k - c) := if_pos (by omega)
    rw [z, show c + k - c = k by omega]
  · have e2 : k_u (kPu f s a c k) a (c + k) (s k) b j = kPu f s a c k b j := if_neg q
    rw [e2]
    unfold kPu
    by_cases q2 : b = a ∧ c ≤ j ∧ j < c + k
    · exact (if_pos q2).trans (if_pos (by omega)).symm
    · exact (if_neg q2).trans (if_neg (by omega)).symm
/-- the row t, its first k those at c of a -/
def kGt (t : Int → Int) (f : Nat → Int → Int) (a : Nat) (c k : Int) : Int → Int := fun j => if 0 ≤ j ∧ j < k then f a (c + j) else t j
theorem kGt_0 {t : Int → Int} {f : Nat → Int → Int} {a : Nat} {c : Int} : kGt t f a c 0 = t := by
  funext j
  exact if_neg (by omega)
theorem kGt_s {t : Int → Int} {f : Nat → Int → Int} {a : Nat} {c k : Int} (h : 0 ≤ k) : upi (kGt t f a c k) k (f a (c + k)) = kGt t f a c (k + 1) := by
  funext j
  by_cases q : j = k
  · rw [q, upi_self]; exact (if_pos (by omega)).symm
  · rw [upi_ne q]
    unfold kGt
    by_cases q2 : 0 ≤ j ∧ j < k
    · exact (if_pos q2).trans (if_pos (by omega)).symm
    · exact (if_neg q2).trans (if_neg (by omega)).symm
def kKp (f : Nat → Int → Int) (s : Int → Int) (n : Int) : Nat → Int → Int := k_u (kPu f s 51 (29 * n) 29) 45 7 (n + 1)
def kKe (f : Nat → Int → Int) (s : Int → Int) : Nat → Int → Int := if f 45 7 = 8 then kKp (k_u (kMv f 203) 45 7 7) s 7 else kKp f s (f 45 7)
theorem l_mmv {E : kEnv} {f : Nat → Int → Int} {s : Int → Int} {g : Nat → Int → Option Nat} {d : Nat}  {Q : Option kV → kH → Prop} (hm : kGM g)  (hx : kW E d 0 0 M_X7_keeps 39 [some (kA (45)), some (kI (203))] [] ((kMC ++ kMM), kst (kMv f 203) 50 s, g) Q) : ∀ (n : Nat) (k : Int), (0 ≤ k ∧ k ≤ 203) → (203 - k).toNat < n → kW E d 0 0 M_X7_keeps 11 [some (kA (45)), some (kI (k))] [] ((kMC ++ kMM), kst ((kMv f k)) 50 s, g) Q := by
  intro n
  induction n with
  | zero => intro k _ q; omega
  | succ n ih =>
    intro k y0 y1
    refine kw_iload_n dX7_keeps_11 rfl ?_
    refine kw_sipush dX7_keeps_12 (by decide) (by decide) ?_
    refine kw_icmp_ge (tgt := 39) dX7_keeps_15 (by decide) (fun h1 => ?_) (fun h1 => ?_)
    · have e1 : k = 203 := by omega
      subst e1
      exact hx
    · refine kw_aload_n dX7_keeps_18 rfl ?_
      refine kv_getR (b := 51) dX7_keeps_19 kf_X7_25 rfl rfl rfl (hm (45, 6, 51) (by decide)) ?_
      refine kw_iload_n dX7_keeps_22 rfl ?_
      refine kw_aload_n dX7_keeps_23 rfl ?_
      refine kv_getR (b := 51) dX7_keeps_24 kf_X7_25 rfl rfl rfl (hm (45, 6, 51) (by decide)) ?_
      refine kw_iload_n dX7_keeps_27 rfl ?_
      refine kw_bipush dX7_keeps_28 (by decide) (by decide) ?_
      refine kw_iadd dX7_keeps_30 ⟨by omega, by omega⟩ ?_
      refine kv_iald dX7_keeps_31 rfl (by omega) (by omega) (congrFun (kst_ne (by decide)) _) ?_
      refine kv_iast dX7_keeps_32 rfl (by omega) (by omega) ?_
      rw [kst_uc (by decide)]
      refine kw_iinc dX7_keeps_33 (by decide) rfl ⟨by omega, by omega⟩ trivial (L2 := [some (kA (45)), some (kI (k + 1))]) rfl ?_
      refine kw_goto (tgt := 11) dX7_keeps_36 (by decide) ?_
      rw [kMv_s y0.1]
      exact ih (k + 1) ⟨by omega, by omega⟩ (by omega)
theorem l_mpu {E : kEnv} {f : Nat → Int → Int} {s : Int → Int} {g : Nat → Int → Option Nat} {d : Nat} {c : Int} {Q : Option kV → kH → Prop} (hm : kGM g) (hc : f 45 7 = c ∧ 0 ≤ c ∧ c ≤ 7) (hx : kW E d 0 0 M_X7_keeps 83 [some (kA (45)), some (kI (29))] [] ((kMC ++ kMM), kst (kPu f s 51 (29 * c) 29) 50 s, g) Q) : ∀ (n : Nat) (k : Int), (0 ≤ k ∧ k ≤ 29) → (29 - k).toNat < n → kW E d 0 0 M_X7_keeps 51 [some (kA (45)), some (kI (k))] [] ((kMC ++ kMM), kst ((kPu f s 51 (29 * c) k)) 50 s, g) Q := by
  intro n
  induction n with
  | zero => intro k _ q; omega
  | succ n ih =>
    intro k y0 y1
    have ek : kPu f s 51 (29 * c) k 45 7 = c := (if_neg (by omega)).trans hc.1
    refine kw_iload_n dX7_keeps_51 rfl ?_
    refine kw_bipush dX7_keeps_52 (by decide) (by decide) ?_
    refine kw_icmp_ge (tgt := 83) dX7_keeps_54 (by decide) (fun h1 => ?_) (fun h1 => ?_)
    · have e1 : k = 29 := by omega
      subst e1
      exact hx
    · refine kw_aload_n dX7_keeps_57 rfl ?_
      refine kv_getR (b := 51) dX7_keeps_58 kf_X7_25 rfl rfl rfl (hm (45, 6, 51) (by decide)) ?_
      refine kw_bipush dX7_keeps_61 (by decide) (by decide) ?_
      refine kw_aload_n dX7_keeps_63 rfl ?_
      refine kv_getI (kz := 7) dX7_keeps_64 kf_X7_84 rfl rfl rfl (congrFun (kst_ne (by decide)) _) ?_
      refine kw_imul dX7_keeps_67 ⟨by omega, by omega⟩ ?_
      refine kw_iload_n dX7_keeps_68 rfl ?_
      refine kw_iadd dX7_keeps_69 ⟨by omega, by omega⟩ ?_
      refine kw_aload_n dX7_keeps_70 rfl ?_
      refine kv_getR (b := 50) dX7_keeps_71 kf_X7_22 rfl rfl rfl (hm (45, 5, 50) (by decide)) ?_
      refine kw_iload_n dX7_keeps_74 rfl ?_
      refine kv_iald dX7_keeps_75 rfl (by omega) (by omega) (congrFun kst_self _) ?_
      refine kv_iast dX7_keeps_76 rfl (by omega) (by omega) ?_
      rw [kst_uc (by decide)]
      refine kw_iinc dX7_keeps_77 (by decide) rfl ⟨by omega, by omega⟩ trivial (L2 := [some (kA (45)), some (kI (k + 1))]) rfl ?_
      refine kw_goto (tgt := 51) dX7_keeps_80 (by decide) ?_
      rw [ek, kPu_s y0.1]
      exact ih (k + 1) ⟨by omega, by omega⟩ (by omega)
theorem l_mkeeps {E : kEnv} {f : Nat → Int → Int} {s : Int → Int} {g : Nat → Int → Option Nat} {d : Nat} {c : Int} {o : Option kV} (hm : kGM g) (hc : f 45 7 = c ∧ 0 ≤ c ∧ c ≤ 7) : kW E d 0 0 M_X7_keeps 49 [some (kA 45), o] [] ((kMC ++ kMM), kst f 50 s, g) (fun r h' => r = none ∧ h' = ((kMC ++ kMM), kst (kKp f s c) 50 s, g)) := by
  have ek : kPu f s 51 (29 * c) 29 45 7 = c := (if_neg (by omega)).trans hc.1
  refine kw_iconst dX7_keeps_49 ⟨by decide, by decide⟩ ?_
  refine kw_istore_n dX7_keeps_50 (by decide) trivial (L2 := [some (kA (45)), some (kI (0))]) rfl ?_
  have h := l_mpu (E := E) (f := f) (s := s) (d := d) hm hc (Q := (fun r h' => r = none ∧ h' = ((kMC ++ kMM), kst (kKp f s c) 50 s, g))) ?_ _ 0 ⟨by omega, by omega⟩ (Nat.lt_succ_self _)
  · rw [kPu_0] at h
    exact h
  refine kw_aload_n dX7_keeps_83 rfl ?_
  refine kw_dup dX7_keeps_84 trivial ?_
  refine kv_getI (kz := 7) dX7_keeps_85 kf_X7_84 rfl rfl rfl (congrFun (kst_ne (by decide)) _) ?_
  refine kw_iconst dX7_keeps_88 ⟨by decide, by decide⟩ ?_
  refine kw_iadd dX7_keeps_89 ⟨by omega, by omega⟩ ?_
  refine kv_putI (kz := 7) dX7_keeps_90 kp_X7_84 rfl rfl (fun h => by cases h) rfl ?_
  rw [kst_uc (by decide)]
  exact kv_rv dX7_keeps_93 rfl (by rw [ek]; rfl)
theorem c_mkeeps {E : kEnv} {f : Nat → Int → Int} {s : Int → Int} {g : Nat → Int → Option Nat}  (hm : kGM g) (hk : 0 ≤ f 45 7 ∧ f 45 7 ≤ 8) : kF E 0 M_X7_keeps [kA (45)] ((kMC ++ kMM), kst f 50 s, g) (none) ((kMC ++ kMM), kst (kKe f s) 50 s, g) := by
  refine kF_of (by decide) (by simp [k_one]) (Nat.le_of_ble_eq_true rfl) (L := [some (kA (45)), none]) rfl ?_
  refine kw_aload_n dX7_keeps_0 rfl ?_
  refine kv_getI (kz := 7) dX7_keeps_1 kf_X7_84 rfl rfl rfl (congrFun (kst_ne (by decide)) _) ?_
  refine kw_bipush dX7_keeps_4 (by decide) (by decide) ?_
  refine kw_icmp_ne (tgt := 49) dX7_keeps_6 (by decide) (fun h1 => ?_) (fun h1 => ?_)
  · rw [show kKe f s = kKp f s (f 45 7) from if_neg (by omega)]
    exact l_mkeeps hm ⟨rfl, by omega, by omega⟩
  · refine kw_iconst dX7_keeps_9 ⟨by decide, by decide⟩ ?_
    refine kw_istore_n dX7_keeps_10 (by decide) trivial (L2 := [some (kA (45)), some (kI (0))]) rfl ?_
    have em : kMv f 203 45 7 = 8 := (if_neg (by omega)).trans (by omega)
    have h := l_mmv (E := E) (f := f) (s := s) (d := 0) hm (Q := (fun r h' => r = none ∧ h' = ((kMC ++ kMM), kst (kKe f s) 50 s, g))) ?_ _ 0 ⟨by omega, by omega⟩ (Nat.lt_succ_self _)
    · rw [kMv_0] at h
      exact h
    refine kw_aload_n dX7_keeps_39 rfl ?_
    refine kw_dup dX7_keeps_40 trivial ?_
    refine kv_getI (kz := 7) dX7_keeps_41 kf_X7_84 rfl rfl rfl (congrFun (kst_ne (by decide)) _) ?_
    refine kw_iconst dX7_keeps_44 ⟨by decide, by decide⟩ ?_
    refine kw_isub dX7_keeps_45 ⟨by omega, by omega⟩ ?_
    refine kv_putI (kz := 7) dX7_keeps_46 kp_X7_84 rfl rfl (fun h => by cases h) rfl ?_
    rw [kst_uc (by decide)]
    rw [em, show (8 : Int) - 1 = 7 by decide, show kKe f s = kKp (k_u (kMv f 203) 45 7 7) s 7 from if_pos (by omega)]
    exact l_mkeeps hm ⟨k_u_self, by omega, by omega⟩
