/-! the model: waste; what it holds and lets -/
theorem l_mwaste1 {E : kEnv} {f : Nat → Int → Int} {s : Int → Int} {g : Nat → Int → Option Nat} {d : Nat} {a b : Int} {Q : Option kV → kH → Prop} (hd : 3 ≤ d) (hm : kGM g) (hT : mTO (f 47)) (hS : mSO (f 47) s) (h28 : 0 ≤ s 28 ∧ s 28 ≤ 99) (hb : 0 ≤ b ∧ b < f 47 0) (hx : ∀ x : Int, x = (if (s (8 + b) = 1 ∨ sEver (f 47) s b (f 47 1).toNat = true) then 1 else 0) → kW E d 0 0 M_X7_waste 75 [some (kA 45), some (kI a), some (kI b), some (kI x), some (kI (f 47 1))] [] ((kMC ++ kMM), kst f 50 s, g) Q) : ∀ (n : Nat) (i x : Int), (0 ≤ i ∧ i ≤ f 47 1) → (f 47 1 - i).toNat < n → x = (if (s (8 + b) = 1 ∨ sEver (f 47) s b (i).toNat = true) then 1 else 0) → kW E d 0 0 M_X7_waste 36 [some (kA 45), some (kI a), some (kI b), some (kI x), some (kI i)] [] ((kMC ++ kMM), kst f 50 s, g) Q := by
  intro n
  induction n with
  | zero => intro i x _ y; omega
  | succ n ih =>
    intro i x y0 y1 z1
    have n0 := hT.1
    have n1 := hT.2.1
    refine kw_iload dX7_waste_36 rfl ?_
    refine kw_aload_n dX7_waste_38 rfl ?_
    refine kv_getR (b := 47) dX7_waste_39 kf_X7_13 rfl rfl rfl (hm (45, 2, 47) (by decide)) ?_
    refine kw_iconst dX7_waste_42 ⟨by decide, by decide⟩ ?_
    refine kv_iald dX7_waste_43 rfl (by omega) (by omega) (congrFun (kst_ne (by decide)) _) ?_
    refine kw_icmp_ge (tgt := 75) dX7_waste_44 (by decide) (fun h1 => ?_) (fun h1 => ?_)
    · have e1 : i = f 47 1 := by omega
      subst e1
      exact hx x z1
    · refine kw_iload_n dX7_waste_47 rfl ?_
      refine kw_if_ne (tgt := 63) dX7_waste_48 (by decide) (fun h2 => ?_) (fun h2 => ?_)
      · refine kw_iconst dX7_waste_63 ⟨by decide, by decide⟩ ?_
        refine kw_goto (tgt := 68) dX7_waste_64 (by decide) ?_
        refine kw_istore_n dX7_waste_68 (by decide) trivial (L2 := [some (kA (45)), some (kI (a)), some (kI (b)), some (kI (1)), some (kI (i))]) rfl ?_
        refine kw_iinc dX7_waste_69 (by decide) rfl ⟨by omega, by omega⟩ trivial (L2 := [some (kA (45)), some (kI (a)), some (kI (b)), some (kI (1)), some (kI (i + 1))]) rfl ?_
        refine kw_goto (tgt := 36) dX7_waste_72 (by decide) ?_
        refine ih (i + 1) _ ⟨by omega, by omega⟩ (by omega) ?_
        rw [sEver_s y0.1]
        first
          | (rw [if_pos (by by_cases q : s (8 + b) = 1 ∨ sEver (f 47) s b i.toNat = true
                            · rcases q with q | q
                              · exact Or.inl q
                              · exact Or.inr (by rw [q, Bool.true_or])
                            · first | (rw [if_neg q] at z1; omega) | exact Or.inr (by rw [decide_eq_true h3, Bool.or_true]))]; done)
          | (rw [if_neg (fun q => by
              by_cases q2 : s (8 + b) = 1 ∨ sEver (f 47) s b i.toNat = true
              · rw [if_pos q2] at z1; omega
              · rcases q with q | q
                · exact q2 (Or.inl q)
                · rw [decide_eq_false (by omega), Bool.or_false] at q; exact q2 (Or.inr q))])
      · refine kw_aload_n dX7_waste_51 rfl ?_
        refine kw_iload dX7_waste_52 rfl ?_
        refine kw_iload_n dX7_waste_54 rfl ?_
        refine kv_callV1 (M2 := M_X7_firstOf) (As := [kI (i), kI (b)]) dX7_waste_55 ml_X7_138 q_X7_firstOf rfl rfl rfl (Nat.le_of_ble_eq_true rfl) (c_mfirstOf hm hT hS h28 ⟨by omega, by omega⟩ ⟨by omega, by omega⟩) (by omega) ?_
        refine kw_bipush dX7_waste_58 (by decide) (by decide) ?_
        refine kw_icmp_eq (tgt := 67) dX7_waste_60 (by decide) (fun h3 => ?_) (fun h3 => ?_)
        · refine kw_iconst dX7_waste_67 ⟨by decide, by decide⟩ ?_
          refine kw_istore_n dX7_waste_68 (by decide) trivial (L2 := [some (kA (45)), some (kI (a)), some (kI (b)), some (kI (0)), some (kI (i))]) rfl ?_
          refine kw_iinc dX7_waste_69 (by decide) rfl ⟨by omega, by omega⟩ trivial (L2 := [some (kA (45)), some (kI (a)), some (kI (b)), some (kI (0)), some (kI (i + 1))]) rfl ?_
          refine kw_goto (tgt := 36) dX7_waste_72 (by decide) ?_
          refine ih (i + 1) _ ⟨by omega, by omega⟩ (by omega) ?_
          rw [sEver_s y0.1]
          first
            | (rw [if_pos (by by_cases q : s (8 + b) = 1 ∨ sEver (f 47) s b i.toNat = true
                              · rcases q with q | q
                                · exact Or.inl q
                                · exact Or.inr (by rw [q, Bool.true_or])
                              · first | (rw [if_neg q] at z1; omega) | exact Or.inr (by rw [decide_eq_true h3, Bool.or_true]))]; done)
            | (rw [if_neg (fun q => by
                by_cases q2 : s (8 + b) = 1 ∨ sEver (f 47) s b i.toNat = true
                · rw [if_pos q2] at z1; omega
                · rcases q with q | q
                  · exact q2 (Or.inl q)
                  · rw [decide_eq_false (by omega), Bool.or_false] at q; exact q2 (Or.inr q))])
        · refine kw_iconst dX7_waste_63 ⟨by decide, by decide⟩ ?_
          refine kw_goto (tgt := 68) dX7_waste_64 (by decide) ?_
          refine kw_istore_n dX7_waste_68 (by decide) trivial (L2 := [some (kA (45)), some (kI (a)), some (kI (b)), some (kI (1)), some (kI (i))]) rfl ?_
          refine kw_iinc dX7_waste_69 (by decide) rfl ⟨by omega, by omega⟩ trivial (L2 := [some (kA (45)), some (kI (a)), some (kI (b)), some (kI (1)), some (kI (i + 1))]) rfl ?_
          refine kw_goto (tgt := 36) dX7_waste_72 (by decide) ?_
          refine ih (i + 1) _ ⟨by omega, by omega⟩ (by omega) ?_
          rw [sEver_s y0.1]
          first
            | (rw [if_pos (by by_cases q : s (8 + b) = 1 ∨ sEver (f 47) s b i.toNat = true
                              · rcases q with q | q
                                · exact Or.inl q
                                · exact Or.inr (by rw [q, Bool.true_or])
                              · first | (rw [if_neg q] at z1; omega) | exact Or.inr (by rw [decide_eq_true h3, Bool.or_true]))]; done)
            | (rw [if_neg (fun q => by
                by_cases q2 : s (8 + b) = 1 ∨ sEver (f 47) s b i.toNat = true
                · rw [if_pos q2] at z1; omega
                · rcases q with q | q
                  · exact q2 (Or.inl q)
                  · rw [decide_eq_false (by omega), Bool.or_false] at q; exact q2 (Or.inr q))])
theorem l_mwaste2 {E : kEnv} {f : Nat → Int → Int} {s : Int → Int} {g : Nat → Int → Option Nat} (hm : kGM g) (hT : mTO (f 47)) (hS : mSO (f 47) s) (h28 : 0 ≤ s 28 ∧ s 28 ≤ 99) : ∀ (n : Nat) (b : Int) (o : Option kV × Option kV), (0 ≤ b ∧ b ≤ f 47 0) → (f 47 0 - b).toNat < n → kW E 3 0 0 M_X7_waste 4 [some (kA 45), some (kI (sWaste (f 47) s b.toNat)), some (kI b), o.1, o.2] [] ((kMC ++ kMM), kst f 50 s, g) (fun r h' => r = some (kI (sWaste (f 47) s (f 47 0).toNat)) ∧ h' = ((kMC ++ kMM), kst f 50 s, g)) := by
  intro n
  induction n with
  | zero => intro b o _ y; omega
  | succ n ih =>
    intro b o y0 y1
    have n0 := hT.1
    have n1 := hT.2.1
    have qw := sWaste_rng (s := s) hT b.toNat (by omega)
    have ht : ∀ _ : Unit, 0 ≤ b → b < f 47 0 → 1 ≤ f 47 (21 + b) ∧ f 47 (21 + b) ≤ 20 := fun _ x y => (hT.2.2.2.2.2.1 b x y).2.2
    obtain ⟨o3, o4⟩ := o
    refine kw_iload_n dX7_waste_4 rfl ?_
    refine kw_aload_n dX7_waste_5 rfl ?_
    refine kv_getR (b := 47) dX7_waste_6 kf_X7_13 rfl rfl rfl (hm (45, 2, 47) (by decide)) ?_
    refine kw_iconst dX7_waste_9 ⟨by decide, by decide⟩ ?_
    refine kv_iald dX7_waste_10 rfl (by omega) (by omega) (congrFun (kst_ne (by decide)) _) ?_
    refine kw_icmp_ge (tgt := 101) dX7_waste_11 (by decide) (fun h1 => ?_) (fun h1 => ?_)
    · refine kw_iload_n dX7_waste_101 rfl ?_
      exact kv_ri dX7_waste_102 rfl (by rw [show b = f 47 0 by omega]) rfl
    · refine kw_aload_n dX7_waste_14 rfl ?_
      refine kv_getR (b := 50) dX7_waste_15 kf_X7_22 rfl rfl rfl (hm (45, 5, 50) (by decide)) ?_
      refine kw_bipush dX7_waste_18 (by decide) (by decide) ?_
      refine kw_iload_n dX7_waste_20 rfl ?_
      refine kw_iadd dX7_waste_21 ⟨by omega, by omega⟩ ?_
      refine kv_iald dX7_waste_22 rfl (by omega) (by omega) (congrFun kst_self _) ?_
      refine kw_iconst dX7_waste_23 ⟨by decide, by decide⟩ ?_
      refine kw_icmp_ne (tgt := 31) dX7_waste_24 (by decide) (fun h2 => ?_) (fun h2 => ?_)
      · refine kw_iconst dX7_waste_31 ⟨by decide, by decide⟩ ?_
        refine kw_istore_n dX7_waste_32 (by decide) trivial (L2 := [some (kA (45)), some (kI (sWaste (f 47) s b.toNat)), some (kI (b)), some (kI (0)), o4]) rfl ?_
        refine kw_iconst dX7_waste_33 ⟨by decide, by decide⟩ ?_
        refine kw_istore dX7_waste_34 (by decide) trivial (L2 := [some (kA (45)), some (kI (sWaste (f 47) s b.toNat)), some (kI (b)), some (kI (0)), some (kI (0))]) rfl ?_
        refine l_mwaste1 (by omega) hm hT hS h28 ⟨by omega, by omega⟩ (fun x z => ?_) _ 0 _ ⟨by omega, by omega⟩ (Nat.lt_succ_self _) (by rw [if_neg (by rintro (q | q); exact h2 q; cases q)])
        have e1 := sWaste_s (T := f 47) (s := s) y0.1
        rw [show (if s (8 + b) = 1 ∨ sEver (f 47) s b (f 47 1).toNat = true then (0 : Int) else f 47 (21 + b)) = if x = 1 then 0 else f 47 (21 + b) by rw [z]; split <;> rfl] at e1
        have zx : x = 0 ∨ x = 1 := by rw [z]; split <;> omega
        have ht0 := ht () (by omega) (by omega)
        refine kw_iload_n dX7_waste_75 rfl ?_
        refine kw_iload_n dX7_waste_76 rfl ?_
        refine kw_if_eq (tgt := 84) dX7_waste_77 (by decide) (fun h1 => ?_) (fun h1 => ?_)
        · refine kw_aload_n dX7_waste_84 rfl ?_
          refine kv_getR (b := 47) dX7_waste_85 kf_X7_13 rfl rfl rfl (hm (45, 2, 47) (by decide)) ?_
          refine kw_bipush dX7_waste_88 (by decide) (by decide) ?_
          refine kw_iload_n dX7_waste_90 rfl ?_
          refine kw_iadd dX7_waste_91 ⟨by omega, by omega⟩ ?_
          refine kv_iald dX7_waste_92 rfl (by omega) (by omega) (congrFun (kst_ne (by decide)) _) ?_
          refine kw_iadd dX7_waste_93 ⟨by omega, by omega⟩ ?_
          refine kw_istore_n dX7_waste_94 (by decide) trivial (L2 := [some (kA (45)), some (kI ((sWaste (f 47) s b.toNat) + (f 47 (21 + b)))), some (kI (b)), some (kI (x)), some (kI (f 47 1))]) rfl ?_
          refine kw_iinc dX7_waste_95 (by decide) rfl ⟨by omega, by omega⟩ trivial (L2 := [some (kA (45)), some (kI ((sWaste (f 47) s b.toNat) + (f 47 (21 + b)))), some (kI (b + 1)), some (kI (x)), some (kI (f 47 1))]) rfl ?_
          refine kw_goto (tgt := 4) dX7_waste_98 (by decide) ?_
          rw [if_neg (by omega)] at e1
          rw [← e1]
          exact ih (b + 1) (_, _) ⟨by omega, by omega⟩ (by omega)
        · refine kw_iconst dX7_waste_80 ⟨by decide, by decide⟩ ?_
          refine kw_goto (tgt := 93) dX7_waste_81 (by decide) ?_
          refine kw_iadd dX7_waste_93 ⟨by omega, by omega⟩ ?_
          refine kw_istore_n dX7_waste_94 (by decide) trivial (L2 := [some (kA (45)), some (kI ((sWaste (f 47) s b.toNat) + 0)), some (kI (b)), some (kI (x)), some (kI (f 47 1))]) rfl ?_
          refine kw_iinc dX7_waste_95 (by decide) rfl ⟨by omega, by omega⟩ trivial (L2 := [some (kA (45)), some (kI ((sWaste (f 47) s b.toNat) + 0)), some (kI (b + 1)), some (kI (x)), some (kI (f 47 1))]) rfl ?_
          refine kw_goto (tgt := 4) dX7_waste_98 (by decide) ?_
          rw [if_pos (by omega)] at e1
          rw [← e1]
          exact ih (b + 1) (_, _) ⟨by omega, by omega⟩ (by omega)
      · refine kw_iconst dX7_waste_27 ⟨by decide, by decide⟩ ?_
        refine kw_goto (tgt := 32) dX7_waste_28 (by decide) ?_
        refine kw_istore_n dX7_waste_32 (by decide) trivial (L2 := [some (kA (45)), some (kI (sWaste (f 47) s b.toNat)), some (kI (b)), some (kI (1)), o4]) rfl ?_
        refine kw_iconst dX7_waste_33 ⟨by decide, by decide⟩ ?_
        refine kw_istore dX7_waste_34 (by decide) trivial (L2 := [some (kA (45)), some (kI (sWaste (f 47) s b.toNat)), some (kI (b)), some (kI (1)), some (kI (0))]) rfl ?_
        refine l_mwaste1 (by omega) hm hT hS h28 ⟨by omega, by omega⟩ (fun x z => ?_) _ 0 _ ⟨by omega, by omega⟩ (Nat.lt_succ_self _) (by rw [if_pos (Or.inl (by omega))])
        have e1 := sWaste_s (T := f 47) (s := s) y0.1
        rw [show (if s (8 + b) = 1 ∨ sEver (f 47) s b (f 47 1).toNat = true then (0 : Int) else f 47 (21 + b)) = if x = 1 then 0 else f 47 (21 + b) by rw [z]; split <;> rfl] at e1
        have zx : x = 0 ∨ x = 1 := by rw [z]; split <;> omega
        have ht0 := ht () (by omega) (by omega)
        refine kw_iload_n dX7_waste_75 rfl ?_
        refine kw_iload_n dX7_waste_76 rfl ?_
        refine kw_if_eq (tgt := 84) dX7_waste_77 (by decide) (fun h1 => ?_) (fun h1 => ?_)
        · refine kw_aload_n dX7_waste_84 rfl ?_
          refine kv_getR (b := 47) dX7_waste_85 kf_X7_13 rfl rfl rfl (hm (45, 2, 47) (by decide)) ?_
          refine kw_bipush dX7_waste_88 (by decide) (by decide) ?_
          refine kw_iload_n dX7_waste_90 rfl ?_
          refine kw_iadd dX7_waste_91 ⟨by omega, by omega⟩ ?_
          refine kv_iald dX7_waste_92 rfl (by omega) (by omega) (congrFun (kst_ne (by decide)) _) ?_
          refine kw_iadd dX7_waste_93 ⟨by omega, by omega⟩ ?_
          refine kw_istore_n dX7_waste_94 (by decide) trivial (L2 := [some (kA (45)), some (kI ((sWaste (f 47) s b.toNat) + (f 47 (21 + b)))), some (kI (b)), some (kI (x)), some (kI (f 47 1))]) rfl ?_
          refine kw_iinc dX7_waste_95 (by decide) rfl ⟨by omega, by omega⟩ trivial (L2 := [some (kA (45)), some (kI ((sWaste (f 47) s b.toNat) + (f 47 (21 + b)))), some (kI (b + 1)), some (kI (x)), some (kI (f 47 1))]) rfl ?_
          refine kw_goto (tgt := 4) dX7_waste_98 (by decide) ?_
          rw [if_neg (by omega)] at e1
          rw [← e1]
          exact ih (b + 1) (_, _) ⟨by omega, by omega⟩ (by omega)
        · refine kw_iconst dX7_waste_80 ⟨by decide, by decide⟩ ?_
          refine kw_goto (tgt := 93) dX7_waste_81 (by decide) ?_
          refine kw_iadd dX7_waste_93 ⟨by omega, by omega⟩ ?_
          refine kw_istore_n dX7_waste_94 (by decide) trivial (L2 := [some (kA (45)), some (kI ((sWaste (f 47) s b.toNat) + 0)), some (kI (b)), some (kI (x)), some (kI (f 47 1))]) rfl ?_
          refine kw_iinc dX7_waste_95 (by decide) rfl ⟨by omega, by omega⟩ trivial (L2 := [some (kA (45)), some (kI ((sWaste (f 47) s b.toNat) + 0)), some (kI (b + 1)), some (kI (x)), some (kI (f 47 1))]) rfl ?_
          refine kw_goto (tgt := 4) dX7_waste_98 (by decide) ?_
          rw [if_pos (by omega)] at e1
          rw [← e1]
          exact ih (b + 1) (_, _) ⟨by omega, by omega⟩ (by omega)
theorem c_mwaste {E : kEnv} {f : Nat → Int → Int} {s : Int → Int} {g : Nat → Int → Option Nat}  (hm : kGM g) (hT : mTO (f 47)) (hS : mSO (f 47) s) (h28 : 0 ≤ s 28 ∧ s 28 ≤ 99) : kF E 3 M_X7_waste [kA (45)] ((kMC ++ kMM), kst f 50 s, g) (some (kI (sWaste (f 47) s (f 47 0).toNat))) ((kMC ++ kMM), kst f 50 s, g) := by
  refine kF_of (by decide) (by simp [k_one]) (Nat.le_of_ble_eq_true rfl) (L := [some (kA (45)), none, none, none, none]) rfl ?_
  have n0 := hT.1
  have n1 := hT.2.1
  refine kw_iconst dX7_waste_0 ⟨by decide, by decide⟩ ?_
  refine kw_istore_n dX7_waste_1 (by decide) trivial (L2 := [some (kA (45)), some (kI (0)), none, none, none]) rfl ?_
  refine kw_iconst dX7_waste_2 ⟨by decide, by decide⟩ ?_
  refine kw_istore_n dX7_waste_3 (by decide) trivial (L2 := [some (kA (45)), some (kI (0)), some (kI (0)), none, none]) rfl ?_
  exact l_mwaste2 hm hT hS h28 _ 0 (none, none) ⟨by omega, by omega⟩ (Nat.lt_succ_self _)
/-- the row s held at 53, its first k -/
def kHd (f : Nat → Int → Int) (s : Int → Int) (k : Int) : Nat → Int → Int := fun b j => if b = 53 ∧ 0 ≤ j ∧ j < k then s j else f b j
theorem kHd_0 {f : Nat → Int → Int} {s : Int → Int} : kHd f s 0 = f := by
  funext b j
  exact if_neg (by omega)
theorem kHd_s {f : Nat → Int → Int} {s : Int → Int} {k : Int} (h : 0 ≤ k) : k_u (kHd f s k) 53 k (s k) = kHd f s (k + 1) := by
  funext b j
  by_cases q : b = 53 ∧ j = k
  · rw [q.1, q.2, k_u_self]; exact (if_pos (by omega)).symm
  · have e2 : k_u (kHd f s k) 53 k (s k) b j = kHd f s k b j := if_neg q
    rw [e2]
    unfold kHd
    by_cases q2 : b = 53 ∧ 0 ≤ j ∧ j < k
    · exact (if_pos q2).trans (if_pos (by omega)).symm
    · exact (if_neg q2).trans (if_neg (by omega)).symm
/-- the row t, its first k those of s -/
def kLt (s t : Int → Int) (k : Int) : Int → Int := fun j => if 0 ≤ j ∧ j < k then s j else t j
theorem kLt_0 {s t : Int → Int} : kLt s t 0 = t := by
  funext j
  exact if_neg (by omega)
theorem kLt_s {s t : Int → Int} {k : Int} (h : 0 ≤ k) : upi (kLt s t k) k (s k) = kLt s t (k + 1) := by
  funext j
  by_cases q : j = k
  · rw [q, upi_self]; exact (if_pos (by omega)).symm
  · rw [upi_ne q]
    unfold kLt
    by_cases q2 : 0 ≤ j ∧ j < k
    · exact (if_pos q2).trans (if_pos (by omega)).symm
    · exact (if_neg q2).trans (if_neg (by omega)).symm
/-- nothing is changed outside the row's 29 -/
def mOut (s t : Int → Int) : Prop := ∀ j, j < 0 ∨ 29 ≤ j → t j = s j
theorem kLt_e {s t : Int → Int} (h : mOut s t) : kLt s t 29 = s := by
  funext j
  by_cases q : 0 ≤ j ∧ j < 29
  · exact if_pos q
  · exact (if_neg q).trans (h j (by omega))
theorem mOut_rf {s : Int → Int} : mOut s s := fun _ _ => rfl
theorem mOut_u {s t : Int → Int} {i v : Int} (h : mOut s t) (hi : 0 ≤ i ∧ i < 29) : mOut s (upi t i v) := fun j hj => (upi_ne (by omega)).trans (h j hj)
theorem mOut_pass {s t : Int → Int} (h : mOut s t) : mOut s (mPass t) := by
  unfold mPass
  exact mOut_u (mOut_u (mOut_u (mOut_u (mOut_u h ⟨by decide, by decide⟩) ⟨by decide, by decide⟩) ⟨by decide, by decide⟩) ⟨by decide, by decide⟩) ⟨by decide, by decide⟩
theorem mOut_step {T s t : Int → Int} {i b : Int} (h : mOut s t) (hi : 0 ≤ i ∧ i < 4) (hb : 0 ≤ b ∧ b < 8) : mOut s (mStep T t i b) := by
  rcases mStep_cases (T := T) (s := t) (i := i) (b := b) with ⟨_, _, e⟩ | ⟨_, e⟩
  · rw [e]
    unfold mTakes
    exact mOut_u (mOut_u (mOut_u h (by omega)) (by omega)) (by omega)
  · rw [e]; exact h
theorem mOut_row {T s t : Int → Int} {i : Int} (hi : 0 ≤ i ∧ i < 4) (h : mOut s t) : ∀ n : Nat, n ≤ 8 → mOut s (mRow T i n t)
  | 0, _ => h
  | n + 1, hn => mOut_step (mOut_row hi h n (by omega)) hi (by omega)
theorem mOut_eachN {T s t : Int → Int} (hT : mTO T) (h : mOut s t) : ∀ n : Nat, n ≤ 4 → mOut s (mEachN T n t)
  | 0, _ => h
  | n + 1, hn => mOut_row (by omega) (mOut_eachN hT h n (by omega)) _ (by have := hT.1; omega)
theorem mOut_each {T s t : Int → Int} (hT : mTO T) (h : mOut s t) : mOut s (mEach T t) := mOut_eachN hT h _ (by have := hT.2.1; omega)
theorem mOut_at {T s t : Int → Int} (hT : mTO T) (h : mOut s t) : ∀ n : Nat, mOut s (mAt T n t)
  | 0 => h
  | n + 1 => mOut_pass (mOut_each hT (mOut_at hT h n))
theorem l_mholds {E : kEnv} {f : Nat → Int → Int} {s : Int → Int} {g : Nat → Int → Option Nat}  (hm : kGM g) : ∀ (n : Nat) (k : Int), (0 ≤ k ∧ k ≤ 29) → (29 - k).toNat < n → kW E 0 0 0 M_X7_holds 2 [some (kA 45), some (kI k)] [] ((kMC ++ kMM), kst ((kHd f s k)) 50 s, g) (fun r h' => r = none ∧ h' = ((kMC ++ kMM), kst (kHd f s 29) 50 s, g)) := by
  intro n
  induction n with
  | zero => intro k _ y; omega
  | succ n ih =>
    intro k y0 y1
    refine kw_iload_n dX7_holds_2 rfl ?_
    refine kw_bipush dX7_holds_3 (by decide) (by decide) ?_
    refine kw_icmp_ge (tgt := 26) dX7_holds_5 (by decide) (fun h1 => ?_) (fun h1 => ?_)
    · exact kv_rv dX7_holds_26 rfl (by rw [show k = 29 by omega])
    · refine kw_aload_n dX7_holds_8 rfl ?_
      refine kv_getR (b := 53) dX7_holds_9 kf_X7_31 rfl rfl rfl (hm (45, 11, 53) (by decide)) ?_
      refine kw_iload_n dX7_holds_12 rfl ?_
      refine kw_aload_n dX7_holds_13 rfl ?_
      refine kv_getR (b := 50) dX7_holds_14 kf_X7_22 rfl rfl rfl (hm (45, 5, 50) (by decide)) ?_
      refine kw_iload_n dX7_holds_17 rfl ?_
      refine kv_iald dX7_holds_18 rfl (by omega) (by omega) (congrFun kst_self _) ?_
      refine kv_iast dX7_holds_19 rfl (by omega) (by omega) ?_
      rw [kst_uc (by decide)]
      refine kw_iinc dX7_holds_20 (by decide) rfl ⟨by omega, by omega⟩ trivial (L2 := [some (kA (45)), some (kI (k + 1))]) rfl ?_
      refine kw_goto (tgt := 2) dX7_holds_23 (by decide) ?_
      rw [kHd_s y0.1]
      exact ih (k + 1) ⟨by omega, by omega⟩ (by omega)
theorem c_mholds {E : kEnv} {f : Nat → Int → Int} {s : Int → Int} {g : Nat → Int → Option Nat}  (hm : kGM g)  : kF E 0 M_X7_holds [kA (45)] ((kMC ++ kMM), kst f 50 s, g) (none) ((kMC ++ kMM), kst (kHd f s 29) 50 s, g) := by
  refine kF_of (by decide) (by simp [k_one]) (Nat.le_of_ble_eq_true rfl) (L := [some (kA (45)), none]) rfl ?_
  refine kw_iconst dX7_holds_0 ⟨by decide, by decide⟩ ?_
  refine kw_istore_n dX7_holds_1 (by decide) trivial (L2 := [some (kA (45)), some (kI (0))]) rfl ?_
  have h := l_mholds (E := E) (f := f) (s := s) hm _ 0 ⟨by omega, by omega⟩ (Nat.lt_succ_self _)
  rw [kHd_0] at h
  exact h
theorem l_mlets {E : kEnv} {f : Nat → Int → Int} {s : Int → Int} {g : Nat → Int → Option Nat} {t : Int → Int} (hm : kGM g) (hH : ∀ j, 0 ≤ j ∧ j < 29 → f 53 j = s j) (ho : mOut s t) : ∀ (n : Nat) (k : Int), (0 ≤ k ∧ k ≤ 29) → (29 - k).toNat < n → kW E 0 0 0 M_X7_lets 2 [some (kA 45), some (kI k)] [] ((kMC ++ kMM), kst f 50 (kLt s t k), g) (fun r h' => r = none ∧ h' = ((kMC ++ kMM), kst f 50 s, g)) := by
  intro n
  induction n with
  | zero => intro k _ y; omega
  | succ n ih =>
    intro k y0 y1
    refine kw_iload_n dX7_lets_2 rfl ?_
    refine kw_bipush dX7_lets_3 (by decide) (by decide) ?_
    refine kw_icmp_ge (tgt := 26) dX7_lets_5 (by decide) (fun h1 => ?_) (fun h1 => ?_)
    · exact kv_rv dX7_lets_26 rfl (by rw [show k = 29 by omega, kLt_e ho])
    · refine kw_aload_n dX7_lets_8 rfl ?_
      refine kv_getR (b := 50) dX7_lets_9 kf_X7_22 rfl rfl rfl (hm (45, 5, 50) (by decide)) ?_
      refine kw_iload_n dX7_lets_12 rfl ?_
      refine kw_aload_n dX7_lets_13 rfl ?_
      refine kv_getR (b := 53) dX7_lets_14 kf_X7_31 rfl rfl rfl (hm (45, 11, 53) (by decide)) ?_
      refine kw_iload_n dX7_lets_17 rfl ?_
      refine kv_iald dX7_lets_18 rfl (by omega) (by omega) (congrFun (kst_ne (by decide)) _) ?_
      refine kv_iast dX7_lets_19 rfl (by omega) (by omega) ?_
      rw [kst_u]
      refine kw_iinc dX7_lets_20 (by decide) rfl ⟨by omega, by omega⟩ trivial (L2 := [some (kA (45)), some (kI (k + 1))]) rfl ?_
      refine kw_goto (tgt := 2) dX7_lets_23 (by decide) ?_
      rw [hH k ⟨by omega, by omega⟩, kLt_s y0.1]
      exact ih (k + 1) ⟨by omega, by omega⟩ (by omega)
theorem c_mlets {E : kEnv} {f : Nat → Int → Int} {s : Int → Int} {g : Nat → Int → Option Nat} {t : Int → Int} (hm : kGM g) (hH : ∀ j, 0 ≤ j ∧ j < 29 → f 53 j = s j) (ho : mOut s t) : kF E 0 M_X7_lets [kA (45)] ((kMC ++ kMM), kst f 50 t, g) (none) ((kMC ++ kMM), kst f 50 s, g) := by
  refine kF_of (by decide) (by simp [k_one]) (Nat.le_of_ble_eq_true rfl) (L := [some (kA (45)), none]) rfl ?_
  refine kw_iconst dX7_lets_0 ⟨by decide, by decide⟩ ?_
  refine kw_istore_n dX7_lets_1 (by decide) trivial (L2 := [some (kA (45)), some (kI (0))]) rfl ?_
  have h := l_mlets (E := E) (f := f) (s := s) (t := t) hm hH ho _ 0 ⟨by omega, by omega⟩ (Nat.lt_succ_self _)
  rw [kLt_0] at h
  exact h
theorem c_mwarmBy {E : kEnv} {f : Nat → Int → Int} {s : Int → Int} {g : Nat → Int → Option Nat} {v : Int} (hm : kGM g) (hT : mTO (f 47)) (hS : mSO (f 47) s) (h28 : 0 ≤ s 28 ∧ s 28 ≤ 99) : kFE E 5 M_X7_warmBy [kA (45), kI (v)] ((kMC ++ kMM), kst f 50 s, g) (some (kI (sWarmBy (f 47) s v))) (kMC ++ kMM) (fun h2 => h2 = kst f 50 s ∨ h2 = kst (kHd f s 29) 50 s) g := by
  refine kFE_of (by decide) (by simp [k_one]) (Nat.le_of_ble_eq_true rfl) (L := [some (kA (45)), some (kI (v)), none]) rfl ?_
  have n0 := hT.1
  have n1 := hT.2.1
  refine kw_iload_n dX7_warmBy_0 rfl ?_
  refine kw_aload_n dX7_warmBy_1 rfl ?_
  refine kv_getR (b := 50) dX7_warmBy_2 kf_X7_22 rfl rfl rfl (hm (45, 5, 50) (by decide)) ?_
  refine kw_bipush dX7_warmBy_5 (by decide) (by decide) ?_
  refine kv_iald dX7_warmBy_7 rfl (by omega) (by omega) (congrFun kst_self _) ?_
  refine kw_bipush dX7_warmBy_8 (by decide) (by decide) ?_
  refine kv_callS1 (M2 := M_X7_in) (As := [kI (v), kI (s 28), kI (99)]) dX7_warmBy_10 ml_X7_54 q_X7_in rfl (Nat.le_of_ble_eq_true rfl) (c_min) (by omega) ?_
  refine kv_ifneB (tgt := 18) dX7_warmBy_13 (by decide) (fun h1 => ?_) (fun h1 => ?_)
  · refine kw_aload_n dX7_warmBy_18 rfl ?_
    refine kv_callV0 (M2 := M_X7_holds) (As := []) dX7_warmBy_19 ml_X7_129 q_X7_holds rfl rfl rfl (Nat.le_of_ble_eq_true rfl) (c_mholds hm) (by omega) ?_
    refine kw_aload_n dX7_warmBy_22 rfl ?_
    refine kw_iload_n dX7_warmBy_23 rfl ?_
    refine kv_callV1 (M2 := M_X7_warmAt) (As := [kI (v)]) dX7_warmBy_24 ml_X7_132 q_X7_warmAt rfl rfl rfl (Nat.le_of_ble_eq_true rfl) (show kF E 4 M_X7_warmAt [kA 45, kI v] ((kMC ++ kMM), kst (kHd f s 29) 50 s, g) (some (kI (mBit (f 47) (mEach (f 47) (mAt (f 47) (v - s 28).toNat s))))) ((kMC ++ kMM), kst (kHd f s 29) 50 (mEach (f 47) (mAt (f 47) (v - s 28).toNat s)), g) from c_mwarmAt (f := (kHd f s 29)) hm hT hS (by omega)) (by omega) ?_
    refine kw_istore_n dX7_warmBy_27 (by decide) trivial (L2 := [some (kA (45)), some (kI (v)), some (kI (mBit (f 47) (mEach (f 47) (mAt (f 47) (v - s 28).toNat s))))]) rfl ?_
    refine kw_aload_n dX7_warmBy_28 rfl ?_
    refine kv_callV0 (M2 := M_X7_lets) (As := []) dX7_warmBy_29 ml_X7_135 q_X7_lets rfl rfl rfl (Nat.le_of_ble_eq_true rfl) (c_mlets (s := s) hm (fun j hj => if_pos ⟨rfl, hj.1, hj.2⟩) (mOut_each hT (mOut_at hT mOut_rf _))) (by omega) ?_
    refine kw_iload_n dX7_warmBy_32 rfl ?_
    exact kv_riE dX7_warmBy_33 rfl (Eq.symm (by unfold sWarmBy; rw [if_pos (by omega)])) (Or.inr rfl)
  · refine kw_iconst dX7_warmBy_16 ⟨by decide, by decide⟩ ?_
    exact kv_riE dX7_warmBy_17 rfl (Eq.symm (by unfold sWarmBy; rw [if_neg (by omega)])) (Or.inl rfl)
