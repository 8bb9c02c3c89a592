/-! the class: what is laid -/
theorem kv_rbE {E : kEnv} {d mc ms pc : Nat} {M : kMd} {L : kLs} {m : List (Nat × Nat)} {g : Nat → Int → Option Nat} {P : (Nat → Int → Int) → Prop} {z : Int} {B : Prop} [Decidable B] {f : Nat → Int → Int} (hd : decode M.2.1 pc = .ok (.ireturn, 1)) (hr : M.2.2.2 = some .boolean) (he : z = if B then 1 else 0) (hh : P f) : kW E d mc ms M pc L [kI z] (m, f, g) (fun r h' => r = some (kI (if B then 1 else 0)) ∧ ∃ f2, h' = (m, f2, g) ∧ P f2) := kw_iret hd hr (k_nz (by rw [he]; split <;> simp)) ⟨by rw [he], f, rfl, hh⟩
def kPB (f : Nat → Int → Int) : Nat → Int → Int := k_u (k_u (k_u (k_u (k_u f 5 (f 4 5) (f 3 0)) 6 (f 4 5) (f 3 1)) 7 (f 4 5) (f 3 2)) 11 (f 4 5) (f 3 3)) 4 5 (f 4 5 + 1)
def kPT (f : Nat → Int → Int) : Nat → Int → Int := k_u (k_u (k_u (k_u f 11 (12 + f 4 6) (f 3 0)) 8 (f 4 6) (f 3 1)) 9 (f 4 6) (f 3 2)) 4 6 (f 4 6 + 1)
def kPt (f : Nat → Int → Int) (c : Int) : Nat → Int → Int := if c = 98 then kPB f else if c = 116 then kPT f else if c = 107 then k_u (k_u f 4 7 (f 3 0)) 4 8 (f 3 1) else if c = 102 then k_u f 4 9 (f 3 0) else f
theorem kPB_4 {f : Nat → Int → Int} {j : Int} : kPB f 4 j = if j = 5 then f 4 5 + 1 else f 4 j := by simp [kPB, k_u]
theorem kPB_5 {f : Nat → Int → Int} {j : Int} : kPB f 5 j = if j = f 4 5 then f 3 0 else f 5 j := by simp [kPB, k_u]
theorem kPB_6 {f : Nat → Int → Int} {j : Int} : kPB f 6 j = if j = f 4 5 then f 3 1 else f 6 j := by simp [kPB, k_u]
theorem kPB_7 {f : Nat → Int → Int} {j : Int} : kPB f 7 j = if j = f 4 5 then f 3 2 else f 7 j := by simp [kPB, k_u]
theorem kPB_11 {f : Nat → Int → Int} {j : Int} : kPB f 11 j = if j = f 4 5 then f 3 3 else f 11 j := by simp [kPB, k_u]
theorem kPB_o {f : Nat → Int → Int} {a : Nat} (h : a ≠ 4 ∧ a ≠ 5 ∧ a ≠ 6 ∧ a ≠ 7 ∧ a ≠ 11) : kPB f a = f a := by
  funext j
  simp [kPB, k_u, h]
theorem kPT_4 {f : Nat → Int → Int} {j : Int} : kPT f 4 j = if j = 6 then f 4 6 + 1 else f 4 j := by simp [kPT, k_u]
theorem kPT_11 {f : Nat → Int → Int} {j : Int} : kPT f 11 j = if j = 12 + f 4 6 then f 3 0 else f 11 j := by simp [kPT, k_u]
theorem kPT_8 {f : Nat → Int → Int} {j : Int} : kPT f 8 j = if j = f 4 6 then f 3 1 else f 8 j := by simp [kPT, k_u]
theorem kPT_9 {f : Nat → Int → Int} {j : Int} : kPT f 9 j = if j = f 4 6 then f 3 2 else f 9 j := by simp [kPT, k_u]
theorem kPT_o {f : Nat → Int → Int} {a : Nat} (h : a ≠ 4 ∧ a ≠ 8 ∧ a ≠ 9 ∧ a ≠ 11) : kPT f a = f a := by
  funext j
  simp [kPT, k_u, h]
/-- other cells than those of a reading are the same -/
def kEo (f f2 : Nat → Int → Int) : Prop := ∀ b : Nat, b < 3 ∨ 11 < b → f2 b = f b
theorem kEo_rf {f : Nat → Int → Int} : kEo f f := fun _ _ => rfl
theorem kEo_tr {f f2 f3 : Nat → Int → Int} (h : kEo f f2) (h2 : kEo f2 f3) : kEo f f3 := fun b hb => (h2 b hb).trans (h b hb)
theorem kEo_3 {f f2 : Nat → Int → Int} (h : k3 f f2) : kEo f f2 := fun b hb => h b (by omega)
theorem kEo_u {f : Nat → Int → Int} {a : Nat} {i v : Int} (h : 3 ≤ a ∧ a ≤ 11) : kEo f (k_u f a i v) := fun b hb => by funext j; exact k_u_ne (by omega)
theorem kEo_p {f : Nat → Int → Int} {c : Int} : kEo f (kPt f c) := by
  unfold kPt
  split
  · exact fun b hb => kPB_o (by omega)
  · split
    · exact fun b hb => kPT_o (by omega)
    · split
      · exact kEo_tr (kEo_u (by omega)) (kEo_u (by omega))
      · split
        · exact kEo_u (by omega)
        · exact kEo_rf
theorem kTx_o {tx : Int → Int} {n : Int} {f f2 : Nat → Int → Int} (h : kTx tx n f) (h2 : kEo f f2) : kTx tx n f2 := kTx_eq h (congrFun (h2 1 (by decide)) 2) (h2 2 (by decide))
/-- the forest and the state as they were read so far -/
def RS (T s : Int → Int) (f : Nat → Int → Int) : Prop := RF T f ∧ f 10 1 = 0 ∧ f 10 2 = 0 ∧ (∀ b, 0 ≤ b → b < T 0 → f 11 b = s b) ∧ (∀ i, 0 ≤ i → i < 4 → f 11 (8 + i) = 0 ∧ f 11 (16 + i) = 0) ∧ (∀ i, 0 ≤ i → i < T 1 → f 11 (12 + i) = s (16 + i))
theorem RS_3 {T s : Int → Int} {f f2 : Nat → Int → Int} (h : RS T s f) (h2 : k3 f f2) : RS T s f2 := by
  unfold RS RF
  rw [h2 4 (by decide), h2 5 (by decide), h2 6 (by decide), h2 7 (by decide), h2 8 (by decide), h2 9 (by decide), h2 10 (by decide), h2 11 (by decide)]
  exact h
theorem RS_go {tx : Int → Int} {n p : Int} {T s : Int → Int} {f : Nat → Int → Int} (hT : mTp T) (h : RS T s f) (hq : rQ tx n p f) (hp : xL tx n p = tx p) (hg : xG tx n p T = true) : RS (iT tx n p T) (iS tx n p T s) (kPt f (tx p)) := by
  obtain ⟨g1, g2, g3⟩ := xG_i.mp hg
  have t0 := hT.1
  have t1 := hT.2.1
  obtain ⟨⟨r0, r1, r2, r3, r4, r5, r6⟩, s1, s2, s3, s4, s5⟩ := h
  obtain ⟨q1, q2, q3, q4⟩ := hq
  unfold iT iS kPt
  rw [hp] at g2 g3 ⊢
  by_cases c1 : tx p = 98
  · rw [if_pos c1, if_pos c1, if_pos c1]
    obtain ⟨v1, v2, v3, v4⟩ := q1 c1
    have b0 : T 0 ≠ 8 := fun q => g2 ⟨c1, q⟩
    refine ⟨⟨?_, ?_, ?_, ?_, ?_, fun b e0 e1 => ?_, fun i e0 e1 => ?_⟩, ?_, ?_, fun b e0 e1 => ?_, fun i e0 e1 => ?_, fun i e0 e1 => ?_⟩
    · rw [kPB_4, if_pos rfl, upi_self]; omega
    · rw [kPB_4, if_neg (by decide), upi_ne (by omega), upi_ne (by omega), upi_ne (by omega), upi_ne (by omega)]; exact r1
    · rw [kPB_4, if_neg (by decide), upi_ne (by omega), upi_ne (by omega), upi_ne (by omega), upi_ne (by omega)]; exact r2
    · rw [kPB_4, if_neg (by decide), upi_ne (by omega), upi_ne (by omega), upi_ne (by omega), upi_ne (by omega)]; exact r3
    · rw [kPB_4, if_neg (by decide), upi_ne (by omega), upi_ne (by omega), upi_ne (by omega), upi_ne (by omega)]; exact r4
    · rw [upi_self] at e1
      rw [kPB_5, kPB_6, kPB_7]
      by_cases e : b = T 0
      · rw [if_pos (by omega), if_pos (by omega), if_pos (by omega), e, upi_ne (by omega), upi_ne (by omega), upi_ne (by omega), upi_self, upi_ne (by omega), upi_ne (by omega), upi_self, upi_ne (by omega), upi_self]
        exact ⟨v1, v2, v3⟩
      · rw [if_neg (by omega), if_neg (by omega), if_neg (by omega), upi_ne (by omega), upi_ne (by omega), upi_ne (by omega), upi_ne (by omega), upi_ne (by omega), upi_ne (by omega), upi_ne (by omega), upi_ne (by omega), upi_ne (by omega), upi_ne (by omega), upi_ne (by omega), upi_ne (by omega)]
        exact r5 b e0 (by omega)
    · rw [upi_ne (by omega), upi_ne (by omega), upi_ne (by omega), upi_ne (by omega)] at e1
      rw [kPB_o (a := 8) (by omega), kPB_o (a := 9) (by omega), upi_ne (by omega), upi_ne (by omega), upi_ne (by omega), upi_ne (by omega), upi_ne (by omega), upi_ne (by omega), upi_ne (by omega), upi_ne (by omega)]
      exact r6 i e0 e1
    · rw [kPB_o (by omega)]; exact s1
    · rw [kPB_o (by omega)]; exact s2
    · rw [upi_self] at e1
      rw [kPB_11]
      by_cases e : b = T 0
      · rw [if_pos (by omega), e, upi_self]; exact v4
      · rw [if_neg (by omega), upi_ne e]; exact s3 b e0 (by omega)
    · rw [kPB_11, kPB_11, if_neg (by omega), if_neg (by omega)]; exact s4 i e0 e1
    · rw [upi_ne (by omega), upi_ne (by omega), upi_ne (by omega), upi_ne (by omega)] at e1
      rw [kPB_11, if_neg (by omega), upi_ne (by omega)]; exact s5 i e0 e1
  · rw [if_neg c1, if_neg c1, if_neg c1]
    by_cases c2 : tx p = 116
    · rw [if_pos c2, if_pos c2, if_pos c2]
      obtain ⟨v1, v2, v3⟩ := q2 c2
      have b0 : T 1 ≠ 4 := fun q => g3 ⟨c2, q⟩
      refine ⟨⟨?_, ?_, ?_, ?_, ?_, fun b e0 e1 => ?_, fun i e0 e1 => ?_⟩, ?_, ?_, fun b e0 e1 => ?_, fun i e0 e1 => ?_, fun i e0 e1 => ?_⟩
      · rw [kPT_4, if_neg (by decide), upi_ne (by omega), upi_ne (by omega), upi_ne (by omega)]; exact r0
      · rw [kPT_4, if_pos rfl, upi_self]; omega
      · rw [kPT_4, if_neg (by decide), upi_ne (by omega), upi_ne (by omega), upi_ne (by omega)]; exact r2
      · rw [kPT_4, if_neg (by decide), upi_ne (by omega), upi_ne (by omega), upi_ne (by omega)]; exact r3
      · rw [kPT_4, if_neg (by decide), upi_ne (by omega), upi_ne (by omega), upi_ne (by omega)]; exact r4
      · rw [upi_ne (by omega), upi_ne (by omega), upi_ne (by omega)] at e1
        rw [kPT_o (a := 5) (by omega), kPT_o (a := 6) (by omega), kPT_o (a := 7) (by omega), upi_ne (by omega), upi_ne (by omega), upi_ne (by omega), upi_ne (by omega), upi_ne (by omega), upi_ne (by omega), upi_ne (by omega), upi_ne (by omega), upi_ne (by omega)]
        exact r5 b e0 e1
      · rw [upi_self] at e1
        rw [kPT_8, kPT_9]
        by_cases e : i = T 1
        · rw [if_pos (by omega), if_pos (by omega), e, upi_ne (by omega), upi_ne (by omega), upi_self, upi_ne (by omega), upi_self]
          exact ⟨v2, v3⟩
        · rw [if_neg (by omega), if_neg (by omega), upi_ne (by omega), upi_ne (by omega), upi_ne (by omega), upi_ne (by omega), upi_ne (by omega), upi_ne (by omega)]
          exact r6 i e0 (by omega)
      · rw [kPT_o (by omega)]; exact s1
      · rw [kPT_o (by omega)]; exact s2
      · rw [upi_ne (by omega), upi_ne (by omega), upi_ne (by omega)] at e1
        rw [kPT_11, if_neg (by omega), upi_ne (by omega)]; exact s3 b e0 e1
      · rw [kPT_11, kPT_11, if_neg (by omega), if_neg (by omega)]; exact s4 i e0 e1
      · rw [upi_self] at e1
        rw [kPT_11]
        by_cases e : i = T 1
        · rw [if_pos (by omega), e, upi_self]; exact v1
        · rw [if_neg (by omega), upi_ne (by omega)]; exact s5 i e0 (by omega)
    · rw [if_neg c2, if_neg c2, if_neg c2]
      by_cases c3 : tx p = 107
      · rw [if_pos c3, if_pos c3]
        obtain ⟨v1, v2⟩ := q3 c3
        have o : ∀ a : Nat, a ≠ 4 → k_u (k_u f 4 7 (f 3 0)) 4 8 (f 3 1) a = f a := fun a ha => by funext j; rw [k_u_ne ha, k_u_ne ha]
        rw [v1, v2] at o ⊢
        refine ⟨⟨?_, ?_, ?_, ?_, ?_, fun b e0 e1 => ?_, fun i e0 e1 => ?_⟩, ?_, ?_, fun b e0 e1 => ?_, fun i e0 e1 => ?_, fun i e0 e1 => ?_⟩
        · rw [k_u_ne2 (by decide), k_u_ne2 (by decide), upi_ne (by omega), upi_ne (by omega)]; exact r0
        · rw [k_u_ne2 (by decide), k_u_ne2 (by decide), upi_ne (by omega), upi_ne (by omega)]; exact r1
        · rw [k_u_ne2 (by decide), k_u_self, upi_ne (by omega), upi_self]
        · rw [k_u_self, upi_self]
        · rw [k_u_ne2 (by decide), k_u_ne2 (by decide), upi_ne (by omega), upi_ne (by omega)]; exact r4
        · rw [upi_ne (by omega), upi_ne (by omega)] at e1
          rw [o 5 (by decide), o 6 (by decide), o 7 (by decide), upi_ne (by omega), upi_ne (by omega), upi_ne (by omega), upi_ne (by omega), upi_ne (by omega), upi_ne (by omega)]
          exact r5 b e0 e1
        · rw [upi_ne (by omega), upi_ne (by omega)] at e1
          rw [o 8 (by decide), o 9 (by decide), upi_ne (by omega), upi_ne (by omega), upi_ne (by omega), upi_ne (by omega)]
          exact r6 i e0 e1
        · rw [o 10 (by decide)]; exact s1
        · rw [o 10 (by decide)]; exact s2
        · rw [upi_ne (by omega), upi_ne (by omega)] at e1
          rw [o 11 (by decide)]; exact s3 b e0 e1
        · rw [o 11 (by decide)]; exact s4 i e0 e1
        · rw [upi_ne (by omega), upi_ne (by omega)] at e1
          rw [o 11 (by decide)]; exact s5 i e0 e1
      · rw [if_neg c3, if_neg c3]
        by_cases c4 : tx p = 102
        · rw [if_pos c4, q4 c4]
          have o : ∀ a : Nat, a ≠ 4 → k_u f 4 9 (xV tx n (p + 1)) a = f a := fun a ha => by funext j; rw [k_u_ne ha]
          refine ⟨⟨?_, ?_, ?_, ?_, ?_, fun b e0 e1 => ?_, fun i e0 e1 => ?_⟩, ?_, ?_, fun b e0 e1 => ?_, fun i e0 e1 => ?_, fun i e0 e1 => ?_⟩
          · rw [k_u_ne2 (by decide), upi_ne (by omega)]; exact r0
          · rw [k_u_ne2 (by decide), upi_ne (by omega)]; exact r1
          · rw [k_u_ne2 (by decide), upi_ne (by omega)]; exact r2
          · rw [k_u_ne2 (by decide), upi_ne (by omega)]; exact r3
          · rw [k_u_self, upi_self]
          · rw [upi_ne (by omega)] at e1
            rw [o 5 (by decide), o 6 (by decide), o 7 (by decide), upi_ne (by omega), upi_ne (by omega), upi_ne (by omega)]
            exact r5 b e0 e1
          · rw [upi_ne (by omega)] at e1
            rw [o 8 (by decide), o 9 (by decide), upi_ne (by omega), upi_ne (by omega)]
            exact r6 i e0 e1
          · rw [o 10 (by decide)]; exact s1
          · rw [o 10 (by decide)]; exact s2
          · rw [upi_ne (by omega)] at e1
            rw [o 11 (by decide)]; exact s3 b e0 e1
          · rw [o 11 (by decide)]; exact s4 i e0 e1
          · rw [upi_ne (by omega)] at e1
            rw [o 11 (by decide)]; exact s5 i e0 e1
        · exfalso
          unfold xI at g1
          rw [hp, if_neg c1, if_neg c2, if_neg c3, if_neg c4] at g1
          cases g1
theorem c_number {E : kEnv} {w : List (Nat × Nat)} {f : Nat → Int → Int} {g : Nat → Int → Option Nat} {k : Int} (hg : kG g) (hk : 0 ≤ k ∧ k < 4) : kF E 0 M_X5_number [kA (1), kI (k)] ((kMC ++ w), f, g) (some (kI (f 3 k))) ((kMC ++ w), f, g) := by
  refine kF_of (by decide) (by simp [k_one]) (Nat.le_of_ble_eq_true rfl) (L := [some (kA (1)), some (kI (k))]) rfl ?_
  refine kw_iload_n dX5_number_0 rfl ?_
  refine kw_if_lt (tgt := 22) dX5_number_1 (by decide) (fun h1 => ?_) (fun h1 => ?_)
  · refine kw_iconst dX5_number_22 ⟨by decide, by decide⟩ ?_
    first
      | exact kv_ri dX5_number_23 rfl rfl rfl
      | (exfalso; omega)
  · refine kw_iload_n dX5_number_4 rfl ?_
    refine kw_aload_n dX5_number_5 rfl ?_
    refine kv_getR (b := 3) dX5_number_6 kf_X5_15 rfl rfl rfl (hg (1, 1, 3) (by decide)) ?_
    refine kv_alen dX5_number_9 rfl (by decide) ?_
    refine kw_icmp_ge (tgt := 22) dX5_number_10 (by decide) (fun h2 => ?_) (fun h2 => ?_)
    · refine kw_iconst dX5_number_22 ⟨by decide, by decide⟩ ?_
      first
        | exact kv_ri dX5_number_23 rfl rfl rfl
        | (exfalso; omega)
    · refine kw_aload_n dX5_number_13 rfl ?_
      refine kv_getR (b := 3) dX5_number_14 kf_X5_15 rfl rfl rfl (hg (1, 1, 3) (by decide)) ?_
      refine kw_iload_n dX5_number_17 rfl ?_
      refine kv_iald dX5_number_18 rfl (by omega) (by omega) rfl ?_
      refine kw_goto (tgt := 23) dX5_number_19 (by decide) ?_
      first
        | exact kv_ri dX5_number_23 rfl rfl rfl
        | (exfalso; omega)
theorem c_putB {E : kEnv} {w : List (Nat × Nat)} {f : Nat → Int → Int} {g : Nat → Int → Option Nat}  (hg : kG g) (hb : 0 ≤ f 4 5 ∧ f 4 5 < 8) : kF E 1 M_X2_putBough [kA (4), kA (1), kA (10)] ((kMC ++ w), f, g) (none) ((kMC ++ w), kPB f, g) := by
  refine kF_of (by decide) (by simp [k_one]) (Nat.le_of_ble_eq_true rfl) (L := [some (kA (4)), some (kA (1)), some (kA (10))]) rfl ?_
  refine kw_aload_n dX2_putBough_0 rfl ?_
  refine kv_getI (kz := 5) dX2_putBough_1 kf_X2_27 rfl rfl rfl rfl ?_
  refine kw_if_lt (tgt := 81) dX2_putBough_4 (by decide) (kt := fun h1 => absurd h1 (by omega)) (kf := fun h1 => ?_)
  refine kw_aload_n dX2_putBough_7 rfl ?_
  refine kv_getI (kz := 5) dX2_putBough_8 kf_X2_27 rfl rfl rfl rfl ?_
  refine kw_bipush dX2_putBough_11 (by decide) (by decide) ?_
  refine kw_icmp_ge (tgt := 81) dX2_putBough_13 (by decide) (kt := fun h2 => absurd h2 (by omega)) (kf := fun h2 => ?_)
  refine kw_aload_n dX2_putBough_16 rfl ?_
  refine kv_getR (b := 5) dX2_putBough_17 kf_X2_9 rfl rfl rfl (hg (4, 0, 5) (by decide)) ?_
  refine kw_aload_n dX2_putBough_20 rfl ?_
  refine kv_getI (kz := 5) dX2_putBough_21 kf_X2_27 rfl rfl rfl rfl ?_
  refine kw_aload_n dX2_putBough_24 rfl ?_
  refine kw_iconst dX2_putBough_25 ⟨by decide, by decide⟩ ?_
  refine kv_callV1 (M2 := M_X5_number) (As := [kI (0)]) dX2_putBough_26 ml_X2_72 q_X5_number rfl rfl rfl (Nat.le_of_ble_eq_true rfl) (c_number hg ⟨by decide, by decide⟩) (by omega) ?_
  refine kv_iast dX2_putBough_29 rfl (by omega) (by omega) ?_
  refine kw_aload_n dX2_putBough_30 rfl ?_
  refine kv_getR (b := 6) dX2_putBough_31 kf_X2_15 rfl rfl rfl (hg (4, 1, 6) (by decide)) ?_
  refine kw_aload_n dX2_putBough_34 rfl ?_
  refine kv_getI (kz := 5) dX2_putBough_35 kf_X2_27 rfl rfl rfl (k_u_ne (by omega)) ?_
  refine kw_aload_n dX2_putBough_38 rfl ?_
  refine kw_iconst dX2_putBough_39 ⟨by decide, by decide⟩ ?_
  refine kv_callV1 (M2 := M_X5_number) (As := [kI (1)]) dX2_putBough_40 ml_X2_72 q_X5_number rfl rfl rfl (Nat.le_of_ble_eq_true rfl) (show kF E 0 M_X5_number [kA 1, kI 1] ((kMC ++ w), k_u f 5 (f 4 5) (f 3 0), g) (some (kI (f 3 1))) ((kMC ++ w), k_u f 5 (f 4 5) (f 3 0), g) from (show (k_u f 5 (f 4 5) (f 3 0)) 3 1 = f 3 1 from (k_u_ne (by omega))) ▸ c_number hg ⟨by decide, by decide⟩) (by omega) ?_
  refine kv_iast dX2_putBough_43 rfl (by omega) (by omega) ?_
  refine kw_aload_n dX2_putBough_44 rfl ?_
  refine kv_getR (b := 7) dX2_putBough_45 kf_X2_18 rfl rfl rfl (hg (4, 2, 7) (by decide)) ?_
  refine kw_aload_n dX2_putBough_48 rfl ?_
  refine kv_getI (kz := 5) dX2_putBough_49 kf_X2_27 rfl rfl rfl ((k_u_ne (by omega)).trans (k_u_ne (by omega))) ?_
  refine kw_aload_n dX2_putBough_52 rfl ?_
  refine kw_iconst dX2_putBough_53 ⟨by decide, by decide⟩ ?_
  refine kv_callV1 (M2 := M_X5_number) (As := [kI (2)]) dX2_putBough_54 ml_X2_72 q_X5_number rfl rfl rfl (Nat.le_of_ble_eq_true rfl) (show kF E 0 M_X5_number [kA 1, kI 2] ((kMC ++ w), k_u (k_u f 5 (f 4 5) (f 3 0)) 6 (f 4 5) (f 3 1), g) (some (kI (f 3 2))) ((kMC ++ w), k_u (k_u f 5 (f 4 5) (f 3 0)) 6 (f 4 5) (f 3 1), g) from (show (k_u (k_u f 5 (f 4 5) (f 3 0)) 6 (f 4 5) (f 3 1)) 3 2 = f 3 2 from ((k_u_ne (by omega)).trans (k_u_ne (by omega)))) ▸ c_number hg ⟨by decide, by decide⟩) (by omega) ?_
  refine kv_iast dX2_putBough_57 rfl (by omega) (by omega) ?_
  refine kw_aload_n dX2_putBough_58 rfl ?_
  refine kw_aload_n dX2_putBough_59 rfl ?_
  refine kv_getI (kz := 5) dX2_putBough_60 kf_X2_27 rfl rfl rfl ((k_u_ne (by omega)).trans ((k_u_ne (by omega)).trans (k_u_ne (by omega)))) ?_
  refine kw_aload_n dX2_putBough_63 rfl ?_
  refine kw_iconst dX2_putBough_64 ⟨by decide, by decide⟩ ?_
  refine kv_callV1 (M2 := M_X5_number) (As := [kI (3)]) dX2_putBough_65 ml_X2_72 q_X5_number rfl rfl rfl (Nat.le_of_ble_eq_true rfl) (show kF E 0 M_X5_number [kA 1, kI 3] ((kMC ++ w), k_u (k_u (k_u f 5 (f 4 5) (f 3 0)) 6 (f 4 5) (f 3 1)) 7 (f 4 5) (f 3 2), g) (some (kI (f 3 3))) ((kMC ++ w), k_u (k_u (k_u f 5 (f 4 5) (f 3 0)) 6 (f 4 5) (f 3 1)) 7 (f 4 5) (f 3 2), g) from (show (k_u (k_u (k_u f 5 (f 4 5) (f 3 0)) 6 (f 4 5) (f 3 1)) 7 (f 4 5) (f 3 2)) 3 3 = f 3 3 from ((k_u_ne (by omega)).trans ((k_u_ne (by omega)).trans (k_u_ne (by omega))))) ▸ c_number hg ⟨by decide, by decide⟩) (by omega) ?_
  refine kv_callV0 (M2 := M_X4_setDeadFrom) (As := [kI (f 4 5), kI (f 3 3)]) dX2_putBough_68 ml_X2_75 q_X4_setDeadFrom rfl rfl rfl (Nat.le_of_ble_eq_true rfl) (c_setDeadR (by unfold kSA; omega) hg (by omega)) (by omega) ?_
  refine kw_aload_n dX2_putBough_71 rfl ?_
  refine kw_dup dX2_putBough_72 trivial ?_
  refine kv_getI (kz := 5) dX2_putBough_73 kf_X2_27 rfl rfl rfl ((k_u_ne (by omega)).trans ((k_u_ne (by omega)).trans ((k_u_ne (by omega)).trans (k_u_ne (by omega))))) ?_
  refine kw_iconst dX2_putBough_76 ⟨by decide, by decide⟩ ?_
  refine kw_iadd dX2_putBough_77 ⟨by omega, by omega⟩ ?_
  refine kv_putI (kz := 5) dX2_putBough_78 kp_X2_27 rfl rfl (fun h => by cases h) rfl ?_
  exact kv_rv dX2_putBough_81 rfl rfl
theorem c_putT {E : kEnv} {w : List (Nat × Nat)} {f : Nat → Int → Int} {g : Nat → Int → Option Nat}  (hg : kG g) (hb : 0 ≤ f 4 6 ∧ f 4 6 < 4) : kF E 1 M_X2_putTenant [kA (4), kA (1), kA (10)] ((kMC ++ w), f, g) (none) ((kMC ++ w), kPT f, g) := by
  refine kF_of (by decide) (by simp [k_one]) (Nat.le_of_ble_eq_true rfl) (L := [some (kA (4)), some (kA (1)), some (kA (10))]) rfl ?_
  refine kw_aload_n dX2_putTenant_0 rfl ?_
  refine kv_getI (kz := 6) dX2_putTenant_1 kf_X2_31 rfl rfl rfl rfl ?_
  refine kw_if_lt (tgt := 66) dX2_putTenant_4 (by decide) (kt := fun h1 => absurd h1 (by omega)) (kf := fun h1 => ?_)
  refine kw_aload_n dX2_putTenant_7 rfl ?_
  refine kv_getI (kz := 6) dX2_putTenant_8 kf_X2_31 rfl rfl rfl rfl ?_
  refine kw_iconst dX2_putTenant_11 ⟨by decide, by decide⟩ ?_
  refine kw_icmp_ge (tgt := 66) dX2_putTenant_12 (by decide) (kt := fun h2 => absurd h2 (by omega)) (kf := fun h2 => ?_)
  refine kw_aload_n dX2_putTenant_15 rfl ?_
  refine kw_aload_n dX2_putTenant_16 rfl ?_
  refine kv_getI (kz := 6) dX2_putTenant_17 kf_X2_31 rfl rfl rfl rfl ?_
  refine kw_aload_n dX2_putTenant_20 rfl ?_
  refine kw_iconst dX2_putTenant_21 ⟨by decide, by decide⟩ ?_
  refine kv_callV1 (M2 := M_X5_number) (As := [kI (0)]) dX2_putTenant_22 ml_X2_72 q_X5_number rfl rfl rfl (Nat.le_of_ble_eq_true rfl) (c_number hg ⟨by decide, by decide⟩) (by omega) ?_
  refine kv_callV0 (M2 := M_X4_setReach) (As := [kI (f 4 6), kI (f 3 0)]) dX2_putTenant_25 ml_X2_79 q_X4_setReach rfl rfl rfl (Nat.le_of_ble_eq_true rfl) (c_setReachR (by unfold kSA; omega) hg (by omega)) (by omega) ?_
  refine kw_aload_n dX2_putTenant_28 rfl ?_
  refine kv_getR (b := 8) dX2_putTenant_29 kf_X2_21 rfl rfl rfl (hg (4, 3, 8) (by decide)) ?_
  refine kw_aload_n dX2_putTenant_32 rfl ?_
  refine kv_getI (kz := 6) dX2_putTenant_33 kf_X2_31 rfl rfl rfl (k_u_ne (by omega)) ?_
  refine kw_aload_n dX2_putTenant_36 rfl ?_
  refine kw_iconst dX2_putTenant_37 ⟨by decide, by decide⟩ ?_
  refine kv_callV1 (M2 := M_X5_number) (As := [kI (1)]) dX2_putTenant_38 ml_X2_72 q_X5_number rfl rfl rfl (Nat.le_of_ble_eq_true rfl) (show kF E 0 M_X5_number [kA 1, kI 1] ((kMC ++ w), k_u f 11 (12 + f 4 6) (f 3 0), g) (some (kI (f 3 1))) ((kMC ++ w), k_u f 11 (12 + f 4 6) (f 3 0), g) from (show (k_u f 11 (12 + f 4 6) (f 3 0)) 3 1 = f 3 1 from (k_u_ne (by omega))) ▸ c_number hg ⟨by decide, by decide⟩) (by omega) ?_
  refine kv_iast dX2_putTenant_41 rfl (by omega) (by omega) ?_
  refine kw_aload_n dX2_putTenant_42 rfl ?_
  refine kv_getR (b := 9) dX2_putTenant_43 kf_X2_24 rfl rfl rfl (hg (4, 4, 9) (by decide)) ?_
  refine kw_aload_n dX2_putTenant_46 rfl ?_
  refine kv_getI (kz := 6) dX2_putTenant_47 kf_X2_31 rfl rfl rfl ((k_u_ne (by omega)).trans (k_u_ne (by omega))) ?_
  refine kw_aload_n dX2_putTenant_50 rfl ?_
  refine kw_iconst dX2_putTenant_51 ⟨by decide, by decide⟩ ?_
  refine kv_callV1 (M2 := M_X5_number) (As := [kI (2)]) dX2_putTenant_52 ml_X2_72 q_X5_number rfl rfl rfl (Nat.le_of_ble_eq_true rfl) (show kF E 0 M_X5_number [kA 1, kI 2] ((kMC ++ w), k_u (k_u f 11 (12 + f 4 6) (f 3 0)) 8 (f 4 6) (f 3 1), g) (some (kI (f 3 2))) ((kMC ++ w), k_u (k_u f 11 (12 + f 4 6) (f 3 0)) 8 (f 4 6) (f 3 1), g) from (show (k_u (k_u f 11 (12 + f 4 6) (f 3 0)) 8 (f 4 6) (f 3 1)) 3 2 = f 3 2 from ((k_u_ne (by omega)).trans (k_u_ne (by omega)))) ▸ c_number hg ⟨by decide, by decide⟩) (by omega) ?_
  refine kv_iast dX2_putTenant_55 rfl (by omega) (by omega) ?_
  refine kw_aload_n dX2_putTenant_56 rfl ?_
  refine kw_dup dX2_putTenant_57 trivial ?_
  refine kv_getI (kz := 6) dX2_putTenant_58 kf_X2_31 rfl rfl rfl ((k_u_ne (by omega)).trans ((k_u_ne (by omega)).trans (k_u_ne (by omega)))) ?_
  refine kw_iconst dX2_putTenant_61 ⟨by decide, by decide⟩ ?_
  refine kw_iadd dX2_putTenant_62 ⟨by omega, by omega⟩ ?_
  refine kv_putI (kz := 6) dX2_putTenant_63 kp_X2_31 rfl rfl (fun h => by cases h) rfl ?_
  exact kv_rv dX2_putTenant_66 rfl rfl
theorem c_put {E : kEnv} {w : List (Nat × Nat)} {f : Nat → Int → Int} {g : Nat → Int → Option Nat} {c : Int} (hg : kG g) (h1 : c ≠ 98 ∨ (0 ≤ f 4 5 ∧ f 4 5 < 8)) (h2 : c ≠ 116 ∨ (0 ≤ f 4 6 ∧ f 4 6 < 4)) : kF E 2 M_X2_put [kA (4), kI (c), kA (1), kA (10)] ((kMC ++ w), f, g) (none) ((kMC ++ w), kPt f c, g) := by
  refine kF_of (by decide) (by simp [k_one]) (Nat.le_of_ble_eq_true rfl) (L := [some (kA (4)), some (kI (c)), some (kA (1)), some (kA (10))]) rfl ?_
  refine kw_iload_n dX2_put_0 rfl ?_
  refine kw_bipush dX2_put_1 (by decide) (by decide) ?_
  refine kw_icmp_ne (tgt := 15) dX2_put_3 (by decide) (fun h1 => ?_) (fun h1 => ?_)
  · refine kw_iload_n dX2_put_15 rfl ?_
    refine kw_bipush dX2_put_16 (by decide) (by decide) ?_
    refine kw_icmp_ne (tgt := 30) dX2_put_18 (by decide) (fun h2 => ?_) (fun h2 => ?_)
    · refine kw_iload_n dX2_put_30 rfl ?_
      refine kw_bipush dX2_put_31 (by decide) (by decide) ?_
      refine kw_icmp_ne (tgt := 57) dX2_put_33 (by decide) (fun h3 => ?_) (fun h3 => ?_)
      · refine kw_iload_n dX2_put_57 rfl ?_
        refine kw_bipush dX2_put_58 (by decide) (by decide) ?_
        refine kw_icmp_ne (tgt := 72) dX2_put_60 (by decide) (fun h4 => ?_) (fun h4 => ?_)
        · exact kv_rv dX2_put_72 rfl (by unfold kPt; (repeat rw [if_neg (by omega)]); try rw [if_pos (by omega)])
        · refine kw_aload_n dX2_put_63 rfl ?_
          refine kw_aload_n dX2_put_64 rfl ?_
          refine kw_iconst dX2_put_65 ⟨by decide, by decide⟩ ?_
          refine kv_callV1 (M2 := M_X5_number) (As := [kI (0)]) dX2_put_66 ml_X2_72 q_X5_number rfl rfl rfl (Nat.le_of_ble_eq_true rfl) (c_number hg ⟨by decide, by decide⟩) (by omega) ?_
          refine kv_putI (kz := 9) dX2_put_69 kp_X2_40 rfl rfl (fun h => by cases h) rfl ?_
          exact kv_rv dX2_put_72 rfl (by unfold kPt; (repeat rw [if_neg (by omega)]); try rw [if_pos (by omega)])
      · refine kw_aload_n dX2_put_36 rfl ?_
        refine kw_aload_n dX2_put_37 rfl ?_
        refine kw_iconst dX2_put_38 ⟨by decide, by decide⟩ ?_
        refine kv_callV1 (M2 := M_X5_number) (As := [kI (0)]) dX2_put_39 ml_X2_72 q_X5_number rfl rfl rfl (Nat.le_of_ble_eq_true rfl) (c_number hg ⟨by decide, by decide⟩) (by omega) ?_
        refine kv_putI (kz := 7) dX2_put_42 kp_X2_34 rfl rfl (fun h => by cases h) rfl ?_
        refine kw_aload_n dX2_put_45 rfl ?_
        refine kw_aload_n dX2_put_46 rfl ?_
        refine kw_iconst dX2_put_47 ⟨by decide, by decide⟩ ?_
        refine kv_callV1 (M2 := M_X5_number) (As := [kI (1)]) dX2_put_48 ml_X2_72 q_X5_number rfl rfl rfl (Nat.le_of_ble_eq_true rfl) (show kF E 0 M_X5_number [kA 1, kI 1] ((kMC ++ w), k_u f 4 7 (f 3 0), g) (some (kI (f 3 1))) ((kMC ++ w), k_u f 4 7 (f 3 0), g) from (show (k_u f 4 7 (f 3 0)) 3 1 = f 3 1 from (k_u_ne2 (by decide))) ▸ c_number hg ⟨by decide, by decide⟩) (by omega) ?_
        refine kv_putI (kz := 8) dX2_put_51 kp_X2_37 rfl rfl (fun h => by cases h) rfl ?_
        refine kw_goto (tgt := 72) dX2_put_54 (by decide) ?_
        exact kv_rv dX2_put_72 rfl (by unfold kPt; (repeat rw [if_neg (by omega)]); try rw [if_pos (by omega)])
    · refine kw_aload_n dX2_put_21 rfl ?_
      refine kw_aload_n dX2_put_22 rfl ?_
      refine kw_aload_n dX2_put_23 rfl ?_
      refine kv_callV0 (M2 := M_X2_putTenant) (As := [kA (1), kA (10)]) dX2_put_24 ml_X2_69 q_X2_putTenant rfl rfl rfl (Nat.le_of_ble_eq_true rfl) (c_putT hg (by omega)) (by omega) ?_
      refine kw_goto (tgt := 72) dX2_put_27 (by decide) ?_
      exact kv_rv dX2_put_72 rfl (by unfold kPt; (repeat rw [if_neg (by omega)]); try rw [if_pos (by omega)])
  · refine kw_aload_n dX2_put_6 rfl ?_
    refine kw_aload_n dX2_put_7 rfl ?_
    refine kw_aload_n dX2_put_8 rfl ?_
    refine kv_callV0 (M2 := M_X2_putBough) (As := [kA (1), kA (10)]) dX2_put_9 ml_X2_65 q_X2_putBough rfl rfl rfl (Nat.le_of_ble_eq_true rfl) (c_putB hg (by omega)) (by omega) ?_
    refine kw_goto (tgt := 72) dX2_put_12 (by decide) ?_
    exact kv_rv dX2_put_72 rfl (by unfold kPt; (repeat rw [if_neg (by omega)]); try rw [if_pos (by omega)])
theorem l_has {E : kEnv} {w : List (Nat × Nat)} {f : Nat → Int → Int} {g : Nat → Int → Option Nat} {tx : Int → Int} {n : Int} {c : Int} (hg : kG g) (hx : kTx tx n f) : ∀ (m : Nat) (k : Int), (0 ≤ k ∧ k ≤ n) → (n - k).toNat < m → hsB tx c k.toNat = false → kW E 1 0 0 M_X5_has 2 [some (kA 1), some (kI c), some (kI k)] [] ((kMC ++ w), f, g) (fun r h' => r = some (kI (if hsB tx c n.toNat = true then 1 else 0)) ∧ h' = ((kMC ++ w), f, g)) := by
  intro m
  induction m with
  | zero => intro k _ y; omega
  | succ m ih =>
    intro k y0 y1 z1
    have hn := hx.1
    refine kw_iload_n dX5_has_2 rfl ?_
    refine kw_aload_n dX5_has_3 rfl ?_
    refine kv_getI (kz := 2) dX5_has_4 kf_X5_19 rfl rfl rfl rfl ?_
    refine kw_icmp_ge (tgt := 27) dX5_has_7 (by decide) (fun h1 => ?_) (fun h1 => ?_)
    · refine kw_iconst dX5_has_27 ⟨by decide, by decide⟩ ?_
      rw [show k = n by omega] at z1
      exact kv_rb dX5_has_28 rfl (if_neg (by rw [z1]; decide)).symm rfl
    · refine kw_aload_n dX5_has_10 rfl ?_
      refine kw_iload_n dX5_has_11 rfl ?_
      refine kv_callV1 (M2 := M_X5_letter) (As := [kI (k)]) dX5_has_12 ml_X5_40 q_X5_letter rfl rfl rfl (Nat.le_of_ble_eq_true rfl) (c_letX hg hx (by omega)) (by omega) ?_
      have yp : yL tx n k = tx k := if_pos (by omega)
      refine kw_iload_n dX5_has_15 rfl ?_
      refine kw_icmp_ne (tgt := 21) dX5_has_16 (by decide) (fun h2 => ?_) (fun h2 => ?_)
      · refine kw_iinc dX5_has_21 (by decide) rfl ⟨by omega, by omega⟩ trivial (L2 := [some (kA (1)), some (kI (c)), some (kI (k + 1))]) rfl ?_
        refine kw_goto (tgt := 2) dX5_has_24 (by decide) ?_
        refine ih (k + 1) ⟨by omega, by omega⟩ (by omega) ?_
        rw [show (k + 1).toNat = k.toNat + 1 by omega, hsB, z1, k_nat y0.1, Bool.false_or]
        exact decide_eq_false (by omega)
      · refine kw_iconst dX5_has_19 ⟨by decide, by decide⟩ ?_
        exact kv_rb dX5_has_20 rfl (if_pos ((hsB_i n.toNat).mpr ⟨k, y0.1, by omega, by omega⟩)).symm rfl
theorem c_has {E : kEnv} {w : List (Nat × Nat)} {f : Nat → Int → Int} {g : Nat → Int → Option Nat} {tx : Int → Int} {n : Int} {c : Int} (hg : kG g) (hx : kTx tx n f) : kF E 1 M_X5_has [kA (1), kI (c)] ((kMC ++ w), f, g) (some (kI (if hsB tx c n.toNat = true then 1 else 0))) ((kMC ++ w), f, g) := by
  refine kF_of (by decide) (by simp [k_one]) (Nat.le_of_ble_eq_true rfl) (L := [some (kA (1)), some (kI (c)), none]) rfl ?_
  refine kw_iconst dX5_has_0 ⟨by decide, by decide⟩ ?_
  refine kw_istore_n dX5_has_1 (by decide) trivial (L2 := [some (kA (1)), some (kI (c)), some (kI (0))]) rfl ?_
  exact l_has hg hx _ 0 ⟨by omega, by have := hx.1; omega⟩ (Nat.lt_succ_self _) rfl
/-- the text can be laid -/
def oLd (tx : Int → Int) (n : Int) (F : Nat) (T s : Int → Int) : Bool := decide ((rA tx n F 0 T s).1 = -4 ∧ 1 ≤ (rA tx n F 0 T s).2.1 0 ∧ 1 ≤ (rA tx n F 0 T s).2.1 1)
theorem oLd_i {tx : Int → Int} {n : Int} {F : Nat} {T s : Int → Int} : oLd tx n F T s = true ↔ ((rA tx n F 0 T s).1 = -4 ∧ 1 ≤ (rA tx n F 0 T s).2.1 0 ∧ 1 ≤ (rA tx n F 0 T s).2.1 1) := by simp [oLd]
theorem oLd_h {tx : Int → Int} {n : Int} {F : Nat} {T s : Int → Int} (hn : 0 ≤ n) (hF : n < F) (hT : mTp T) (hS : mSp T s) (h0 : T 0 = 0) (h1 : T 1 = 0) : oLd tx n F T s = true ↔ (rA tx n F 0 T s).1 = -4 ∧ hsB tx 98 n.toNat = true ∧ hsB tx 116 n.toNat = true := by
  rw [oLd_i]
  have a := rA_cnt (tx := tx) (n := n) F 0 T s hT hS (by omega)
  have b := rA_has (tx := tx) (n := n) F 0 T s hT hS (by omega) (by omega)
  rw [h0, h1] at a b
  constructor
  · rintro ⟨z1, z2, z3⟩
    obtain ⟨r, r0, r1, r2⟩ := a.1 (by omega)
    obtain ⟨q, q0, q1, q2⟩ := a.2 (by omega)
    exact ⟨z1, (hsB_i _).mpr ⟨r, r0, by omega, r2⟩, (hsB_i _).mpr ⟨q, q0, by omega, q2⟩⟩
  · rintro ⟨z1, z2, z3⟩
    obtain ⟨r, r0, r1, r2⟩ := (hsB_i _).mp z2
    obtain ⟨q, q0, q1, q2⟩ := (hsB_i _).mp z3
    have y1 := (b z1 r r0 (by omega)).1 r2
    have y2 := (b z1 q q0 (by omega)).2 q2
    exact ⟨z1, by omega, by omega⟩
theorem c_canLay {E : kEnv} {w : List (Nat × Nat)} {f : Nat → Int → Int} {g : Nat → Int → Option Nat} {tx : Int → Int} {n : Int} {T s : Int → Int} {F : Nat} (hg : kG g) (hx : kTx tx n f) (hF : n < F) (hT : mTp T) (hS : mSp T s) (h0 : T 0 = 0) (h1 : T 1 = 0) : kFE E 4 M_X5_canBeLaid [kA (1)] ((kMC ++ w), f, g) (some (kI (if oLd tx n F T s = true then 1 else 0))) (kMC ++ w) (k3 f) g := by
  refine kFE_of (by decide) (by simp [k_one]) (Nat.le_of_ble_eq_true rfl) (L := [some (kA (1))]) rfl ?_
  have ho := oLd_h (tx := tx) hx.1.2.1 hF hT hS h0 h1
  refine kw_aload_n dX5_canBeLaid_0 rfl ?_
  refine kv_callV1E (M2 := M_X5_firstFault) (As := []) dX5_canBeLaid_1 ml_X5_43 q_X5_firstFault rfl rfl rfl (Nat.le_of_ble_eq_true rfl) (c_fault0 hg hx hF hT hS h0 h1) (by omega) (fun f9 h9 => ?_)
  have hx := kTx_3 hx h9
  refine kw_bipush dX5_canBeLaid_4 (by decide) (by decide) ?_
  refine kw_icmp_ne (tgt := 31) dX5_canBeLaid_6 (by decide) (fun h1 => ?_) (fun h1 => ?_)
  · refine kw_iconst dX5_canBeLaid_31 ⟨by decide, by decide⟩ ?_
    exact kv_rbE dX5_canBeLaid_32 rfl (if_neg (fun z => by have y := ho.mp z; first | exact absurd y.2.1 (by assumption) | exact absurd y.2.2 (by assumption) | (have := y.1; omega))).symm h9
  · refine kw_aload_n dX5_canBeLaid_9 rfl ?_
    refine kw_bipush dX5_canBeLaid_10 (by decide) (by decide) ?_
    refine kv_callV1 (M2 := M_X5_has) (As := [kI (98)]) dX5_canBeLaid_12 ml_X5_46 q_X5_has rfl rfl rfl (Nat.le_of_ble_eq_true rfl) (c_has hg hx) (by omega) ?_
    refine kv_ifeqB (tgt := 31) dX5_canBeLaid_15 (by decide) (fun h2 => ?_) (fun h2 => ?_)
    · refine kw_iconst dX5_canBeLaid_31 ⟨by decide, by decide⟩ ?_
      exact kv_rbE dX5_canBeLaid_32 rfl (if_neg (fun z => by have y := ho.mp z; first | exact absurd y.2.1 (by assumption) | exact absurd y.2.2 (by assumption) | (have := y.1; omega))).symm h9
    · refine kw_aload_n dX5_canBeLaid_18 rfl ?_
      refine kw_bipush dX5_canBeLaid_19 (by decide) (by decide) ?_
      refine kv_callV1 (M2 := M_X5_has) (As := [kI (116)]) dX5_canBeLaid_21 ml_X5_46 q_X5_has rfl rfl rfl (Nat.le_of_ble_eq_true rfl) (c_has hg hx) (by omega) ?_
      refine kv_ifeqB (tgt := 31) dX5_canBeLaid_24 (by decide) (fun h3 => ?_) (fun h3 => ?_)
      · refine kw_iconst dX5_canBeLaid_31 ⟨by decide, by decide⟩ ?_
        exact kv_rbE dX5_canBeLaid_32 rfl (if_neg (fun z => by have y := ho.mp z; first | exact absurd y.2.1 (by assumption) | exact absurd y.2.2 (by assumption) | (have := y.1; omega))).symm h9
      · refine kw_iconst dX5_canBeLaid_27 ⟨by decide, by decide⟩ ?_
        refine kw_goto (tgt := 32) dX5_canBeLaid_28 (by decide) ?_
        exact kv_rbE dX5_canBeLaid_32 rfl (if_pos (ho.mpr ⟨by omega, by assumption, by assumption⟩)).symm h9
theorem c_fault {E : kEnv} {w : List (Nat × Nat)} {f : Nat → Int → Int} {g : Nat → Int → Option Nat} {tx : Int → Int} {n : Int} {T s : Int → Int} {F : Nat} (hg : kG g) (hx : kTx tx n f) (hF : n < F) (hT : mTp T) (hS : mSp T s) (h0 : T 0 = 0) (h1 : T 1 = 0) : kFE E 4 M_X6_fault [kA (0)] ((kMC ++ w), f, g) (some (kI ((rA tx n F 0 T s).1))) (kMC ++ w) (k3 f) g := by
  refine kFE_of (by decide) (by simp [k_one]) (Nat.le_of_ble_eq_true rfl) (L := [some (kA (0))]) rfl ?_
  refine kw_aload_n dX6_fault_0 rfl ?_
  refine kv_getR (b := 1) dX6_fault_1 kf_X6_10 rfl rfl rfl (hg (0, 0, 1) (by decide)) ?_
  refine kv_callV1E (M2 := M_X5_firstFault) (As := []) dX6_fault_4 ml_X6_84 q_X5_firstFault rfl rfl rfl (Nat.le_of_ble_eq_true rfl) (c_fault0 hg hx hF hT hS h0 h1) (by omega) (fun f9 h9 => ?_)
  have hx := kTx_3 hx h9
  exact kv_riE dX6_fault_7 rfl rfl h9
