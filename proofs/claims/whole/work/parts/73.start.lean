/-! what the Statement gives of the start -/
def kTxt : Term := Term.field (Term.string RX6 58) RJ0 "value" "[B"
theorem fl_L : ∀ j, j < 10 → (flatC (Jvm.Cond.and given_1 narrow_1))[12 + j]? = some (Cond.eq (Term.elem (Term.static RX5 "LEAST" "[I") (Term.int (Int32.ofNat j))) (Term.int (Int32.ofInt (k_LEAST.getD j 0)))) := by decide +kernel
theorem fl_M : ∀ j, j < 10 → (flatC (Jvm.Cond.and given_1 narrow_1))[25 + j]? = some (Cond.eq (Term.elem (Term.static RX5 "MOST" "[I") (Term.int (Int32.ofNat j))) (Term.int (Int32.ofInt (k_MOST.getD j 0)))) := by decide +kernel
theorem fl_T : ∀ j, j < 87 → (flatC (Jvm.Cond.and given_1 narrow_1))[39 + j]? = some (Cond.eq (Term.elem kTxt (Term.int (Int32.ofNat j))) (Term.int (Int32.ofInt (k_FT.getD j 0)))) := by decide +kernel
theorem fl_x : (flatC (Jvm.Cond.and given_1 narrow_1))[4]? = some (Cond.eq (Term.static RJ0 "COMPACT_STRINGS" "Z") (Term.int 1)) ∧ (flatC (Jvm.Cond.and given_1 narrow_1))[5]? = some (Cond.isRef (Term.static RJ3 "SIOOBE_FORMATTER" "Ljava/util/function/BiFunction;")) ∧ (flatC (Jvm.Cond.and given_1 narrow_1))[10]? = some (Cond.arrayOf (Term.static RX5 "LEAST" "[I") .int) ∧ (flatC (Jvm.Cond.and given_1 narrow_1))[11]? = some (Cond.eq (Term.length (Term.static RX5 "LEAST" "[I")) (Term.int (Int32.ofNat 10))) ∧ (flatC (Jvm.Cond.and given_1 narrow_1))[23]? = some (Cond.arrayOf (Term.static RX5 "MOST" "[I") .int) ∧ (flatC (Jvm.Cond.and given_1 narrow_1))[24]? = some (Cond.eq (Term.length (Term.static RX5 "MOST" "[I")) (Term.int (Int32.ofNat 10))) ∧ (flatC (Jvm.Cond.and given_1 narrow_1))[35]? = some (Cond.exactly (Term.string RX6 58) RJ0) ∧ (flatC (Jvm.Cond.and given_1 narrow_1))[36]? = some (Cond.eq (Term.field (Term.string RX6 58) RJ0 "coder" "B") (Term.int 0)) ∧ (flatC (Jvm.Cond.and given_1 narrow_1))[37]? = some (Cond.arrayOf kTxt .byte) ∧ (flatC (Jvm.Cond.and given_1 narrow_1))[38]? = some (Cond.eq (Term.length kTxt) (Term.int (Int32.ofNat 87))) := by decide +kernel
theorem kt1 {w : Cond} (i : Nat) (h : tables_1_1[i]? = some w) : w ∈ lw_tbl := List.mem_append_right _ (List.mem_append_left _ (List.mem_of_getElem? h))
theorem kt2 {w : Cond} (i : Nat) (h : tables_1_2[i]? = some w) : w ∈ lw_tbl := List.mem_append_right _ (List.mem_append_right _ (List.mem_append_left _ (List.mem_of_getElem? h)))
theorem kt_nest : ∀ q ∈ k_nest, Cond.methodLinkNest q.2.1 q.1 q.2.2 RX6 ∈ lw_tbl := by
  intro q hq
  simp only [k_nest, List.mem_cons, List.not_mem_nil, or_false] at hq
  rcases hq with rfl | rfl | rfl | rfl | rfl | rfl
  · exact kt1 26 (by rfl)
  · exact kt1 46 (by rfl)
  · exact kt1 92 (by rfl)
  · exact kt1 122 (by rfl)
  · exact kt1 138 (by rfl)
  · exact kt2 30 (by rfl)
def kSv (a0 a1 a2 a3 a4 v5 : Value) (j : Nat) : Value := match j with
  | 0 => a0
  | 1 => a1
  | 2 => a2
  | 3 => a3
  | 4 => a4
  | 5 => v5
  | _ => .null
theorem start_stat {s : State} {b L : Nat} {xs : Nat → Int32} (l : Launch) (hts : ∀ w ∈ lw_tbl, w.before #[Value.ref b] s = true) (hX : va_X b L xs s s.heap) (hbl : b < s.heap.size) (hgv : (Jvm.Cond.and given_1 narrow_1).before #[Value.ref b] s = true) : ∃ E : kEnv, kl E = l ∧ kb E = s.heap.size ∧ ksv E 2 = .ref b ∧ kX E = (L, fun j => (xs j).toInt) ∧ k_stat E s := by
  have hk : ∀ w ∈ k_KT, w.before #[Value.ref b] s = true := fun w hw => hts w (k_sub w hw)
  have hs := flat_of_before _ hgv
  obtain ⟨x4, x5, x10, x11, x23, x24, x35, x36, x37, x38⟩ := fl_x
  obtain ⟨c0, i0, h0⟩ := u_known (C := RX0) (T := TX0) (N := 2) (n := 2) hk inK0 (hk _ is_X0)
  obtain ⟨c1, i1, h1⟩ := u_known (C := RX1) (T := TX1) (N := 7) (n := 7) hk inK1 (hk _ is_X1)
  obtain ⟨c2, i2, h2⟩ := u_known (C := RX2) (T := TX2) (N := 10) (n := 10) hk inK2 (hk _ is_X2)
  obtain ⟨c3, i3, h3⟩ := u_known (C := RX3) (T := TX3) (N := 2) (n := 2) hk inK3 (hk _ is_X3)
  obtain ⟨c4, i4, h4⟩ := u_known (C := RX4) (T := TX4) (N := 3) (n := 3) hk inK4 (hk _ is_X4)
  obtain ⟨c5, i5, h5⟩ := u_known (C := RX5) (T := TX5) (N := 3) (n := 3) hk inK5 (hk _ is_X5)
  obtain ⟨c6, i6, h6⟩ := u_known (C := RX6) (T := TX6) (N := 7) (n := 7) hk inK6 (hk _ is_X6)
  obtain ⟨c7, i7, h7⟩ := u_known (C := RX7) (T := TX7) (N := 14) (n := 14) hk inK7 (hk _ is_X7)
  obtain ⟨D, hD⟩ : ∃ D : va_G, ∀ (c : Nat) (q : vw_C), vwCl[c]? = some q → u_Kn s q.1 q.2.1 q.2.2 (D.1 c) (D.2 c) := by
    refine ⟨(fun k => match k with | 0 => c0 | 1 => c1 | 2 => c2 | 3 => c3 | 4 => c4 | 5 => c5 | 6 => c6 | _ => c7, fun k => match k with | 0 => i0 | 1 => i1 | 2 => i2 | 3 => i3 | 4 => i4 | 5 => i5 | 6 => i6 | _ => i7), ?_⟩
    intro k q hq
    match k, hq with
    | 0, hq => cases hq; exact h0
    | 1, hq => cases hq; exact h1
    | 2, hq => cases hq; exact h2
    | 3, hq => cases hq; exact h3
    | 4, hq => cases hq; exact h4
    | 5, hq => cases hq; exact h5
    | 6, hq => cases hq; exact h6
    | 7, hq => cases hq; exact h7
    | k + 8, hq => simp at hq
  obtain ⟨aI, kI1, pI, fI, gI, eI⟩ := Cond.arrayClass_spec (hk _ ac_int)
  obtain ⟨aC, kC1, pC, fC, gC, eC⟩ := Cond.arrayClass_spec (hk _ ac_char)
  have hover : (Cond.arrayOver (.object RX4)).before #[Value.ref b] s = true := hts _ (kt1 121 (by rfl))
  obtain ⟨pS, aS, kS1, qS, rS, gS, eS, fS⟩ := Cond.arrayOver_spec hover
  have hA : ∀ a : Nat, a < s.heap.size → ¬ (fun q : Nat => s.heap.size ≤ q) a := fun a ha => Nat.not_le.mpr ha
  obtain ⟨tL, eL, TL⟩ := va_Tof (f := fun j => .int (Int32.ofInt (k_LEAST.getD j 0))) (N := 10) (A := fun q : Nat => s.heap.size ≤ q) (by decide) (hs _ (List.mem_of_getElem? x10)) (va_eqt (hs _ (List.mem_of_getElem? x11))) (fun j hj => va_eqt (hs _ (List.mem_of_getElem? (fl_L j hj)))) hA
  obtain ⟨tM, eM, TM⟩ := va_Tof (f := fun j => .int (Int32.ofInt (k_MOST.getD j 0))) (N := 10) (A := fun q : Nat => s.heap.size ≤ q) (by decide) (hs _ (List.mem_of_getElem? x23)) (va_eqt (hs _ (List.mem_of_getElem? x24))) (fun j hj => va_eqt (hs _ (List.mem_of_getElem? (fl_M j hj)))) hA
  obtain ⟨tv, ev, TV⟩ := va_Tof (f := fun j => .int (Int32.ofInt (k_FT.getD j 0))) (N := 87) (A := fun q : Nat => s.heap.size ≤ q) (by decide) (hs _ (List.mem_of_getElem? x37)) (va_eqt (hs _ (List.mem_of_getElem? x38))) (fun j hj => va_eqt (hs _ (List.mem_of_getElem? (fl_T j hj)))) hA
  have hex := hs _ (List.mem_of_getElem? x35)
  obtain ⟨ts, _, _, _, et, -⟩ := Cond.exactly_spec (args := #[Value.ref b]) (first := s) (o := none) (s := s) (idx := []) (t := Term.string RX6 58) (cls := RJ0) hex
  have hO := va_Oof (A := fun q : Nat => s.heap.size ≤ q) hex et hA
  have hOc := vk_OFof (A := fun q : Nat => s.heap.size ≤ q) et (va_eqt (hs _ (List.mem_of_getElem? x36))) hA
  have hOv := vk_OFof (A := fun q : Nat => s.heap.size ≤ q) et ev hA
  have hR := vk_R.of (hts _ (kt1 176 (by rfl) : Cond.stringRef RX6 58 "b0,6,4,0;b0,9,7,2;b1,5,9,0;b2,4,5,1;b3,15,3,4;b0,12,6,8;t6,8,9;t10,6,12;t7,9,6;k8,3;f6;" ∈ lw_tbl)) et
  have hCS := va_Zof (A := fun q : Nat => s.heap.size ≤ q) (hts _ (kt1 190 (by rfl) : Cond.laysStatic RJ0 "COMPACT_STRINGS" "Z" ∈ lw_tbl)) (hk _ in_J0) (va_eqt (hs _ (List.mem_of_getElem? x4))) hA
  have hFm := va_Zqof (A := fun q : Nat => s.heap.size ≤ q) (hts _ (kt1 206 (by rfl) : Cond.laysStatic RJ3 "SIOOBE_FORMATTER" "Ljava/util/function/BiFunction;" ∈ lw_tbl)) (hk _ in_J3) (hs _ (List.mem_of_getElem? x5)) hA
  have hZL := va_Zof (A := fun q : Nat => s.heap.size ≤ q) (hts _ (kt2 27 (by rfl) : Cond.laysStatic RX5 "LEAST" "[I" ∈ lw_tbl)) (hk _ in_X5) eL hA
  have hZM := va_Zof (A := fun q : Nat => s.heap.size ≤ q) (hts _ (kt2 29 (by rfl) : Cond.laysStatic RX5 "MOST" "[I" ∈ lw_tbl)) (hk _ in_X5) eM hA
  obtain ⟨v5, hv5, h5r⟩ : ∃ v5 : Value, va_Z RJ3 "SIOOBE_FORMATTER" "Ljava/util/function/BiFunction;" v5 (fun q : Nat => s.heap.size ≤ q) s s.heap ∧ (v5 = .null ∨ ∃ t : Nat, v5 = .ref t) := by
    rcases hFm with h | ⟨t, h⟩
    · exact ⟨_, h, Or.inl rfl⟩
    · exact ⟨_, h, Or.inr ⟨t, rfl⟩⟩
  obtain ⟨scr, y1, y2, y3, y4, y5⟩ := hX
  refine ⟨(l, s.heap.size, kSv (.ref tL) (.ref tM) (.ref b) (.ref ts) (.ref tv) v5, D, (aI, aC, aS), (L, fun j => (xs j).toInt)), rfl, rfl, rfl, rfl, ⟨hD, fun k q hq => ?_⟩, fun j hj => ?_, hZL, hZM, ⟨ts, tv, rfl, rfl, hR, hO, hOc, hOv, TV⟩, hCS, hv5, fun j => ?_, fun q hq => va_Nw.of rfl (hts _ (kt_nest q hq)), va_AO.of hover⟩
  · match k, hq with
    | 0, hq => cases hq; exact ⟨fun n z => ⟨fun k h => (by cases h), kI1, gI, pI, eI⟩, fI⟩
    | 1, hq => cases hq; exact ⟨fun n z => ⟨fun k h => (by cases h), kC1, gC, pC, eC⟩, fC⟩
    | 2, hq => cases hq; exact ⟨fun n z => ⟨fun k h => (by cases h), kS1, gS, pS, eS⟩, kS1, pS, gS, eS, qS, fS⟩
    | k + 3, hq => simp at hq
  · match j, hj with
    | 0, _ => exact ⟨tL, rfl, TL⟩
    | 1, _ => exact ⟨tM, rfl, TM⟩
    | 2, _ =>
      refine ⟨b, rfl, scr, y1, y2, y3, by rw [y4]; exact Nat.le_refl _, by rw [y4]; rfl, fun j hj => ?_, Nat.not_le.mpr hbl⟩
      rw [y5 j hj]
      show some (Value.int (xs j)) = some (Value.int (Int32.ofInt (xs j).toInt))
      rw [Int32.ofInt_toInt]
  · match j with
    | 0 => exact Or.inr ⟨tL, rfl⟩
    | 1 => exact Or.inr ⟨tM, rfl⟩
    | 2 => exact Or.inr ⟨b, rfl⟩
    | 3 => exact Or.inr ⟨ts, rfl⟩
    | 4 => exact Or.inr ⟨tv, rfl⟩
    | 5 => exact h5r
    | k + 6 => exact Or.inl rfl
