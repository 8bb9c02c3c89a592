/-! the calls that move states, texts; what is laid -/
theorem s2_undo {E : kEnv} {F : Nat → Int → Int} {g : Nat → Int → Option Nat} (h : zI F g) : k2 E M_X6_undo M_X7_undo [] F g := by
  obtain ⟨hg, hm, hT, hR, hP, hx, ⟨st, hst⟩, hks⟩ := id h
  have k0 := kst_0 (f := F) (a := 50)
  obtain ⟨p1, p2, p3, p4, p5, p6⟩ := id hst
  have z1 := c_undo (E := E) (f := F) (w := kMM) hg p1 (by rw [p4]; exact p5)
  rw [p4] at z1
  by_cases cn : F 45 7 = 0
  · rw [if_pos cn] at z1
    have z2 := c_mundo (E := E) (f := F) (s := F 50) hm p5
    rw [k0, if_pos cn] at z2
    exact k2_f (by decide) (by decide) z1 z2 h
  · rw [if_neg cn] at z1
    have r := p2 (F 45 7 - 1) (by omega) (by omega)
    generalize hC1 : kBec (k_u F 12 1 (F 45 7 - 1)) 10 (st (F 45 7 - 1)) = C1 at z1
    have o : ∀ b : Nat, b ≠ 10 → b ≠ 11 → b ≠ 12 → C1 b = F b := fun b u1 u2 u3 => by rw [← hC1, kBec_eq b u1 u2, k_u_off u3]
    have e45 := o 45 (by decide) (by decide) (by decide)
    have e50 := o 50 (by decide) (by decide) (by decide)
    have e51 := o 51 (by decide) (by decide) (by decide)
    have z2 := c_mundo (E := E) (f := C1) (s := F 50) hm (by rw [e45]; exact p5)
    rw [kst_id e50, e45] at z2
    rw [if_neg cn] at z2
    refine k2_f (by decide) (by decide) z1 z2 ?_
    have hlo : ∀ b : Nat, b ≠ 45 → b ≠ 50 → kst (k_u C1 45 7 (F 45 7 - 1)) 50 (kGt (F 50) C1 51 (29 * (F 45 7 - 1)) 29) b = C1 b := fun b u1 u2 => by rw [kst_ne u2, k_u_off u1]
    have h45 : ∀ j, j ≠ 7 → kst (k_u C1 45 7 (F 45 7 - 1)) 50 (kGt (F 50) C1 51 (29 * (F 45 7 - 1)) 29) 45 j = F 45 j := fun j hj => by rw [kst_ne (by decide), k_u_ne2 hj, e45]
    have h457 : kst (k_u C1 45 7 (F 45 7 - 1)) 50 (kGt (F 50) C1 51 (29 * (F 45 7 - 1)) 29) 45 7 = F 45 7 - 1 := by rw [kst_ne (by decide)]; exact k_u_self
    have h50 : kst (k_u C1 45 7 (F 45 7 - 1)) 50 (kGt (F 50) C1 51 (29 * (F 45 7 - 1)) 29) 50 = kGt (F 50) C1 51 (29 * (F 45 7 - 1)) 29 := kst_self
    generalize kst (k_u C1 45 7 (F 45 7 - 1)) 50 (kGt (F 50) C1 51 (29 * (F 45 7 - 1)) 29) = H at hlo h45 h457 h50
    have hh : ∀ b : Nat, b ≠ 10 → b ≠ 11 → b ≠ 12 → b ≠ 45 → b ≠ 50 → H b = F b := fun b u1 u2 u3 u4 u5 => (hlo b u4 u5).trans (o b u1 u2 u3)
    have h47 := hh 47 (by decide) (by decide) (by decide) (by decide) (by decide)
    refine ⟨hg, hm, by rw [h47]; exact hT, by rw [h47]; exact RF_mono hR (fun b b0 => hh b (by omega) (by omega) (by omega) (by omega) (by omega)), ?_, ?_, ⟨st, p1, p2, p3, ?_, by rw [h457]; omega, fun k k0 k1 => ?_⟩, zKs_mono hks rfl (by rw [hh 30 (by decide) (by decide) (by decide) (by decide) (by decide)]) (fun b b0 b1 => hh b (by omega) (by omega) (by omega) (by omega) (by omega)) (h45 9 (by decide)) h47 (hh 52 (by decide) (by decide) (by decide) (by decide) (by decide))⟩
    · rw [h47, h50]
      have q0 : zP (F 47) (k_u F 12 1 (F 45 7 - 1)) (st (F 45 7 - 1)) (fun j => F 51 (29 * (F 45 7 - 1) + j)) := zP_mono (p6 (F 45 7 - 1) (by omega) (by omega)) (k_u_off (by omega)) (k_u_off (by omega))
      have q1 := zP_bec (a := 10) hT q0 (by omega)
      rw [hC1] at q1
      refine zP_row hT (zP_mono q1 (hlo 10 (by decide) (by decide)) (hlo 11 (by decide) (by decide))) (fun j j0 j1 => ?_)
      rw [← e51]
      exact if_pos ⟨j0, j1⟩
    · rw [hh 46 (by decide) (by decide) (by decide) (by decide) (by decide), h45 1 (by decide)]
      exact kTx_eq hx (by rw [hh 1 (by decide) (by decide) (by decide) (by decide) (by decide)]) (hh 2 (by decide) (by decide) (by decide) (by decide) (by decide))
    · rw [h457, hlo 12 (by decide) (by decide), ← hC1, kBec_eq 12 (by decide) (by decide)]
      exact k_u_self
    · rw [h457] at k1
      have rk := p2 k k0 (by omega)
      rw [h47, hh 51 (by decide) (by decide) (by decide) (by decide) (by decide)]
      exact zP_mono (p6 k k0 (by omega)) (hh _ (by omega) (by omega) (by omega) (by omega) (by omega)) (hh _ (by omega) (by omega) (by omega) (by omega) (by omega))
theorem s2_keep {E : kEnv} {F : Nat → Int → Int} {g : Nat → Int → Option Nat} (h : zI F g) : k2 E M_X6_keep M_X7_keep [] F g := by
  obtain ⟨hg, hm, hT, hR, hP, hx, ⟨st, hst⟩, hks⟩ := id h
  have k0 := kst_0 (f := F) (a := 50)
  obtain ⟨p1, p4, p5, p6⟩ := id hks
  have z1 := c_keep (E := E) (f := F) (w := kMM) hg p1 (by rw [p4]; exact p5)
  rw [p4] at z1
  by_cases cn : F 45 9 = 2
  · rw [if_pos cn] at z1
    have z2 := c_mkeep (E := E) (f := F) (s := F 50) hm p5
    rw [k0, if_pos cn] at z2
    exact k2_f (by decide) (by decide) z1 z2 h
  · rw [if_neg cn] at z1
    have r := kst1_v (k := F 45 9) ⟨by omega, by omega⟩
    generalize hC1 : k_u (kBec F (kst1 (F 45 9)) 10) 30 1 (F 45 9 + 1) = C1 at z1
    have o : ∀ b : Nat, b ≠ kst1 (F 45 9) → b ≠ kst1 (F 45 9) + 1 → b ≠ 30 → C1 b = F b := fun b u1 u2 u3 => by rw [← hC1, k_u_off u3, kBec_eq b u1 u2]
    have e45 := o 45 (by omega) (by omega) (by decide)
    have e50 := o 50 (by omega) (by omega) (by decide)
    have z2 := c_mkeep (E := E) (f := C1) (s := F 50) hm (by rw [e45]; exact p5)
    rw [kst_id e50, e45] at z2
    rw [if_neg cn] at z2
    refine k2_f (by decide) (by decide) z1 z2 ?_
    have hlo : ∀ b : Nat, b ≠ 45 → b ≠ 52 → kst (k_u (kPu C1 (F 50) 52 (29 * F 45 9) 29) 45 9 (F 45 9 + 1)) 50 (F 50) b = C1 b := fun b u1 u2 => by
      by_cases e : b = 50
      · rw [e, e50]; exact kst_self
      · rw [kst_ne e, k_u_off u1]
        funext j
        exact if_neg (fun z => u2 z.1)
    have h45 : ∀ j, j ≠ 9 → kst (k_u (kPu C1 (F 50) 52 (29 * F 45 9) 29) 45 9 (F 45 9 + 1)) 50 (F 50) 45 j = F 45 j := fun j hj => by
      rw [kst_ne (by decide), k_u_ne2 hj, ← e45]
      exact if_neg (fun z => absurd z.1 (by decide))
    have h459 : kst (k_u (kPu C1 (F 50) 52 (29 * F 45 9) 29) 45 9 (F 45 9 + 1)) 50 (F 50) 45 9 = F 45 9 + 1 := by rw [kst_ne (by decide)]; exact k_u_self
    have h52 : ∀ j, kst (k_u (kPu C1 (F 50) 52 (29 * F 45 9) 29) 45 9 (F 45 9 + 1)) 50 (F 50) 52 j = if 29 * F 45 9 ≤ j ∧ j < 29 * F 45 9 + 29 then F 50 (j - 29 * F 45 9) else F 52 j := fun j => by
      rw [kst_ne (by decide), k_u_off (by decide), ← o 52 (by omega) (by omega) (by decide)]
      show (if 52 = 52 ∧ _ then _ else _) = _
      simp
    generalize kst (k_u (kPu C1 (F 50) 52 (29 * F 45 9) 29) 45 9 (F 45 9 + 1)) 50 (F 50) = H at hlo h45 h459 h52
    have hh : ∀ b : Nat, b ≠ kst1 (F 45 9) → b ≠ kst1 (F 45 9) + 1 → b ≠ 30 → b ≠ 45 → b ≠ 52 → H b = F b := fun b u1 u2 u3 u4 u5 => (hlo b u4 u5).trans (o b u1 u2 u3)
    have h47 := hh 47 (by omega) (by omega) (by decide) (by decide) (by decide)
    have h50 := hh 50 (by omega) (by omega) (by decide) (by decide) (by decide)
    refine ⟨hg, hm, by rw [h47]; exact hT, by rw [h47]; exact RF_mono hR (fun b b0 => hh b (by omega) (by omega) (by omega) (by omega) (by omega)), ?_, ?_, ⟨st, zPs_mono hst (by rw [hh 12 (by omega) (by omega) (by decide) (by decide) (by decide)]) (fun b b0 b1 => hh b (by omega) (by omega) (by omega) (by omega) (by omega)) (h45 7 (by decide)) h47 (hh 51 (by omega) (by omega) (by decide) (by decide) (by decide))⟩, p1, ?_, by rw [h459]; omega, fun k k0 k1 => ?_⟩
    · rw [h47, h50]
      exact zP_mono hP (hh 10 (by omega) (by omega) (by decide) (by decide) (by decide)) (hh 11 (by omega) (by omega) (by decide) (by decide) (by decide))
    · rw [hh 46 (by omega) (by omega) (by decide) (by decide) (by decide), h45 1 (by decide)]
      exact kTx_eq hx (by rw [hh 1 (by omega) (by omega) (by decide) (by decide) (by decide)]) (hh 2 (by omega) (by omega) (by decide) (by decide) (by decide))
    · rw [h459, hlo 30 (by decide) (by decide), ← hC1]
      exact k_u_self
    · rw [h459] at k1
      rw [h47]
      by_cases e : k = F 45 9
      · rw [e]
        have q1 : zP (F 47) C1 (kst1 (F 45 9)) (F 50) := by
          rw [← hC1]
          exact zP_mono (zP_bec hT hP (by omega)) (k_u_off (by omega)) (k_u_off (by omega))
        refine zP_row hT (zP_mono q1 (hlo _ (by omega) (by omega)) (hlo _ (by omega) (by omega))) (fun j j0 j1 => ?_)
        rw [h52, if_pos (by omega), show 29 * F 45 9 + j - 29 * F 45 9 = j by omega]
      · have rk := kst1_v (k := k) ⟨k0, by omega⟩
        have ne : kst1 k ≠ kst1 (F 45 9) := by unfold kst1; omega
        refine zP_row hT (zP_mono (p6 k k0 (by omega)) (hh _ (by omega) (by omega) (by omega) (by omega) (by omega)) (hh _ (by omega) (by omega) (by omega) (by omega) (by omega))) (fun j j0 j1 => ?_)
        rw [h52, if_neg (by omega)]
theorem s2_back {E : kEnv} {F : Nat → Int → Int} {g : Nat → Int → Option Nat} (h : zI F g) : k2 E M_X6_back M_X7_back [] F g := by
  obtain ⟨hg, hm, hT, hR, hP, hx, ⟨st, hst⟩, hks⟩ := id h
  have k0 := kst_0 (f := F) (a := 50)
  obtain ⟨p1, p4, p5, p6⟩ := id hks
  have z1 := c_back (E := E) (f := F) (w := kMM) hg p1 (by rw [p4]; exact p5)
  rw [p4] at z1
  by_cases cn : F 45 9 = 0
  · rw [if_pos cn] at z1
    have z2 := c_mback (E := E) (f := F) (s := F 50) hm p5
    rw [k0, if_pos cn] at z2
    exact k2_f (by decide) (by decide) z1 z2 h
  · rw [if_neg cn] at z1
    have r := kst1_v (k := F 45 9 - 1) ⟨by omega, by omega⟩
    generalize hC1 : k_u (kBec (k_u F 30 1 (F 45 9 - 1)) 10 (kst1 (F 45 9 - 1))) 12 1 0 = C1 at z1
    have o : ∀ b : Nat, b ≠ 10 → b ≠ 11 → b ≠ 12 → b ≠ 30 → C1 b = F b := fun b u1 u2 u3 u4 => by rw [← hC1, k_u_off u3, kBec_eq b u1 u2, k_u_off u4]
    have e45 := o 45 (by decide) (by decide) (by decide) (by decide)
    have e50 := o 50 (by decide) (by decide) (by decide) (by decide)
    have e52 := o 52 (by decide) (by decide) (by decide) (by decide)
    have z2 := c_mback (E := E) (f := C1) (s := F 50) hm (by rw [e45]; exact p5)
    rw [kst_id e50, e45] at z2
    rw [if_neg cn] at z2
    refine k2_f (by decide) (by decide) z1 z2 ?_
    have hlo : ∀ b : Nat, b ≠ 45 → b ≠ 50 → kst (k_u (k_u C1 45 9 (F 45 9 - 1)) 45 7 0) 50 (kGt (F 50) C1 52 (29 * (F 45 9 - 1)) 29) b = C1 b := fun b u1 u2 => by rw [kst_ne u2, k_u_off u1, k_u_off u1]
    have h451 : kst (k_u (k_u C1 45 9 (F 45 9 - 1)) 45 7 0) 50 (kGt (F 50) C1 52 (29 * (F 45 9 - 1)) 29) 45 1 = F 45 1 := by rw [kst_ne (by decide), k_u_ne2 (by decide), k_u_ne2 (by decide), e45]
    have h457 : kst (k_u (k_u C1 45 9 (F 45 9 - 1)) 45 7 0) 50 (kGt (F 50) C1 52 (29 * (F 45 9 - 1)) 29) 45 7 = 0 := by rw [kst_ne (by decide)]; exact k_u_self
    have h459 : kst (k_u (k_u C1 45 9 (F 45 9 - 1)) 45 7 0) 50 (kGt (F 50) C1 52 (29 * (F 45 9 - 1)) 29) 45 9 = F 45 9 - 1 := by rw [kst_ne (by decide), k_u_ne2 (by decide)]; exact k_u_self
    have h50 : kst (k_u (k_u C1 45 9 (F 45 9 - 1)) 45 7 0) 50 (kGt (F 50) C1 52 (29 * (F 45 9 - 1)) 29) 50 = kGt (F 50) C1 52 (29 * (F 45 9 - 1)) 29 := kst_self
    generalize kst (k_u (k_u C1 45 9 (F 45 9 - 1)) 45 7 0) 50 (kGt (F 50) C1 52 (29 * (F 45 9 - 1)) 29) = H at hlo h451 h457 h459 h50
    have hh : ∀ b : Nat, b ≠ 10 → b ≠ 11 → b ≠ 12 → b ≠ 30 → b ≠ 45 → b ≠ 50 → H b = F b := fun b u1 u2 u3 u4 u5 u6 => (hlo b u5 u6).trans (o b u1 u2 u3 u4)
    have h47 := hh 47 (by decide) (by decide) (by decide) (by decide) (by decide) (by decide)
    refine ⟨hg, hm, by rw [h47]; exact hT, by rw [h47]; exact RF_mono hR (fun b b0 => hh b (by omega) (by omega) (by omega) (by omega) (by omega) (by omega)), ?_, ?_, ⟨st, hst.1, hst.2.1, hst.2.2.1, ?_, by rw [h457]; omega, fun k k0 k1 => by omega⟩, p1, ?_, by rw [h459]; omega, fun k k0 k1 => ?_⟩
    · rw [h47, h50]
      have q0 : zP (F 47) (k_u F 30 1 (F 45 9 - 1)) (kst1 (F 45 9 - 1)) (fun j => F 52 (29 * (F 45 9 - 1) + j)) := zP_mono (p6 (F 45 9 - 1) (by omega) (by omega)) (k_u_off (by omega)) (k_u_off (by omega))
      have q1 := zP_bec (a := 10) hT q0 (by omega)
      have q2 : zP (F 47) C1 10 (fun j => F 52 (29 * (F 45 9 - 1) + j)) := by
        rw [← hC1]
        exact zP_mono q1 (k_u_off (by decide)) (k_u_off (by decide))
      refine zP_row hT (zP_mono q2 (hlo 10 (by decide) (by decide)) (hlo 11 (by decide) (by decide))) (fun j j0 j1 => ?_)
      rw [← e52]
      exact if_pos ⟨j0, j1⟩
    · rw [hh 46 (by decide) (by decide) (by decide) (by decide) (by decide) (by decide), h451]
      exact kTx_eq hx (by rw [hh 1 (by decide) (by decide) (by decide) (by decide) (by decide) (by decide)]) (hh 2 (by decide) (by decide) (by decide) (by decide) (by decide) (by decide))
    · rw [h457, hlo 12 (by decide) (by decide), ← hC1]
      exact k_u_self
    · rw [h459, hlo 30 (by decide) (by decide), ← hC1, k_u_ne (by decide), kBec_eq 30 (by decide) (by decide)]
      exact k_u_self
    · rw [h459] at k1
      have rk := kst1_v (k := k) ⟨k0, by omega⟩
      rw [h47, hh 52 (by decide) (by decide) (by decide) (by decide) (by decide) (by decide)]
      exact zP_mono (p6 k k0 (by omega)) (hh _ (by omega) (by omega) (by omega) (by omega) (by omega) (by omega)) (hh _ (by omega) (by omega) (by omega) (by omega) (by omega) (by omega))
/-- only the text has changed -/
theorem zI_text {F H : Nat → Int → Int} {g : Nat → Int → Option Nat} (h : zI F g) (hh : ∀ b : Nat, b ≠ 1 → b ≠ 2 → b ≠ 45 → b ≠ 46 → H b = F b) (h45 : ∀ j, j ≠ 1 → H 45 j = F 45 j) (hx : kTx (H 46) (H 45 1) H) : zI H g := by
  obtain ⟨hg, hm, hT, hR, hP, -, ⟨st, hst⟩, hks⟩ := h
  have h47 := hh 47 (by decide) (by decide) (by decide) (by decide)
  refine ⟨hg, hm, by rw [h47]; exact hT, ?_, ?_, hx, ⟨st, zPs_mono hst (by rw [hh 12 (by decide) (by decide) (by decide) (by decide)]) (fun b b0 b1 => hh b (by omega) (by omega) (by omega) (by omega)) (h45 7 (by decide)) h47 (hh 51 (by decide) (by decide) (by decide) (by decide))⟩, zKs_mono hks rfl (by rw [hh 30 (by decide) (by decide) (by decide) (by decide)]) (fun b b0 b1 => hh b (by omega) (by omega) (by omega) (by omega)) (h45 9 (by decide)) h47 (hh 52 (by decide) (by decide) (by decide) (by decide))⟩
  · rw [h47]
    unfold RF
    rw [hh 4 (by decide) (by decide) (by decide) (by decide), hh 5 (by decide) (by decide) (by decide) (by decide), hh 6 (by decide) (by decide) (by decide) (by decide), hh 7 (by decide) (by decide) (by decide) (by decide), hh 8 (by decide) (by decide) (by decide) (by decide), hh 9 (by decide) (by decide) (by decide) (by decide)]
    exact hR
  · rw [h47, hh 50 (by decide) (by decide) (by decide) (by decide)]
    exact zP_mono hP (hh 10 (by decide) (by decide) (by decide) (by decide)) (hh 11 (by decide) (by decide) (by decide) (by decide))
theorem s2_write {E : kEnv} {F : Nat → Int → Int} {g : Nat → Int → Option Nat} {a : Int} (h : zI F g) : k2 E M_X6_write M_X7_write [kI a] F g := by
  obtain ⟨hg, hm, hT, hR, hP, hx, ⟨st, hst⟩, hks⟩ := id h
  have k0 := kst_0 (f := F) (a := 50)
  obtain ⟨⟨x1, x2, x3⟩, x4⟩ := id hx
  have z1 := c_write (E := E) (f := F) (w := kMM) (v := a) hg (by omega)
  rw [x1] at z1
  by_cases cn : (32 ≤ a ∧ a ≤ 126) ∧ F 45 1 ≠ 200
  · rw [if_pos cn] at z1
    generalize hC1 : k_u (k_u F 2 (F 45 1) a) 1 2 (F 45 1 + 1) = C1 at z1
    have o : ∀ b : Nat, b ≠ 1 → b ≠ 2 → C1 b = F b := fun b u1 u2 => by rw [← hC1, k_u_off u1, k_u_off u2]
    have e45 := o 45 (by decide) (by decide)
    have e50 := o 50 (by decide) (by decide)
    have z2 := c_mwrite (E := E) (f := C1) (s := F 50) (v := a) hm (by rw [e45]; omega)
    rw [kst_id e50, e45] at z2
    rw [if_pos cn] at z2
    refine k2_f (by decide) (by decide) z1 z2 (zI_text h (fun b u1 u2 u3 u4 => ?_) (fun j hj => ?_) ⟨⟨?_, ?_, ?_⟩, fun j j0 j1 => ?_⟩)
    · by_cases e : b = 50
      · rw [e]; exact kst_self
      · rw [kst_ne e, k_u_off u3, k_u_off u4, o b u1 u2]
    · rw [kst_ne (by decide), k_u_ne2 hj, k_u_off (by decide), e45]
    · rw [kst_ne (by decide), kst_ne (by decide), k_u_self, k_u_off (by decide), k_u_off (by decide), ← hC1, k_u_self]
    · rw [kst_ne (by decide), k_u_self]; omega
    · rw [kst_ne (by decide), k_u_self]; omega
    · rw [kst_ne (by decide), k_u_self] at j1
      rw [kst_ne (by decide), kst_ne (by decide), k_u_off (by decide), k_u_off (by decide), k_u_off (by decide), ← hC1, k_u_off (by decide)]
      by_cases e : j = F 45 1
      · rw [e, k_u_self, k_u_self]; exact ⟨rfl, cn.1⟩
      · rw [k_u_ne2 e, k_u_ne2 e, k_u_ne (by decide), k_u_ne (by decide)]
        exact x4 j j0 (by omega)
  · rw [if_neg cn] at z1
    have z2 := c_mwrite (E := E) (f := F) (s := F 50) (v := a) hm (by omega)
    rw [k0, if_neg cn] at z2
    exact k2_f (by decide) (by decide) z1 z2 h
theorem s2_wipe {E : kEnv} {F : Nat → Int → Int} {g : Nat → Int → Option Nat} (h : zI F g) : k2 E M_X6_wipe M_X7_wipe [] F g := by
  obtain ⟨hg, hm, hT, hR, hP, hx, ⟨st, hst⟩, hks⟩ := id h
  have z1 := c_wipe (E := E) (f := F) (w := kMM) hg
  rw [hx.1.1] at z1
  have o : ∀ b : Nat, b ≠ 1 → k_u F 1 2 0 b = F b := fun b u1 => k_u_off u1
  have z2 := c_mwipe (E := E) (f := k_u F 1 2 0) (s := F 50) hm
  rw [kst_id (o 50 (by decide)), o 45 (by decide)] at z2
  refine k2_f (by decide) (by decide) z1 z2 (zI_text h (fun b u1 u2 u3 u4 => ?_) (fun j hj => ?_) ⟨⟨?_, ?_, ?_⟩, fun j j0 j1 => ?_⟩)
  · by_cases e : b = 50
    · rw [e]; exact kst_self
    · rw [kst_ne e, k_u_off u3, o b u1]
  · rw [kst_ne (by decide), k_u_ne2 hj, o 45 (by decide)]
  · rw [kst_ne (by decide), kst_ne (by decide), k_u_self, k_u_off (by decide)]; exact k_u_self
  · rw [kst_ne (by decide), k_u_self]; decide
  · rw [kst_ne (by decide), k_u_self]; decide
  · rw [kst_ne (by decide), k_u_self] at j1
    omega
/-- what was read anew, as the model's rows hold it -/
theorem zP_new {T2 s2 u w : Int → Int} {C : Nat → Int → Int} (hT : mTp T2) (hS : mSp T2 s2) (h0 : 1 ≤ T2 0) (h1 : 1 ≤ T2 1) (hR : RS T2 s2 C) : mTO (kLt T2 u 37) ∧ RF (kLt T2 u 37) C ∧ zP (kLt T2 u 37) C 10 (kLt s2 w 29) := by
  have e : ∀ j, 0 ≤ j → j < 37 → kLt T2 u 37 j = T2 j := fun j a b => if_pos ⟨a, b⟩
  have e0 := e 0 (by decide) (by decide)
  have e1 := e 1 (by decide) (by decide)
  have hTO := mTO_of hT h0 h1
  have hSO := mSO_of hT hS
  have hCO := mCO_of hT hS
  have n0 := hTO.1
  have n1 := hTO.2.1
  have hT' : mTO (kLt T2 u 37) := by
    obtain ⟨t0, t1, t2, t3, t4, t5, t6⟩ := hTO
    refine ⟨by rw [e0]; exact t0, by rw [e1]; exact t1, by rw [e 2 (by decide) (by decide)]; exact t2, by rw [e 3 (by decide) (by decide)]; exact t3, by rw [e 4 (by decide) (by decide)]; exact t4, fun b b0 b1 => ?_, fun i i0 i1 => ?_⟩
    · rw [e0] at b1
      rw [e (5 + b) (by omega) (by omega), e (13 + b) (by omega) (by omega), e (21 + b) (by omega) (by omega)]
      exact t5 b b0 b1
    · rw [e1] at i1
      rw [e (29 + i) (by omega) (by omega), e (33 + i) (by omega) (by omega)]
      exact t6 i i0 i1
  obtain ⟨⟨r0, r1, r2, r3, r4, r5, r6⟩, s1, s2', s3, s4, s5⟩ := hR
  obtain ⟨m1, m2, m3, m4⟩ := hS
  refine ⟨hT', ⟨by rw [e0]; exact r0, by rw [e1]; exact r1, by rw [e 2 (by decide) (by decide)]; exact r2, by rw [e 3 (by decide) (by decide)]; exact r3, by rw [e 4 (by decide) (by decide)]; exact r4, fun b b0 b1 => ?_, fun i i0 i1 => ?_⟩, ?_⟩
  · rw [e0] at b1
    rw [e (5 + b) (by omega) (by omega), e (13 + b) (by omega) (by omega), e (21 + b) (by omega) (by omega)]
    exact r5 b b0 b1
  · rw [e1] at i1
    rw [e (29 + i) (by omega) (by omega), e (33 + i) (by omega) (by omega)]
    exact r6 i i0 i1
  · refine zP_row (u := s2) hT' ⟨?_, fun i i0 i1 => ?_, ?_, ⟨?_, ?_, fun b b0 b1 b2 => ?_, fun i i0 i1 => ?_, fun b b0 b1 => ?_⟩, fun b b0 b1 => ?_⟩ (fun j j0 j1 => if_pos ⟨j0, j1⟩)
    · unfold mSO
      rw [e0, e1]
      exact hSO
    · rw [e1] at i1
      rw [e (29 + i) (by omega) (by omega)]
      exact hCO i i0 i1
    · rw [m2 28 (by decide) (by decide)]; decide
    · rw [s1, m2 28 (by decide) (by decide)]
    · rw [s2']
      unfold gsum
      rw [m1 8 (by decide) (by decide), m1 9 (by decide) (by decide), m1 10 (by decide) (by decide), m1 11 (by decide) (by decide), m1 12 (by decide) (by decide), m1 13 (by decide) (by decide), m1 14 (by decide) (by decide), m1 15 (by decide) (by decide)]
      rfl
    · rw [e0] at b1
      exact s3 b b0 b1
    · rw [e1] at i1
      have y := s4 i i0 (by omega)
      show C 11 (8 + i) = _ ∧ C 11 (12 + i) = _ ∧ C 11 (16 + i) = _
      rw [y.1, y.2, s5 i i0 i1, m2 (20 + i) (by omega) (by omega), m2 (24 + i) (by omega) (by omega)]
      exact ⟨rfl, rfl, rfl⟩
    · rw [e0] at b1
      have y := m3 b b0 b1
      show -100 ≤ C 11 b ∧ C 11 b ≤ 300
      rw [s3 b b0 b1]
      omega
    · rw [e0] at b1
      exact s3 b b0 b1
theorem s2_lay {E : kEnv} {F : Nat → Int → Int} {g : Nat → Int → Option Nat} (h : zI F g) : k2 E M_X6_lay M_X7_lay [] F g := by
  obtain ⟨hg, hm, hT, hR, hP, hx, ⟨st, hst⟩, hks⟩ := id h
  have hn := hx.1
  have hxm : kTm (F 46) (F 45 1) F := ⟨⟨rfl, by omega, by omega⟩, fun j j0 j1 => rfl⟩
  have ok := rA_ok (tx := F 46) (n := F 45 1) 201 0 (bgT (F 48)) (bgS (F 49)) bgT_p bgS_p
  have hoe : oLm (F 46) (F 45 1) 201 (bgT (F 48)) (bgS (F 49)) = oLd (F 46) (F 45 1) 201 (bgT (F 48)) (bgS (F 49)) := rfl
  have hoi := oLd_i (tx := F 46) (n := F 45 1) (F := 201) (T := bgT (F 48)) (s := bgS (F 49))
  have z1 := c_lay (E := E) (f := F) (w := kMM) (F := 201) (T := bgT (F 48)) (s := bgS (F 49)) hg hx (by omega) bgT_p bgS_p bgT_v.1 bgT_v.2.1 bgT_v.2.2.1 bgT_v.2.2.2.1 bgT_v.2.2.2.2
  have hq : ∀ F1, kLd (rA (F 46) (F 45 1) 201 0 (bgT (F 48)) (bgS (F 49))).2.1 (rA (F 46) (F 45 1) 201 0 (bgT (F 48)) (bgS (F 49))).2.2 (oLd (F 46) (F 45 1) 201 (bgT (F 48)) (bgS (F 49))) F F1 → ∀ b : Nat, b < 3 ∨ 11 < b → b ≠ 12 → b ≠ 30 → F1 b = F b := fun F1 q b u1 u2 u3 => by
    by_cases c : oLd (F 46) (F 45 1) 201 (bgT (F 48)) (bgS (F 49)) = true
    · exact (q.1 c).2.2.2 b u1 u2 u3
    · exact q.2 c b (by omega)
  refine k2_e (d1 := 5) (d2 := 5) (by decide) (by decide) z1 (P2 := fun F1 => mLd (rA (F 46) (F 45 1) 201 0 (bgT (F 48)) (bgS (F 49))).2.1 (rA (F 46) (F 45 1) 201 0 (bgT (F 48)) (bgS (F 49))).2.2 (oLd (F 46) (F 45 1) 201 (bgT (F 48)) (bgS (F 49))) F1 (F 50)) (fun F1 q => ?_) (fun F1 F2 q y => ?_)
  · have o := hq F1 q
    have z2 := c_mlay (E := E) (f := F1) (s := F 50) (F := 201) hm (tx := F 46) (n := F 45 1) (kTm_eq hxm (by rw [o 45 (by decide) (by decide) (by decide)]) (o 46 (by decide) (by decide) (by decide))) (by omega)
    rw [kst_id (o 50 (by decide) (by decide) (by decide)), o 48 (by decide) (by decide) (by decide), o 49 (by decide) (by decide) (by decide), hoe] at z2
    exact z2
  · have o := hq F1 q
    by_cases c : oLd (F 46) (F 45 1) 201 (bgT (F 48)) (bgS (F 49)) = true
    · obtain ⟨q1, q2, q3, q4⟩ := q.1 c
      obtain ⟨f2, rfl, y1, y2, y3, y4, y5⟩ := y.1 c
      obtain ⟨c1, c2, c3⟩ := hoi.mp c
      have hlo : ∀ a : Nat, a ≠ 45 → a ≠ 47 → a ≠ 48 → a ≠ 49 → a ≠ 50 → kst f2 50 (kLt (rA (F 46) (F 45 1) 201 0 (bgT (F 48)) (bgS (F 49))).2.2 (F 50) 29) a = F1 a := fun a u1 u2 u3 u4 u5 => by rw [kst_ne u5, y4 a u1 u2 u3 u4]
      obtain ⟨w1, w2, w3⟩ := zP_new (u := F1 47) (w := F 50) ok.1 ok.2 c2 c3 q1
      have o2 : ∀ a : Nat, 10 ≤ a → a < 45 → kst f2 50 (kLt (rA (F 46) (F 45 1) 201 0 (bgT (F 48)) (bgS (F 49))).2.2 (F 50) 29) a = F1 a := fun a u1 u2 => hlo a (by omega) (by omega) (by omega) (by omega) (by omega)
      refine ⟨hg, hm, ?_, ?_, ?_, ?_, ⟨st, hst.1, hst.2.1, hst.2.2.1, ?_, ?_, fun k k0 k1 => ?_⟩, hks.1, ?_, ?_, fun k k0 k1 => ?_⟩
      · rw [kst_ne (by decide), y1]; exact w1
      · rw [kst_ne (by decide), y1]
        exact RF_mono w2 (fun b b0 => hlo b (by omega) (by omega) (by omega) (by omega) (by omega))
      · rw [kst_ne (by decide), y1, kst_self]
        exact zP_mono w3 (hlo 10 (by decide) (by decide) (by decide) (by decide) (by decide)) (hlo 11 (by decide) (by decide) (by decide) (by decide) (by decide))
      · rw [hlo 46 (by decide) (by decide) (by decide) (by decide) (by decide), o 46 (by decide) (by decide) (by decide), kst_ne (by decide), y5, o 45 (by decide) (by decide) (by decide)]
        refine kTx_eq hx ?_ ?_
        · rw [hlo 1 (by decide) (by decide) (by decide) (by decide) (by decide), o 1 (by decide) (by decide) (by decide)]
        · rw [hlo 2 (by decide) (by decide) (by decide) (by decide) (by decide), o 2 (by decide) (by decide) (by decide)]
      · rw [hlo 12 (by decide) (by decide) (by decide) (by decide) (by decide), q2, kst_ne (by decide), y2]
      · rw [kst_ne (by decide), y2]; decide
      · rw [kst_ne (by decide), y2] at k1; omega
      · rw [hlo 30 (by decide) (by decide) (by decide) (by decide) (by decide), q3, kst_ne (by decide), y3]
      · rw [kst_ne (by decide), y3]; decide
      · rw [kst_ne (by decide), y3] at k1; omega
    · have q1 := q.2 c
      obtain ⟨f2, rfl, y1⟩ := y.2 c
      have o : ∀ b : Nat, b ≠ 3 → b ≠ 45 → b ≠ 48 → b ≠ 49 → kst f2 50 (F 50) b = F b := fun b h1 h2 h3 h4 => by
        by_cases e : b = 50
        · rw [e]; exact kst_self
        · rw [kst_ne e, y1.1 b h2 h3 h4, q1 b h1]
      have o2 : ∀ j, j ≠ 10 → kst f2 50 (F 50) 45 j = F 45 j := fun j hj => by rw [kst_ne (by decide), y1.2 j hj, q1 45 (by decide)]
      exact zI_same h (fun b b0 b1 => o b b1 (by omega) (by omega) (by omega)) (fun b b0 b1 u1 u2 u3 => o b (by omega) u1 u2 u3) ⟨o2 1 (by decide), o2 7 (by decide), o2 9 (by decide)⟩
