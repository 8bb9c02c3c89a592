/-! the class and the model stand for the same -/
def zP (T : Int → Int) (C : Nat → Int → Int) (a : Nat) (u : Int → Int) : Prop := mSO T u ∧ mCO T u ∧ (0 ≤ u 28 ∧ u 28 ≤ 99) ∧ Sim T C a u ∧ ∀ b, 0 ≤ b → b < T 0 → C (a + 1) b = u b
def rEq (u v : Int → Int) : Prop := ∀ j, 0 ≤ j → j < 29 → v j = u j
theorem zP_row {T u v : Int → Int} {C : Nat → Int → Int} {a : Nat} (hT : mTO T) (h : zP T C a u) (e : rEq u v) : zP T C a v := by
  have n0 := hT.1
  have n1 := hT.2.1
  obtain ⟨⟨s1, s2, s3⟩, c1, d1, ⟨m1, m2, m3, m4, m5⟩, b1⟩ := h
  have g1 : mGone v = mGone u := by
    unfold mGone
    rw [e 8 (by decide) (by decide), e 9 (by decide) (by decide), e 10 (by decide) (by decide), e 11 (by decide) (by decide), e 12 (by decide) (by decide), e 13 (by decide) (by decide), e 14 (by decide) (by decide), e 15 (by decide) (by decide)]
  have g2 : gsum v = gsum u := gsum_eq (fun j h0 h1 => e j (by omega) (by omega))
  have e28 := e 28 (by decide) (by decide)
  refine ⟨⟨fun b h0 h1 => ?_, fun b h0 h1 => ?_, fun i h0 h1 => ?_⟩, fun i h0 h1 => ?_, by rw [e28]; exact d1, ⟨by rw [e28]; exact m1, by rw [g2]; exact m2, fun b h0 h1 h2 => ?_, fun i h0 h1 => ?_, m5⟩, fun b h0 h1 => ?_⟩
  · rw [e (8 + b) (by omega) (by omega)]; exact s1 b h0 h1
  · rw [e b h0 (by omega)]; exact s2 b h0 h1
  · rw [g1, e (20 + i) (by omega) (by omega), e (16 + i) (by omega) (by omega), e (24 + i) (by omega) (by omega)]; exact s3 i h0 h1
  · rw [e (24 + i) (by omega) (by omega)]; exact c1 i h0 h1
  · rw [e (8 + b) (by omega) (by omega)] at h2
    rw [e b h0 (by omega)]; exact m3 b h0 h1 h2
  · rw [e (20 + i) (by omega) (by omega), e (16 + i) (by omega) (by omega), e (24 + i) (by omega) (by omega)]; exact m4 i h0 h1
  · rw [e b h0 (by omega)]; exact b1 b h0 h1
theorem zP_mono {T u : Int → Int} {C C2 : Nat → Int → Int} {a : Nat} (h : zP T C a u) (h1 : C2 a = C a) (h2 : C2 (a + 1) = C (a + 1)) : zP T C2 a u :=
  ⟨h.1, h.2.1, h.2.2.1, Sim_mono h.2.2.2.1 h1 h2, by rw [h2]; exact h.2.2.2.2⟩
theorem zP_bec {T u : Int → Int} {C : Nat → Int → Int} {a b : Nat} (hT : mTO T) (h : zP T C b u) (hne : a ≠ b + 1) : zP T (kBec C a b) a u := by
  have n0 := hT.1
  refine ⟨h.1, h.2.1, h.2.2.1, Sim_bec hT h.2.2.2.1 hne, fun c h0 h1 => ?_⟩
  rw [kBec_c hne (by omega)]
  exact h.2.2.2.2 c h0 h1
def zPs (C F : Nat → Int → Int) (g : Nat → Int → Option Nat) (st : Int → Nat) : Prop := kPile g 13 8 st ∧ (∀ i, 0 ≤ i → i < 8 → 14 ≤ st i ∧ st i ≤ 28) ∧ (∀ i j, 0 ≤ i → i < j → j < 8 → st i ≠ st j) ∧ C 12 1 = F 45 7 ∧ (0 ≤ F 45 7 ∧ F 45 7 ≤ 8) ∧ ∀ k, 0 ≤ k → k < F 45 7 → zP (F 47) C (st k) (fun j => F 51 (29 * k + j))
def zKs (C F : Nat → Int → Int) (g : Nat → Int → Option Nat) : Prop := kPile g 31 2 kst1 ∧ C 30 1 = F 45 9 ∧ (0 ≤ F 45 9 ∧ F 45 9 ≤ 2) ∧ ∀ k, 0 ≤ k → k < F 45 9 → zP (F 47) C (kst1 k) (fun j => F 52 (29 * k + j))
/-- C: the class's cells, F: the model's -/
def zJ (C F : Nat → Int → Int) (g : Nat → Int → Option Nat) : Prop := kG g ∧ kGM g ∧ mTO (F 47) ∧ RF (F 47) C ∧ zP (F 47) C 10 (F 50) ∧ kTx (F 46) (F 45 1) C ∧ (∃ st, zPs C F g st) ∧ zKs C F g
abbrev zI (F : Nat → Int → Int) (g : Nat → Int → Option Nat) : Prop := zJ F F g
theorem st_even {a : Nat} (h : kSA a) : a % 2 = 0 ∨ a = 37 := by
  rcases h with rfl | rfl | rfl | rfl | rfl | rfl | rfl | rfl | rfl | rfl | rfl | rfl <;> decide
theorem kst1_v {k : Int} (h : 0 ≤ k ∧ k < 2) : kst1 k = 32 ∨ kst1 k = 34 := by
  rcases (show k = 0 ∨ k = 1 by omega) with rfl | rfl <;> simp [kst1]
theorem zPs_mono {C C2 F F2 : Nat → Int → Int} {g : Nat → Int → Option Nat} {st : Int → Nat} (h : zPs C F g st) (h1 : C2 12 1 = C 12 1) (h2 : ∀ b : Nat, 14 ≤ b → b ≤ 29 → C2 b = C b) (f7 : F2 45 7 = F 45 7) (f47 : F2 47 = F 47) (f51 : F2 51 = F 51) : zPs C2 F2 g st := by
  obtain ⟨a1, a2, a3, a4, a5, a6⟩ := h
  refine ⟨a1, a2, a3, by rw [h1, f7]; exact a4, by rw [f7]; exact a5, fun k k0 k1 => ?_⟩
  rw [f7] at k1
  rw [f47, f51]
  have r := a2 k k0 (by omega)
  exact zP_mono (a6 k k0 k1) (h2 _ (by omega) (by omega)) (h2 _ (by omega) (by omega))
theorem zKs_mono {C C2 F F2 : Nat → Int → Int} {g g2 : Nat → Int → Option Nat} (h : zKs C F g) (hg : g2 31 = g 31) (h1 : C2 30 1 = C 30 1) (h2 : ∀ b : Nat, 32 ≤ b → b ≤ 35 → C2 b = C b) (f7 : F2 45 9 = F 45 9) (f47 : F2 47 = F 47) (f51 : F2 52 = F 52) : zKs C2 F2 g2 := by
  obtain ⟨a1, a4, a5, a6⟩ := h
  refine ⟨fun i i0 i1 => by rw [hg]; exact a1 i i0 i1, by rw [h1, f7]; exact a4, by rw [f7]; exact a5, fun k k0 k1 => ?_⟩
  rw [f7] at k1
  rw [f47, f51]
  have r := kst1_v (k := k) ⟨k0, by omega⟩
  exact zP_mono (a6 k k0 k1) (h2 _ (by omega) (by omega)) (h2 _ (by omega) (by omega))
/-- nothing of weight has changed -/
theorem zI_same {F F2 : Nat → Int → Int} {g : Nat → Int → Option Nat} (h : zI F g) (h1 : ∀ b : Nat, b < 36 → b ≠ 3 → F2 b = F b) (h2 : ∀ b : Nat, 45 ≤ b → b < 53 → b ≠ 45 → b ≠ 48 → b ≠ 49 → F2 b = F b) (h3 : F2 45 1 = F 45 1 ∧ F2 45 7 = F 45 7 ∧ F2 45 9 = F 45 9) : zI F2 g := by
  obtain ⟨a1, a2, a3, a4, a5, a6, ⟨st, a7⟩, a8⟩ := h
  have e47 := h2 47 (by decide) (by decide) (by decide) (by decide) (by decide)
  have e50 := h2 50 (by decide) (by decide) (by decide) (by decide) (by decide)
  have e46 := h2 46 (by decide) (by decide) (by decide) (by decide) (by decide)
  have e51 := h2 51 (by decide) (by decide) (by decide) (by decide) (by decide)
  have e52 := h2 52 (by decide) (by decide) (by decide) (by decide) (by decide)
  refine ⟨a1, a2, by rw [e47]; exact a3, ?_, ?_, ?_, ⟨st, zPs_mono a7 (by rw [h1 12 (by decide) (by decide)]) (fun b b0 b1 => h1 b (by omega) (by omega)) h3.2.1 e47 e51⟩, zKs_mono a8 rfl (by rw [h1 30 (by decide) (by decide)]) (fun b b0 b1 => h1 b (by omega) (by omega)) h3.2.2 e47 e52⟩
  · rw [e47]
    unfold RF
    rw [h1 4 (by decide) (by decide), h1 5 (by decide) (by decide), h1 6 (by decide) (by decide), h1 7 (by decide) (by decide), h1 8 (by decide) (by decide), h1 9 (by decide) (by decide)]
    exact a4
  · rw [e47, e50]
    exact zP_mono a5 (h1 10 (by decide) (by decide)) (h1 11 (by decide) (by decide))
  · rw [e46, h3.1]
    exact kTx_eq a6 (by rw [h1 1 (by decide) (by decide)]) (h1 2 (by decide) (by decide))
theorem kAd_12 {F : Nat → Int → Int} {g : Nat → Int → Option Nat} {st : Int → Nat} (hst : zPs F F g st) : kAd F st 12 1 = if F 45 7 = 8 then 8 else F 45 7 + 1 := by
  have e := hst.2.2.2.1
  unfold kAd
  rw [e]
  split
  · exact k_u_self
  · exact k_u_self
theorem kKe_7 {f : Nat → Int → Int} {s : Int → Int} : kKe f s 45 7 = if f 45 7 = 8 then 8 else f 45 7 + 1 := by
  unfold kKe kKp
  split
  · exact k_u_self
  · exact k_u_self
theorem kKe_j {f : Nat → Int → Int} {s : Int → Int} {j : Int} (h : j ≠ 7) : kKe f s 45 j = f 45 j := by
  unfold kKe kKp
  split
  · rw [k_u_ne2 h]
    exact (if_neg (fun z => absurd z.1 (by decide))).trans ((k_u_ne2 h).trans (if_neg (fun z => absurd z.1 (by decide))))
  · rw [k_u_ne2 h]
    exact if_neg (fun z => absurd z.1 (by decide))
/-- the rows of the past behind a keeping -/
theorem kKe_r8 {f : Nat → Int → Int} {s : Int → Int} {k j : Int} (h : f 45 7 = 8) (hk : 0 ≤ k ∧ k < 8) (hj : 0 ≤ j ∧ j < 29) : kKe f s 51 (29 * k + j) = if k = 7 then s j else f 51 (29 * (k + 1) + j) := by
  unfold kKe kKp
  rw [if_pos h, k_u_ne (by decide)]
  by_cases e : k = 7
  · rw [if_pos e, e]
    refine (if_pos ⟨rfl, by omega, by omega⟩).trans ?_
    rw [show 29 * (7 : Int) + j - 29 * 7 = j by omega]
  · rw [if_neg e]
    refine (if_neg (fun z => by omega)).trans ?_
    rw [k_u_ne (by decide)]
    refine (if_pos ⟨rfl, by omega, by omega⟩).trans ?_
    rw [show 29 * k + j + 29 = 29 * (k + 1) + j by omega]
theorem kKe_r {f : Nat → Int → Int} {s : Int → Int} {k j : Int} (h : f 45 7 ≠ 8) (hk : 0 ≤ k ∧ k ≤ f 45 7) (hj : 0 ≤ j ∧ j < 29) : kKe f s 51 (29 * k + j) = if k = f 45 7 then s j else f 51 (29 * k + j) := by
  unfold kKe kKp
  rw [if_neg h, k_u_ne (by decide)]
  by_cases e : k = f 45 7
  · rw [if_pos e, e]
    refine (if_pos ⟨rfl, by omega, by omega⟩).trans ?_
    rw [show 29 * f 45 7 + j - 29 * f 45 7 = j by omega]
  · rw [if_neg e]
    exact if_neg (fun z => by omega)
theorem kRt_31 {g : Nat → Int → Option Nat} {st : Int → Nat} : kRt g st 31 = g 31 := by
  funext j
  unfold kRt
  rw [k_u_ne (by decide)]
  exact if_neg (fun z => absurd z.1 (by decide))
theorem kAg_31 {f : Nat → Int → Int} {g : Nat → Int → Option Nat} {st : Int → Nat} : kAg f g st 31 = g 31 := by
  unfold kAg
  split
  · exact kRt_31
  · rfl
theorem kAg_M {f : Nat → Int → Int} {g : Nat → Int → Option Nat} {st : Int → Nat} (h : kGM g) : kGM (kAg f g st) := by
  unfold kAg
  split
  · intro q hq
    have hne : q.1 ≠ 13 := by
      have z : ∀ q ∈ kGLM, q.1 ≠ 13 := by decide
      exact z q hq
    unfold kRt
    rw [k_u_ne hne]
    exact (if_neg (fun z => hne z.1)).trans (h q hq)
  · exact h
theorem zPs_add {F C1 H : Nat → Int → Int} {g : Nat → Int → Option Nat} {st : Int → Nat} (hT : mTO (F 47)) (hJ : zPs F F g st) (hP : zP (F 47) F 10 (F 50)) (e7 : C1 45 7 = F 45 7) (e51 : C1 51 = F 51) (hc : ∀ b : Nat, 12 ≤ b → b < 45 → H b = kAd F st b) (h7 : H 45 7 = kKe C1 (F 50) 45 7) (h51 : H 51 = kKe C1 (F 50) 51) (h47 : H 47 = F 47) : zPs H H (kAg F g st) (kAs F st) := by
  obtain ⟨a1, a2, a3, a4, a5, a6⟩ := id hJ
  have ev : ∀ k, 0 ≤ k → k < 8 → st k % 2 = 0 := fun k k0 k1 => by
    have z := st_even (a1 k k0 k1).2
    have z2 := a2 k k0 k1
    omega
  have h12 := kAd_12 hJ
  have r7 : H 45 7 = if F 45 7 = 8 then 8 else F 45 7 + 1 := by rw [h7, kKe_7, e7]
  refine ⟨kAg_P a1, ?_, ?_, ?_, ?_, ?_⟩
  · intro i i0 i1
    unfold kAs
    split
    · unfold kSt
      split
      · exact a2 _ (by omega) (by omega)
      · exact a2 0 (by omega) (by omega)
    · exact a2 i i0 i1
  · intro i j i0 i1 i2
    unfold kAs
    split
    · unfold kSt
      rw [if_pos (by omega)]
      split
      · exact a3 _ _ (by omega) (by omega) (by omega)
      · exact (a3 0 (i + 1) (by omega) (by omega) (by omega)).symm
    · exact a3 i j i0 i1 i2
  · rw [hc 12 (by decide) (by decide), h12, r7]
  · rw [r7]; split <;> omega
  · intro k k0 k1
    rw [r7] at k1
    rw [h47, h51]
    by_cases e8 : F 45 7 = 8
    · rw [if_pos e8] at k1
      have eK : ∀ b : Nat, b ≠ 12 → kAd F st b = kBec (k_u F 12 1 7) (st 0) 10 b := fun b hb => by
        unfold kAd
        rw [a4, if_pos e8]
        exact k_u_off hb
      have es : kAs F st = kSt st := by unfold kAs; rw [a4, if_pos e8]
      have s0 := a2 0 (by omega) (by omega)
      rw [es]
      by_cases e : k = 7
      · have ek : kSt st k = st 0 := if_neg (by omega)
        rw [ek]
        have q : zP (F 47) (kBec (k_u F 12 1 7) (st 0) 10) (st 0) (F 50) := zP_bec hT (zP_mono hP (k_u_off (by decide)) (k_u_off (by decide))) (by omega)
        refine zP_row hT (zP_mono q ((hc _ (by omega) (by omega)).trans (eK _ (by omega))) ((hc _ (by omega) (by omega)).trans (eK _ (by omega)))) (fun j j0 j1 => ?_)
        rw [kKe_r8 (by rw [e7]; exact e8) ⟨k0, by omega⟩ ⟨j0, j1⟩, if_pos e]
      · have ek : kSt st k = st (k + 1) := if_pos (by omega)
        have sk := a2 (k + 1) (by omega) (by omega)
        have ne := a3 0 (k + 1) (by omega) (by omega) (by omega)
        have v0 := ev 0 (by omega) (by omega)
        have v1 := ev (k + 1) (by omega) (by omega)
        rw [ek]
        have o : ∀ b : Nat, b = st (k + 1) ∨ b = st (k + 1) + 1 → H b = F b := fun b hb => by
          rw [hc b (by omega) (by omega), eK b (by omega), kBec_eq b (by omega) (by omega), k_u_off (by omega)]
        refine zP_row hT (zP_mono (a6 (k + 1) (by omega) (by omega)) (o _ (Or.inl rfl)) (o _ (Or.inr rfl))) (fun j j0 j1 => ?_)
        rw [kKe_r8 (by rw [e7]; exact e8) ⟨k0, by omega⟩ ⟨j0, j1⟩, if_neg e, e51]
    · rw [if_neg e8] at k1
      have eK : ∀ b : Nat, b ≠ 12 → kAd F st b = kBec F (st (F 45 7)) 10 b := fun b hb => by
        unfold kAd
        rw [a4, if_neg e8]
        exact k_u_off hb
      have es : kAs F st = st := by unfold kAs; rw [a4, if_neg e8]
      have s0 := a2 (F 45 7) (by omega) (by omega)
      rw [es]
      by_cases e : k = F 45 7
      · rw [e]
        have q : zP (F 47) (kBec F (st (F 45 7)) 10) (st (F 45 7)) (F 50) := zP_bec hT hP (by omega)
        refine zP_row hT (zP_mono q ((hc _ (by omega) (by omega)).trans (eK _ (by omega))) ((hc _ (by omega) (by omega)).trans (eK _ (by omega)))) (fun j j0 j1 => ?_)
        rw [kKe_r (by rw [e7]; exact e8) ⟨by omega, by omega⟩ ⟨j0, j1⟩, if_pos (by omega)]
      · have sk := a2 k (by omega) (by omega)
        have ne := a3 k (F 45 7) (by omega) (by omega) (by omega)
        have v0 := ev (F 45 7) (by omega) (by omega)
        have v1 := ev k (by omega) (by omega)
        have o : ∀ b : Nat, b = st k ∨ b = st k + 1 → H b = F b := fun b hb => by
          rw [hc b (by omega) (by omega), eK b (by omega), kBec_eq b (by omega) (by omega)]
        refine zP_row hT (zP_mono (a6 k (by omega) (by omega)) (o _ (Or.inl rfl)) (o _ (Or.inr rfl))) (fun j j0 j1 => ?_)
        rw [kKe_r (by rw [e7]; exact e8) ⟨by omega, by omega⟩ ⟨j0, j1⟩, if_neg (by omega), e51]
/-- behind a call that keeps and then changes what stands now -/
theorem zI_add {F C1 H : Nat → Int → Int} {g : Nat → Int → Option Nat} {st : Int → Nat} {s2 : Int → Int} (h : zI F g) (hJ : zPs F F g st) (hc1 : ∀ b : Nat, b ≠ 10 → b ≠ 11 → C1 b = kAd F st b) (hH : H = kst (kKe C1 (F 50)) 50 s2) (hP : zP (F 47) C1 10 s2) : zI H (kAg F g st) := by
  obtain ⟨a1, a2, a3, a4, a5, a6, -, a8⟩ := id h
  obtain ⟨p1, p2, p3, p4, p5, p6⟩ := id hJ
  have hb : ∀ b : Nat, b ≠ 12 → b < 14 ∨ 29 < b → kAd F st b = F b := fun b b0 b1 => kAd_b (g := g) p1 (by rw [p4]; exact p5) b0 (fun i i0 i1 => by have := p2 i i0 i1; omega)
  have hlo : ∀ b : Nat, b < 45 → H b = C1 b := fun b b0 => by rw [hH, kst_ne (by omega), kKe_b (by omega) (by omega)]
  have c45 : C1 45 = F 45 := by rw [hc1 45 (by decide) (by decide), hb 45 (by decide) (by decide)]
  have h47 : H 47 = F 47 := by rw [hH, kst_ne (by decide), kKe_b (by decide) (by decide), hc1 47 (by decide) (by decide), hb 47 (by decide) (by decide)]
  have h50 : H 50 = s2 := by rw [hH]; exact kst_self
  have h46 : H 46 = F 46 := by rw [hH, kst_ne (by decide), kKe_b (by decide) (by decide), hc1 46 (by decide) (by decide), hb 46 (by decide) (by decide)]
  have h52 : H 52 = F 52 := by rw [hH, kst_ne (by decide), kKe_b (by decide) (by decide), hc1 52 (by decide) (by decide), hb 52 (by decide) (by decide)]
  have h45 : ∀ j, j ≠ 7 → H 45 j = F 45 j := fun j hj => by rw [hH, kst_ne (by decide), kKe_j hj, c45]
  have hF : ∀ b : Nat, b < 10 → H b = F b := fun b b0 => by rw [hlo b (by omega), hc1 b (by omega) (by omega), hb b (by omega) (by omega)]
  refine ⟨kAg_G a1, kAg_M a2, by rw [h47]; exact a3, by rw [h47]; exact RF_mono a4 hF, ?_, ?_, ⟨kAs F st, zPs_add (C1 := C1) a3 hJ a5 (by rw [c45]) (by rw [hc1 51 (by decide) (by decide), hb 51 (by decide) (by decide)]) (fun b b0 b1 => (hlo b b1).trans (hc1 b (by omega) (by omega))) (by rw [hH, kst_ne (by decide)]) (by rw [hH, kst_ne (by decide)]) h47⟩, zKs_mono a8 kAg_31 ?_ (fun b b0 b1 => ?_) (h45 9 (by decide)) h47 h52⟩
  · rw [h47, h50]
    exact zP_mono hP (hlo 10 (by decide)) (hlo 11 (by decide))
  · rw [h46, h45 1 (by decide)]
    exact kTx_eq a6 (by rw [hF 1 (by decide)]) (hF 2 (by decide))
  · rw [hlo 30 (by decide), hc1 30 (by decide) (by decide), hb 30 (by decide) (by decide)]
  · rw [hlo b (by omega), hc1 b (by omega) (by omega), hb b (by omega) (by omega)]
