/-! what each change makes of what stands now -/
theorem zP_ad {F : Nat → Int → Int} {g : Nat → Int → Option Nat} {st : Int → Nat} {T s : Int → Int} (hJ : zPs F F g st) (h : zP T F 10 s) : zP T (kAd F st) 10 s := by
  obtain ⟨p1, p2, p3, p4, p5, p6⟩ := hJ
  have hb : ∀ b : Nat, b ≠ 12 → b < 14 ∨ 29 < b → kAd F st b = F b := fun b b0 b1 => kAd_b (g := g) p1 (by rw [p4]; exact p5) b0 (fun i i0 i1 => by have := p2 i i0 i1; omega)
  exact zP_mono h (hb 10 (by decide) (by decide)) (hb 11 (by decide) (by decide))
theorem mSO_20 {T s : Int → Int} {i v : Int} (h : mSO T s) (hi : 0 ≤ i ∧ i < 4) (hv : 0 ≤ v ∧ v ≤ 20 * mGone s) (n0 : T 0 ≤ 8) (n1 : T 1 ≤ 4) : mSO T (upi s (20 + i) v) := by
  have g1 : mGone (upi s (20 + i) v) = mGone s := by
    unfold mGone
    rw [upi_ne (by omega), upi_ne (by omega), upi_ne (by omega), upi_ne (by omega), upi_ne (by omega), upi_ne (by omega), upi_ne (by omega), upi_ne (by omega)]
  refine ⟨fun b h0 h1 => ?_, fun b h0 h1 => ?_, fun k h0 h1 => ?_⟩
  · rw [upi_ne (by omega)]; exact h.1 b h0 h1
  · rw [upi_ne (by omega)]; exact h.2.1 b h0 h1
  · rw [g1, upi_ne (j := 16 + k) (by omega), upi_ne (j := 24 + k) (by omega)]
    have z := h.2.2 k h0 h1
    by_cases e : k = i
    · rw [e, upi_self]; rw [e] at z; exact ⟨hv, z.2.1, z.2.2⟩
    · rw [upi_ne (by omega)]; exact z
theorem Sim_20 {T s : Int → Int} {f : Nat → Int → Int} {a : Nat} {i v : Int} (n0 : T 0 ≤ 8) (n1 : T 1 ≤ 4) (h : Sim T f a s) (hi : 0 ≤ i ∧ i < 4) : Sim T (k_u f (a + 1) (8 + i) v) a (upi s (20 + i) v) := by
  obtain ⟨h1, h2, h3, h4, h5⟩ := h
  refine ⟨?_, ?_, fun b a1 a2 a3 => ?_, fun k a1 a2 => ?_, fun b a1 a2 => ?_⟩
  · rw [k_u_ne (by omega), upi_ne (by omega)]; exact h1
  · rw [k_u_ne (by omega), gsum_eq (s := s) (fun j j0 j1 => upi_ne (by omega))]; exact h2
  · rw [upi_ne (by omega)] at a3
    rw [k_u_ne2 (by omega), upi_ne (by omega)]; exact h3 b a1 a2 a3
  · have z := h4 k a1 a2
    rw [k_u_ne2 (i := 8 + i) (j := 12 + k) (by omega), k_u_ne2 (i := 8 + i) (j := 16 + k) (by omega), upi_ne (j := 16 + k) (by omega), upi_ne (j := 24 + k) (by omega)]
    by_cases e : k = i
    · rw [e, k_u_self, upi_self]; rw [e] at z; exact ⟨rfl, z.2.1, z.2.2⟩
    · rw [k_u_ne2 (by omega), upi_ne (by omega)]; exact z
  · rw [k_u_ne2 (by omega)]; exact h5 b a1 a2
theorem zP_take {F : Nat → Int → Int} {g : Nat → Int → Option Nat} {st : Int → Nat} {i b : Int} (h : zI F g) (hJ : zPs F F g st) (hi : 0 ≤ i ∧ i < F 47 1) (hb : 0 ≤ b ∧ b < F 47 0) (hc : mCan (F 47) (F 50) i b) : zP (F 47) (kTk (F 47) (F 50) F st i b) 10 (mTook (F 47) (F 50) i b) := by
  obtain ⟨a1, a2, a3, a4, a5, a6, -, a8⟩ := h
  have n0 := a3.1
  have n1 := a3.2.1
  have hA := zP_ad hJ a5
  obtain ⟨p1, p2, p3, p4, p5, p6⟩ := hJ
  have e7 : kAd F st 7 = F 7 := kAd_b (g := g) p1 (by rw [p4]; exact p5) (by decide) (fun i i0 i1 => by have := p2 i i0 i1; omega)
  obtain ⟨q1, q2, q3, q4, q5⟩ := hA
  have hv : kAd F st 7 b = F 47 (21 + b) := by rw [e7]; exact (a4.2.2.2.2.2.1 b hb.1 hb.2).2.2
  have hS := mSO_takes a3 q1 hi hb hc
  have hI := Sim_pick (i := i) (b := b) (v := kAd F st 7 b) a3 q4 hi hb hc.1 hv
  have hC : mCO (F 47) (mTakes (F 47) (F 50) i b) := fun k k0 k1 => by
    by_cases e : k = i
    · rw [e, mTakes_c]; exact hc.2.2.2
    · rw [mTakes_at (24 + k) (by omega) (by omega) (by omega)]; exact q2 k k0 k1
  have h28 : mTakes (F 47) (F 50) i b 28 = F 50 28 := mTakes_at 28 (by omega) (by omega) (by omega)
  have hD : ∀ c, 0 ≤ c → c < F 47 0 → kPick (kAd F st) 10 i b (kAd F st 7 b) 11 c = mTakes (F 47) (F 50) i b c := fun c c0 c1 => by
    rw [mTakes_at c (by omega) (by omega) (by omega)]
    unfold kPick
    rw [k_u_ne2 (by omega), k_u_ne2 (by omega), k_u_ne (by decide)]
    exact q5 c c0 c1
  have hG := mGone_le hS
  unfold kTk mTook sTook kTkP
  by_cases e : oCaught (F 47) (F 50) i b = true
  · rw [if_pos e, if_pos e]
    refine ⟨mSO_20 hS (by omega) ⟨by omega, by omega⟩ (by omega) (by omega), fun k k0 k1 => ?_, ?_, Sim_20 (by omega) (by omega) hI (by omega), fun c c0 c1 => ?_⟩
    · rw [upi_ne (by omega)]; exact hC k k0 k1
    · rw [upi_ne (by omega), h28]; exact q3
    · rw [k_u_ne2 (by omega), upi_ne (by omega)]; exact hD c c0 c1
  · rw [if_neg e, if_neg e, show upi (mTakes (F 47) (F 50) i b) (20 + i) (F 50 (20 + i) + F 47 (21 + b)) = mTakes (F 47) (F 50) i b from by rw [← mTakes_s (T := F 47) (s := F 50) (i := i) (b := b)]; exact upi_same]
    exact ⟨hS, hC, by rw [h28]; exact q3, hI, hD⟩
theorem mPs_at {s : Int → Int} {j : Int} (h : j < 24 ∨ 28 < j) : ∀ n : Nat, mPs n s j = s j
  | 0 => rfl
  | n + 1 => by rw [mPs, mPass_at h]; exact mPs_at h n
theorem mPs_c {s : Int → Int} {i : Int} {n : Nat} (hi : 0 ≤ i ∧ i < 4) (hn : 1 ≤ n) : mPs n s (24 + i) = 0 := by
  obtain ⟨m, rfl⟩ := Nat.exists_eq_add_of_le hn
  rw [Nat.add_comm, mPs]
  exact mPass_c hi
theorem mSO_ps {T s : Int → Int} (hT : mTO T) (h : mSO T s) : ∀ n : Nat, mSO T (mPs n s)
  | 0 => h
  | n + 1 => by rw [mPs]; exact mSO_pass hT (mSO_ps hT h n)
theorem zP_pass {T s : Int → Int} {C : Nat → Int → Int} {v : Int} (hT : mTO T) (h : zP T C 10 s) (hv : 1 ≤ v ∧ s 28 + v ≤ 99) : zP T (kGoBy C 10 v) 10 (mPs v.toNat s) := by
  have n0 := hT.1
  have n1 := hT.2.1
  obtain ⟨q1, q2, q3, ⟨h1, h2, h3, h4, h5⟩, q5⟩ := h
  have e28 : mPs v.toNat s 28 = s 28 + v := by rw [mPs_28]; omega
  have e1 : ∀ j, j ≠ 1 → kGoBy C 10 v 10 j = C 10 j := fun j hj => by
    unfold kGoBy; rw [k_u_ne (by omega), k_u_ne (by omega), k_u_ne (by omega), k_u_ne (by omega), k_u_ne2 hj]
  have e2 : ∀ j, (j < 16 ∨ 19 < j) → kGoBy C 10 v 11 j = C 11 j := fun j hj => by
    unfold kGoBy; rw [k_u_ne2 (by omega), k_u_ne2 (by omega), k_u_ne2 (by omega), k_u_ne2 (by omega), k_u_ne (by omega)]
  have e3 : ∀ i, 0 ≤ i → i < 4 → kGoBy C 10 v 11 (16 + i) = 0 := by
    intro i a1 a2
    rcases (show i = 0 ∨ i = 1 ∨ i = 2 ∨ i = 3 by omega) with rfl | rfl | rfl | rfl <;> simp [kGoBy, k_u]
  have eg : gsum (mPs v.toNat s) = gsum s := gsum_eq (fun j j0 j1 => mPs_at (by omega) _)
  refine ⟨mSO_ps hT q1 _, fun i i0 i1 => ?_, by rw [e28]; omega, ⟨?_, by rw [e1 2 (by omega), eg]; exact h2, fun b b0 b1 b2 => ?_, fun i i0 i1 => ?_, fun b b0 b1 => ?_⟩, fun b b0 b1 => ?_⟩
  · rw [mPs_c (by omega) (by omega)]
    have := (hT.2.2.2.2.2.2 i i0 i1).1
    omega
  · rw [e28]
    unfold kGoBy
    rw [k_u_ne (by omega), k_u_ne (by omega), k_u_ne (by omega), k_u_ne (by omega), k_u_self, h1]
  · rw [mPs_at (by omega)] at b2
    show kGoBy C 10 v 11 b = _
    rw [e2 b (by omega), mPs_at (by omega)]
    exact h3 b b0 b1 b2
  · show kGoBy C 10 v 11 (8 + i) = _ ∧ kGoBy C 10 v 11 (12 + i) = _ ∧ kGoBy C 10 v 11 (16 + i) = _
    rw [e2 (8 + i) (by omega), e2 (12 + i) (by omega), e3 i i0 (by omega), mPs_at (j := 20 + i) (by omega), mPs_at (j := 16 + i) (by omega), mPs_c (by omega) (by omega)]
    exact ⟨(h4 i i0 i1).1, (h4 i i0 i1).2.1, rfl⟩
  · show -100 ≤ kGoBy C 10 v 11 b ∧ kGoBy C 10 v 11 b ≤ 300
    rw [e2 b (by omega)]
    exact h5 b b0 b1
  · show kGoBy C 10 v 11 b = _
    rw [e2 b (by omega), mPs_at (by omega)]
    exact q5 b b0 b1
theorem zP_hook {T s : Int → Int} {C : Nat → Int → Int} {i r : Int} (hT : mTO T) (h : zP T C 10 s) (hi : 0 ≤ i ∧ i < T 1) (hr : 1 ≤ r ∧ r ≤ 20) : zP T (k_u C 11 (12 + i) r) 10 (upi s (16 + i) r) := by
  have n0 := hT.1
  have n1 := hT.2.1
  obtain ⟨q1, q2, q3, q4, q5⟩ := h
  refine ⟨mSO_hook hT q1 hi hr, fun k k0 k1 => ?_, ?_, Sim_hook hT q4 hi, fun b b0 b1 => ?_⟩
  · rw [upi_ne (by omega)]; exact q2 k k0 k1
  · rw [upi_ne (by omega)]; exact q3
  · rw [k_u_ne2 (by omega), upi_ne (by omega)]; exact q5 b b0 b1
theorem zP_ring {T s : Int → Int} {C : Nat → Int → Int} {b : Int} (hT : mTO T) (h : zP T C 10 s) (hb : 0 ≤ b ∧ b < T 0) : zP T (k_u C 11 b (s 28)) 10 (upi s b (s 28)) := by
  have n0 := hT.1
  have n1 := hT.2.1
  obtain ⟨q1, q2, q3, ⟨h1, h2, h3, h4, h5⟩, q5⟩ := h
  have g1 : mGone (upi s b (s 28)) = mGone s := by
    unfold mGone
    rw [upi_ne (by omega), upi_ne (by omega), upi_ne (by omega), upi_ne (by omega), upi_ne (by omega), upi_ne (by omega), upi_ne (by omega), upi_ne (by omega)]
  refine ⟨⟨fun c h0 h1 => ?_, fun c h0 h1 => ?_, fun k h0 h1 => ?_⟩, fun k k0 k1 => ?_, ?_, ⟨?_, ?_, fun c c0 c1 c2 => ?_, fun k k0 k1 => ?_, fun c c0 c1 => ?_⟩, fun c c0 c1 => ?_⟩
  · rw [upi_ne (by omega)]; exact q1.1 c h0 h1
  · by_cases e : c = b
    · rw [e, upi_self]; omega
    · rw [upi_ne e]; exact q1.2.1 c h0 h1
  · rw [g1, upi_ne (by omega), upi_ne (by omega), upi_ne (by omega)]; exact q1.2.2 k h0 h1
  · rw [upi_ne (by omega)]; exact q2 k k0 k1
  · rw [upi_ne (by omega)]; exact q3
  · rw [k_u_ne (by decide), upi_ne (by omega)]; exact h1
  · rw [k_u_ne (by decide), gsum_eq (s := s) (fun j j0 j1 => upi_ne (by omega))]; exact h2
  · rw [upi_ne (by omega)] at c2
    show k_u C 11 b (s 28) 11 c = _
    by_cases e : c = b
    · rw [e, upi_self, k_u_self]
    · rw [upi_ne e, k_u_ne2 e]; exact h3 c c0 c1 c2
  · show k_u C 11 b (s 28) 11 (8 + k) = _ ∧ k_u C 11 b (s 28) 11 (12 + k) = _ ∧ k_u C 11 b (s 28) 11 (16 + k) = _
    rw [k_u_ne2 (by omega), k_u_ne2 (by omega), k_u_ne2 (by omega), upi_ne (by omega), upi_ne (by omega), upi_ne (by omega)]
    exact h4 k k0 k1
  · show -100 ≤ k_u C 11 b (s 28) 11 c ∧ k_u C 11 b (s 28) 11 c ≤ 300
    by_cases e : c = b
    · rw [e, k_u_self]; omega
    · rw [k_u_ne2 e]; exact h5 c c0 c1
  · by_cases e : c = b
    · rw [e, upi_self, k_u_self]
    · rw [upi_ne e, k_u_ne2 e]; exact q5 c c0 c1
