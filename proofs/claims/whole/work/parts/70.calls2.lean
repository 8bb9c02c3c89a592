/-! each call: class and model answer the same and stand for the same -/
theorem kst_id {f : Nat → Int → Int} {a : Nat} {s : Int → Int} (h : f a = s) : kst f a s = f := by
  subst h
  exact kst_0
/-- the class's method and the model's answer alike, with As, and stand for the same behind it -/
def k2 (E : kEnv) (Mc Mm : kMd) (As : List kV) (F : Nat → Int → Int) (g : Nat → Int → Option Nat) : Prop := ∃ (v : Int) (d1 : Nat), d1 ≤ 20 ∧ kC E d1 0 0 Mc (kA 0 :: As) ((kMC ++ kMM), F, g) (fun r h' => r = some (kI v) ∧ ∃ F1 g1, h' = ((kMC ++ kMM), F1, g1) ∧ ∃ d2 : Nat, d2 ≤ 20 ∧ kC E d2 0 0 Mm (kA 45 :: As) ((kMC ++ kMM), F1, g1) (fun r2 h2 => r2 = some (kI v) ∧ ∃ F2, h2 = ((kMC ++ kMM), F2, g1) ∧ zI F2 g1))
theorem kC_mono {E : kEnv} {d mc ms : Nat} {M : kMd} {As : List kV} {h : kH} {Q Q2 : Option kV → kH → Prop} (hq : ∀ r h2, Q r h2 → Q2 r h2) (k : kC E d mc ms M As h Q) : kC E d mc ms M As h Q2 := by
  intro h1 h2
  have z := k h1 h2
  intro p e a1 a2 a3 s m args below b1 b2 b3 b4
  obtain ⟨n, o, c1, c2, c3, ⟨⟨r, h3, y1, y2, y3⟩, y4⟩, c5⟩ := z p e a1 a2 a3 s m args below b1 b2 b3 b4
  exact ⟨n, o, c1, c2, c3, ⟨⟨r, h3, y1, hq _ _ y2, y3⟩, y4⟩, c5⟩
theorem k2_f {E : kEnv} {d1 d2 : Nat} {Mc Mm : kMd} {As : List kV} {F F1 F2 : Nat → Int → Int} {g g1 : Nat → Int → Option Nat} {v : Int} (e1 : d1 ≤ 20) (e2 : d2 ≤ 20) (hc : kF E d1 Mc (kA 0 :: As) ((kMC ++ kMM), F, g) (some (kI v)) ((kMC ++ kMM), F1, g1)) (hm : kF E d2 Mm (kA 45 :: As) ((kMC ++ kMM), F1, g1) (some (kI v)) ((kMC ++ kMM), F2, g1)) (h : zI F2 g1) : k2 E Mc Mm As F g :=
  ⟨v, d1, e1, kC_mono (fun r h2 z => ⟨z.1, F1, g1, z.2, d2, e2, kC_mono (fun r h2 z => ⟨z.1, F2, z.2, h⟩) hm⟩) hc⟩
theorem k2_e {E : kEnv} {d1 d2 : Nat} {Mc Mm : kMd} {As : List kV} {F : Nat → Int → Int} {g : Nat → Int → Option Nat} {v : Int} {P : (Nat → Int → Int) → Prop} {P2 : (Nat → Int → Int) → (Nat → Int → Int) → Prop} (e1 : d1 ≤ 20) (e2 : d2 ≤ 20) (hc : kFE E d1 Mc (kA 0 :: As) ((kMC ++ kMM), F, g) (some (kI v)) (kMC ++ kMM) P g) (hm : ∀ F1, P F1 → kFE E d2 Mm (kA 45 :: As) ((kMC ++ kMM), F1, g) (some (kI v)) (kMC ++ kMM) (P2 F1) g) (h : ∀ F1 F2, P F1 → P2 F1 F2 → zI F2 g) : k2 E Mc Mm As F g :=
  ⟨v, d1, e1, kC_mono (fun r h2 z => by
    obtain ⟨z1, F1, z2, z3⟩ := z
    exact ⟨z1, F1, g, z2, d2, e2, kC_mono (fun r h2 y => by
      obtain ⟨y1, F2, y2, y3⟩ := y
      exact ⟨y1, F2, y2, h F1 F2 z3 y3⟩) (hm F1 z3)⟩) hc⟩
theorem s2_bough {E : kEnv} {F : Nat → Int → Int} {g : Nat → Int → Option Nat} {a b : Int} (h : zI F g) : k2 E M_X6_bough M_X7_bough [kI a, kI b] F g := by
  obtain ⟨hg, hm, hT, hR, hP, hx, ⟨st, hst⟩, hks⟩ := id h
  obtain ⟨hS, hC, h28, hI, hD⟩ := hP
  have k0 := kst_0 (f := F) (a := 50)
  have z1 := c_bough (E := E) (w := kMM) (b := a) (v := b) hg hT hS hR hI hD h28
  have z2 := c_mbough (E := E) (f := F) (s := F 50) (b := a) (v := b) hm hT hS h28
  rw [k0] at z2
  exact k2_f (by decide) (by decide) z1 z2 h
theorem s2_tenant {E : kEnv} {F : Nat → Int → Int} {g : Nat → Int → Option Nat} {a b : Int} (h : zI F g) : k2 E M_X6_tenant M_X7_tenant [kI a, kI b] F g := by
  obtain ⟨hg, hm, hT, hR, hP, hx, ⟨st, hst⟩, hks⟩ := id h
  obtain ⟨hS, hC, h28, hI, hD⟩ := hP
  have k0 := kst_0 (f := F) (a := 50)
  have z1 := c_tenant (E := E) (w := kMM) (i := a) (v := b) hg hT hS hR hI hD h28
  have z2 := c_mtenant (E := E) (f := F) (s := F 50) (i := a) (v := b) hm hT hS h28
  rw [k0] at z2
  exact k2_f (by decide) (by decide) z1 z2 h
theorem s2_can {E : kEnv} {F : Nat → Int → Int} {g : Nat → Int → Option Nat} {a b : Int} (h : zI F g) : k2 E M_X6_can M_X7_can [kI a, kI b] F g := by
  obtain ⟨hg, hm, hT, hR, hP, hx, ⟨st, hst⟩, hks⟩ := id h
  obtain ⟨hS, hC, h28, hI, hD⟩ := hP
  have k0 := kst_0 (f := F) (a := 50)
  have z1 := c_can (E := E) (w := kMM) (i := a) (b := b) hg hT hS hR hI hD h28
  have z2 := c_mcan (E := E) (f := F) (s := F 50) (i := a) (b := b) hm hT hS h28
  rw [k0] at z2
  exact k2_f (by decide) (by decide) z1 z2 h
theorem s2_firstDay {E : kEnv} {F : Nat → Int → Int} {g : Nat → Int → Option Nat} {a b : Int} (h : zI F g) : k2 E M_X6_firstDay M_X7_firstDay [kI a, kI b] F g := by
  obtain ⟨hg, hm, hT, hR, hP, hx, ⟨st, hst⟩, hks⟩ := id h
  obtain ⟨hS, hC, h28, hI, hD⟩ := hP
  have k0 := kst_0 (f := F) (a := 50)
  have z1 := c_firstDay (E := E) (w := kMM) (i := a) (b := b) hg hT hS hR hI hD h28
  have z2 := c_mfirstDay (E := E) (f := F) (s := F 50) (i := a) (b := b) hm hT hS h28
  rw [k0] at z2
  exact k2_f (by decide) (by decide) z1 z2 h
theorem s2_sticks {E : kEnv} {F : Nat → Int → Int} {g : Nat → Int → Option Nat} {a b : Int} (h : zI F g) : k2 E M_X6_sticks M_X7_sticks [kI a, kI b] F g := by
  obtain ⟨hg, hm, hT, hR, hP, hx, ⟨st, hst⟩, hks⟩ := id h
  obtain ⟨hS, hC, h28, hI, hD⟩ := hP
  have k0 := kst_0 (f := F) (a := 50)
  have z1 := c_sticks (E := E) (w0 := kMM) (w := a) (v := b) hg hT hS hR hI hD h28
  have z2 := c_msticks (E := E) (f := F) (s := F 50) (w := a) (v := b) hm hT hS h28
  rw [k0] at z2
  exact k2_f (by decide) (by decide) z1 z2 h
theorem s2_whose {E : kEnv} {F : Nat → Int → Int} {g : Nat → Int → Option Nat} {a b : Int} (h : zI F g) : k2 E M_X6_whose M_X7_whose [kI a, kI b] F g := by
  obtain ⟨hg, hm, hT, hR, hP, hx, ⟨st, hst⟩, hks⟩ := id h
  obtain ⟨hS, hC, h28, hI, hD⟩ := hP
  have k0 := kst_0 (f := F) (a := 50)
  have z1 := c_whose (E := E) (w := kMM) (b := a) (d := b) hg hT hS hR hI hD h28
  have z2 := c_mwhose (E := E) (f := F) (s := F 50) (b := a) (d := b) hm hT hS h28
  rw [k0] at z2
  exact k2_f (by decide) (by decide) z1 z2 h
theorem s2_sure {E : kEnv} {F : Nat → Int → Int} {g : Nat → Int → Option Nat} {a b c d : Int} (h : zI F g) : k2 E M_X6_sure M_X7_sure [kI a, kI b, kI c, kI d] F g := by
  obtain ⟨hg, hm, hT, hR, hP, hx, ⟨st, hst⟩, hks⟩ := id h
  obtain ⟨hS, hC, h28, hI, hD⟩ := hP
  have k0 := kst_0 (f := F) (a := 50)
  have z1 := c_sure (E := E) (w := kMM) (i := a) (n := b) (x := c) (part := d) hg hT hS hR hI hD h28
  have z2 := c_msure (E := E) (f := F) (s := F 50) (i := a) (n := b) (x := c) (part := d) hm hT hS h28
  rw [k0] at z2
  exact k2_f (by decide) (by decide) z1 z2 h
theorem s2_waste {E : kEnv} {F : Nat → Int → Int} {g : Nat → Int → Option Nat} (h : zI F g) : k2 E M_X6_waste M_X7_waste [] F g := by
  obtain ⟨hg, hm, hT, hR, hP, hx, ⟨st, hst⟩, hks⟩ := id h
  obtain ⟨hS, hC, h28, hI, hD⟩ := hP
  have k0 := kst_0 (f := F) (a := 50)
  have z1 := c_waste (E := E) (w := kMM)  hg hT hS hR hI hD h28
  have z2 := c_mwaste (E := E) (f := F) (s := F 50)  hm hT hS h28
  rw [k0] at z2
  exact k2_f (by decide) (by decide) z1 z2 h
theorem s2_needs {E : kEnv} {F : Nat → Int → Int} {g : Nat → Int → Option Nat} (h : zI F g) : k2 E M_X6_needs M_X7_needs [] F g := by
  obtain ⟨hg, hm, hT, hR, hP, hx, ⟨st, hst⟩, hks⟩ := id h
  obtain ⟨hS, hC, h28, hI, hD⟩ := hP
  have k0 := kst_0 (f := F) (a := 50)
  have z1 := c_needs (E := E) (w := kMM)  hg hT hS hR hI hD h28
  have z2 := c_mneeds (E := E) (f := F) (s := F 50)  hm hT hS h28
  rw [k0] at z2
  exact k2_f (by decide) (by decide) z1 z2 h
theorem s2_count {E : kEnv} {F : Nat → Int → Int} {g : Nat → Int → Option Nat} {a : Int} (h : zI F g) : k2 E M_X6_count M_X7_count [kI a] F g := by
  obtain ⟨hg, hm, hT, hR, hP, hx, ⟨st, hst⟩, hks⟩ := id h
  obtain ⟨hS, hC, h28, hI, hD⟩ := hP
  have k0 := kst_0 (f := F) (a := 50)
  have z1 := c_count (E := E) (w := kMM) (v := a) hg hT hS hR hI hD h28
  have z2 := c_mcount (E := E) (f := F) (s := F 50) (v := a) hm hT hS h28
  rw [hst.2.2.2.1, hks.2.1, hx.1.1] at z1
  rw [k0] at z2
  exact k2_f (by decide) (by decide) z1 z2 h
theorem s2_warmBy {E : kEnv} {F : Nat → Int → Int} {g : Nat → Int → Option Nat} {a : Int} (h : zI F g) : k2 E M_X6_warmBy M_X7_warmBy [kI a] F g := by
  obtain ⟨hg, hm, hT, hR, hP, hx, ⟨st, hst⟩, hks⟩ := id h
  obtain ⟨hS, hC, h28, hI, hD⟩ := hP
  have k0 := kst_0 (f := F) (a := 50)
  refine k2_e (d1 := 6) (d2 := 5) (by decide) (by decide) (c_warmBy (w := kMM) hg hT hS hR hI hD h28) (P2 := fun F1 F2 => F2 = F1 ∨ F2 = kst (kHd F1 (F 50) 29) 50 (F 50)) (fun F1 q => ?_) (fun F1 F2 q y => ?_)
  · have e47 : F1 47 = F 47 := q.2 47 (by decide) (by decide)
    have e50 : F1 50 = F 50 := q.2 50 (by decide) (by decide)
    have z2 := c_mwarmBy (E := E) (f := F1) (s := F 50) (v := a) hm (by rw [e47]; exact hT) (by rw [e47]; exact hS) h28
    rw [kst_id e50, e47] at z2
    exact z2
  · have e50 : F1 50 = F 50 := q.2 50 (by decide) (by decide)
    have hI1 : zI F1 g := zI_same h (fun b b0 b1 => q.2 b (by omega) (by omega)) (fun b b0 b1 _ _ _ => q.2 b (by omega) (by omega)) ⟨congrFun (q.2 45 (by decide) (by decide)) 1, congrFun (q.2 45 (by decide) (by decide)) 7, congrFun (q.2 45 (by decide) (by decide)) 9⟩
    rcases y with rfl | rfl
    · exact hI1
    · have o : ∀ b : Nat, b ≠ 53 → kst (kHd F1 (F 50) 29) 50 (F 50) b = F1 b := fun b hb => by
        by_cases e : b = 50
        · rw [e, e50]; exact kst_self
        · rw [kst_ne e]
          funext j
          exact if_neg (fun z => hb z.1)
      exact zI_same hI1 (fun b b0 b1 => o b (by omega)) (fun b b0 b1 _ _ _ => o b (by omega)) ⟨congrFun (o 45 (by decide)) 1, congrFun (o 45 (by decide)) 7, congrFun (o 45 (by decide)) 9⟩
theorem s2_allWarm {E : kEnv} {F : Nat → Int → Int} {g : Nat → Int → Option Nat} (h : zI F g) : k2 E M_X6_allWarm M_X7_allWarm [] F g := by
  obtain ⟨hg, hm, hT, hR, hP, hx, ⟨st, hst⟩, hks⟩ := id h
  obtain ⟨hS, hC, h28, hI, hD⟩ := hP
  have k0 := kst_0 (f := F) (a := 50)
  refine k2_e (d1 := 6) (d2 := 4) (by decide) (by decide) (c_allWarm (w := kMM) hg hT hS hR hI hD h28) (P2 := fun F1 F2 => F2 = F1 ∨ F2 = kst (kHd F1 (F 50) 29) 50 (F 50)) (fun F1 q => ?_) (fun F1 F2 q y => ?_)
  · have e47 : F1 47 = F 47 := q.2 47 (by decide) (by decide)
    have e50 : F1 50 = F 50 := q.2 50 (by decide) (by decide)
    have z2 := c_mallWarm (E := E) (f := F1) (s := F 50)  hm (by rw [e47]; exact hT) (by rw [e47]; exact hS) h28
    rw [kst_id e50, e47] at z2
    exact z2
  · have e50 : F1 50 = F 50 := q.2 50 (by decide) (by decide)
    have hI1 : zI F1 g := zI_same h (fun b b0 b1 => q.2 b (by omega) (by omega)) (fun b b0 b1 _ _ _ => q.2 b (by omega) (by omega)) ⟨congrFun (q.2 45 (by decide) (by decide)) 1, congrFun (q.2 45 (by decide) (by decide)) 7, congrFun (q.2 45 (by decide) (by decide)) 9⟩
    rcases y with rfl | rfl
    · exact hI1
    · have o : ∀ b : Nat, b ≠ 53 → kst (kHd F1 (F 50) 29) 50 (F 50) b = F1 b := fun b hb => by
        by_cases e : b = 50
        · rw [e, e50]; exact kst_self
        · rw [kst_ne e]
          funext j
          exact if_neg (fun z => hb z.1)
      exact zI_same hI1 (fun b b0 b1 => o b (by omega)) (fun b b0 b1 _ _ _ => o b (by omega)) ⟨congrFun (o 45 (by decide)) 1, congrFun (o 45 (by decide)) 7, congrFun (o 45 (by decide)) 9⟩
theorem s2_leastHook {E : kEnv} {F : Nat → Int → Int} {g : Nat → Int → Option Nat} {a : Int} (h : zI F g) : k2 E M_X6_leastHook M_X7_leastHook [kI a] F g := by
  obtain ⟨hg, hm, hT, hR, hP, hx, ⟨st, hst⟩, hks⟩ := id h
  obtain ⟨hS, hC, h28, hI, hD⟩ := hP
  have k0 := kst_0 (f := F) (a := 50)
  refine k2_e (d1 := 6) (d2 := 5) (by decide) (by decide) (c_leastHook (w := kMM) hg hT hS hR hI hD h28) (P2 := fun F1 F2 => F2 = F1 ∨ F2 = kst (kHd F1 (F 50) 29) 50 (F 50)) (fun F1 q => ?_) (fun F1 F2 q y => ?_)
  · have e47 : F1 47 = F 47 := q.2 47 (by decide) (by decide)
    have e50 : F1 50 = F 50 := q.2 50 (by decide) (by decide)
    have z2 := c_mleastHook (E := E) (f := F1) (s := F 50) (i := a) hm (by rw [e47]; exact hT) (by rw [e47]; exact hS) h28
    rw [kst_id e50, e47] at z2
    exact z2
  · have e50 : F1 50 = F 50 := q.2 50 (by decide) (by decide)
    have hI1 : zI F1 g := zI_same h (fun b b0 b1 => q.2 b (by omega) (by omega)) (fun b b0 b1 _ _ _ => q.2 b (by omega) (by omega)) ⟨congrFun (q.2 45 (by decide) (by decide)) 1, congrFun (q.2 45 (by decide) (by decide)) 7, congrFun (q.2 45 (by decide) (by decide)) 9⟩
    rcases y with rfl | rfl
    · exact hI1
    · have o : ∀ b : Nat, b ≠ 53 → kst (kHd F1 (F 50) 29) 50 (F 50) b = F1 b := fun b hb => by
        by_cases e : b = 50
        · rw [e, e50]; exact kst_self
        · rw [kst_ne e]
          funext j
          exact if_neg (fun z => hb z.1)
      exact zI_same hI1 (fun b b0 b1 => o b (by omega)) (fun b b0 b1 _ _ _ => o b (by omega)) ⟨congrFun (o 45 (by decide)) 1, congrFun (o 45 (by decide)) 7, congrFun (o 45 (by decide)) 9⟩
theorem s2_pole {E : kEnv} {F : Nat → Int → Int} {g : Nat → Int → Option Nat} (h : zI F g) : k2 E M_X6_pole M_X7_pole [] F g := by
  obtain ⟨hg, hm, hT, hR, hP, hx, ⟨st, hst⟩, hks⟩ := id h
  obtain ⟨hS, hC, h28, hI, hD⟩ := hP
  have k0 := kst_0 (f := F) (a := 50)
  refine k2_e (d1 := 6) (d2 := 5) (by decide) (by decide) (c_pole (w := kMM) hg hT hS hR hI hD h28) (P2 := fun F1 F2 => F2 = F1 ∨ F2 = kst (kHd F1 (F 50) 29) 50 (F 50)) (fun F1 q => ?_) (fun F1 F2 q y => ?_)
  · have e47 : F1 47 = F 47 := q.2 47 (by decide) (by decide)
    have e50 : F1 50 = F 50 := q.2 50 (by decide) (by decide)
    have z2 := c_mpole (E := E) (f := F1) (s := F 50)  hm (by rw [e47]; exact hT) (by rw [e47]; exact hS) h28
    rw [kst_id e50, e47] at z2
    exact z2
  · have e50 : F1 50 = F 50 := q.2 50 (by decide) (by decide)
    have hI1 : zI F1 g := zI_same h (fun b b0 b1 => q.2 b (by omega) (by omega)) (fun b b0 b1 _ _ _ => q.2 b (by omega) (by omega)) ⟨congrFun (q.2 45 (by decide) (by decide)) 1, congrFun (q.2 45 (by decide) (by decide)) 7, congrFun (q.2 45 (by decide) (by decide)) 9⟩
    rcases y with rfl | rfl
    · exact hI1
    · have o : ∀ b : Nat, b ≠ 53 → kst (kHd F1 (F 50) 29) 50 (F 50) b = F1 b := fun b hb => by
        by_cases e : b = 50
        · rw [e, e50]; exact kst_self
        · rw [kst_ne e]
          funext j
          exact if_neg (fun z => hb z.1)
      exact zI_same hI1 (fun b b0 b1 => o b (by omega)) (fun b b0 b1 _ _ _ => o b (by omega)) ⟨congrFun (o 45 (by decide)) 1, congrFun (o 45 (by decide)) 7, congrFun (o 45 (by decide)) 9⟩
theorem s2_storm {E : kEnv} {F : Nat → Int → Int} {g : Nat → Int → Option Nat} {a b c : Int} (h : zI F g) : k2 E M_X6_storm M_X7_storm [kI a, kI b, kI c] F g := by
  obtain ⟨hg, hm, hT, hR, hP, hx, ⟨st, hst⟩, hks⟩ := id h
  obtain ⟨hS, hC, h28, hI, hD⟩ := hP
  have k0 := kst_0 (f := F) (a := 50)
  refine k2_e (d1 := 6) (d2 := 5) (by decide) (by decide) (c_storm (w := kMM) hg hT hS hR hI hD h28) (P2 := fun F1 F2 => F2 = F1 ∨ F2 = kst (kHd F1 (F 50) 29) 50 (F 50)) (fun F1 q => ?_) (fun F1 F2 q y => ?_)
  · have e47 : F1 47 = F 47 := q.2 47 (by decide) (by decide)
    have e50 : F1 50 = F 50 := q.2 50 (by decide) (by decide)
    have z2 := c_mstorm (E := E) (f := F1) (s := F 50) (z := a) (m := b) (v := c) hm (by rw [e47]; exact hT) (by rw [e47]; exact hS) h28
    rw [kst_id e50, e47] at z2
    exact z2
  · have e50 : F1 50 = F 50 := q.2 50 (by decide) (by decide)
    have hI1 : zI F1 g := zI_same h (fun b b0 b1 => q.2 b (by omega) (by omega)) (fun b b0 b1 _ _ _ => q.2 b (by omega) (by omega)) ⟨congrFun (q.2 45 (by decide) (by decide)) 1, congrFun (q.2 45 (by decide) (by decide)) 7, congrFun (q.2 45 (by decide) (by decide)) 9⟩
    rcases y with rfl | rfl
    · exact hI1
    · have o : ∀ b : Nat, b ≠ 53 → kst (kHd F1 (F 50) 29) 50 (F 50) b = F1 b := fun b hb => by
        by_cases e : b = 50
        · rw [e, e50]; exact kst_self
        · rw [kst_ne e]
          funext j
          exact if_neg (fun z => hb z.1)
      exact zI_same hI1 (fun b b0 b1 => o b (by omega)) (fun b b0 b1 _ _ _ => o b (by omega)) ⟨congrFun (o 45 (by decide)) 1, congrFun (o 45 (by decide)) 7, congrFun (o 45 (by decide)) 9⟩
theorem s2_share {E : kEnv} {F : Nat → Int → Int} {g : Nat → Int → Option Nat} {a : Int} (h : zI F g) : k2 E M_X6_share M_X7_share [kI a] F g := by
  obtain ⟨hg, hm, hT, hR, hP, hx, ⟨st, hst⟩, hks⟩ := id h
  obtain ⟨hS, hC, h28, hI, hD⟩ := hP
  have k0 := kst_0 (f := F) (a := 50)
  refine k2_e (d1 := 13) (d2 := 2) (by decide) (by decide) (c_share (w := kMM) (v := a) hg hT hS hR hI hD h28 hC) (P2 := fun F1 h2 => ∃ f3, mE F1 f3 ∧ h2 = kst f3 50 (F 50)) (fun F1 q => ?_) (fun F1 F2 q y => ?_)
  · have e47 : F1 47 = F 47 := q 47 (by decide)
    have e50 : F1 50 = F 50 := q 50 (by decide)
    have z2 := c_mshare (E := E) (f := F1) (s := F 50) (v := a) hm (by rw [e47]; exact hT) (by rw [e47]; exact hS) (by rw [e47]; exact hC) h28
    rw [kst_id e50, e47] at z2
    exact z2
  · have e50 : F1 50 = F 50 := q 50 (by decide)
    obtain ⟨f3, y1, rfl⟩ := y
    have o : ∀ b : Nat, (b < 39 ∨ 44 < b) → b ≠ 54 → b ≠ 55 → kst f3 50 (F 50) b = F b := fun b h1 h2 h3 => by
      by_cases e : b = 50
      · rw [e]; exact kst_self
      · rw [kst_ne e, y1 b h2 h3, q b h1]
    exact zI_same h (fun b b0 b1 => o b (by omega) (by omega) (by omega)) (fun b b0 b1 _ _ _ => o b (by omega) (by omega) (by omega)) ⟨congrFun (o 45 (by decide) (by decide) (by decide)) 1, congrFun (o 45 (by decide) (by decide) (by decide)) 7, congrFun (o 45 (by decide) (by decide) (by decide)) 9⟩
theorem s2_fault {E : kEnv} {F : Nat → Int → Int} {g : Nat → Int → Option Nat} (h : zI F g) : k2 E M_X6_fault M_X7_fault [] F g := by
  obtain ⟨hg, hm, hT, hR, hP, hx, ⟨st, hst⟩, hks⟩ := id h
  obtain ⟨hS, hC, h28, hI, hD⟩ := hP
  have k0 := kst_0 (f := F) (a := 50)
  have hn := hx.1
  have hxm : kTm (F 46) (F 45 1) F := ⟨⟨rfl, by omega, by omega⟩, fun j j0 j1 => rfl⟩
  refine k2_e (d1 := 4) (d2 := 5) (by decide) (by decide) (c_fault (w := kMM) (F := 201) (T := bgT (F 48)) (s := bgS (F 49)) hg hx (by omega) bgT_p bgS_p bgT_v.1 bgT_v.2.1) (P2 := fun F1 h2 => ∃ f2, h2 = kst f2 50 (F 50) ∧ mKq F1 f2) (fun F1 q => ?_) (fun F1 F2 q y => ?_)
  · have e50 : F1 50 = F 50 := q 50 (by decide)
    have z2 := c_mfault (E := E) (f := F1) (s := F 50) (F := 201) hm (tx := F 46) (n := F 45 1) (kTm_eq hxm (by rw [q 45 (by decide)]) (q 46 (by decide))) (by omega)
    rw [kst_id e50, q 48 (by decide), q 49 (by decide)] at z2
    exact z2
  · have e50 : F1 50 = F 50 := q 50 (by decide)
    obtain ⟨f2, rfl, y1⟩ := y
    have o : ∀ b : Nat, b ≠ 3 → b ≠ 45 → b ≠ 48 → b ≠ 49 → kst f2 50 (F 50) b = F b := fun b h1 h2 h3 h4 => by
      by_cases e : b = 50
      · rw [e]; exact kst_self
      · rw [kst_ne e, y1.1 b h2 h3 h4, q b h1]
    have o2 : ∀ j, j ≠ 10 → kst f2 50 (F 50) 45 j = F 45 j := fun j hj => by rw [kst_ne (by decide), y1.2 j hj, q 45 (by decide)]
    exact zI_same h (fun b b0 b1 => o b b1 (by omega) (by omega) (by omega)) (fun b b0 b1 u1 u2 u3 => o b (by omega) u1 u2 u3) ⟨o2 1 (by decide), o2 7 (by decide), o2 9 (by decide)⟩
theorem s2_take {E : kEnv} {F : Nat → Int → Int} {g : Nat → Int → Option Nat} {a b : Int} (h : zI F g) : k2 E M_X6_take M_X7_take [kI a, kI b] F g := by
  obtain ⟨hg, hm, hT, hR, hP, hx, ⟨st, hst⟩, hks⟩ := id h
  obtain ⟨hS, hC, h28, hI, hD⟩ := hP
  have k0 := kst_0 (f := F) (a := 50)
  have hk : 0 ≤ F 45 7 ∧ F 45 7 ≤ 8 := hst.2.2.2.2.1
  have z1 := c_take (E := E) (f := F) (w := kMM) (i := a) (b := b) (st := st) hg hst.1 (by rw [hst.2.2.2.1]; exact hst.2.2.2.2.1) hst.2.1 hT hS hR hI hD h28
  by_cases cn : ((0 ≤ a ∧ a ≤ F 47 1 - 1) ∧ (0 ≤ b ∧ b ≤ F 47 0 - 1)) ∧ oCan (F 47) (F 50) a b = true
  · rw [if_pos cn, if_pos cn] at z1
    have o : ∀ b2 : Nat, b2 ≠ 10 → b2 ≠ 11 → (kTk (F 47) (F 50) F st a b) b2 = kAd F st b2 := fun b2 u1 u2 => by
      unfold kTk kTkP kPick
      split
      · rw [k_u_off u2, k_u_off u2, k_u_off u2, k_u_off u1]
      · rw [k_u_off u2, k_u_off u2, k_u_off u1]
    have hb : ∀ b2 : Nat, 45 ≤ b2 → (kTk (F 47) (F 50) F st a b) b2 = F b2 := fun b2 b0 => (o b2 (by omega) (by omega)).trans (kAd_b (g := g) hst.1 (by rw [hst.2.2.2.1]; exact hk) (by omega) (fun i i0 i1 => by have := hst.2.1 i i0 i1; omega))
    have e47 := hb 47 (by decide)
    have e50 := hb 50 (by decide)
    have e45 := hb 45 (by decide)
    have z2 := c_mtake (E := E) (f := kTk (F 47) (F 50) F st a b) (s := F 50) (i := a) (b := b) (kAg_M (f := F) (st := st) hm) (by rw [e47]; exact hT) (by rw [e47]; exact hS) h28 (by rw [e45]; exact hk)
    rw [kst_id e50, e47] at z2
    rw [if_pos cn] at z2
    exact k2_f (by decide) (by decide) z1 z2 (zI_add h hst o rfl (zP_take h hst (by omega) (by omega) (oCan_i.mp cn.2)))
  · rw [if_neg cn, if_neg cn] at z1
    have z2 := c_mtake (E := E) (f := F) (s := F 50) (i := a) (b := b) hm hT hS h28 hk
    rw [k0, if_neg cn] at z2
    exact k2_f (by decide) (by decide) z1 z2 h
theorem s2_pass {E : kEnv} {F : Nat → Int → Int} {g : Nat → Int → Option Nat} {a : Int} (h : zI F g) : k2 E M_X6_pass M_X7_pass [kI a] F g := by
  obtain ⟨hg, hm, hT, hR, hP, hx, ⟨st, hst⟩, hks⟩ := id h
  obtain ⟨hS, hC, h28, hI, hD⟩ := hP
  have k0 := kst_0 (f := F) (a := 50)
  have hk : 0 ≤ F 45 7 ∧ F 45 7 ≤ 8 := hst.2.2.2.2.1
  have z1 := c_pass (E := E) (f := F) (w := kMM) (v := a) (st := st) hg hst.1 (by rw [hst.2.2.2.1]; exact hst.2.2.2.2.1) hst.2.1 (by rw [hI.1]; exact h28)
  rw [hI.1] at z1
  by_cases cn : (1 ≤ a ∧ a ≤ 30) ∧ F 50 28 + a ≤ 99
  · rw [if_pos cn, if_pos cn] at z1
    have o : ∀ b2 : Nat, b2 ≠ 10 → b2 ≠ 11 → (kGoBy (kAd F st) 10 a) b2 = kAd F st b2 := fun b2 u1 u2 => by
      unfold kGoBy
      rw [k_u_off u2, k_u_off u2, k_u_off u2, k_u_off u2, k_u_off u1]
    have hb : ∀ b2 : Nat, 45 ≤ b2 → (kGoBy (kAd F st) 10 a) b2 = F b2 := fun b2 b0 => (o b2 (by omega) (by omega)).trans (kAd_b (g := g) hst.1 (by rw [hst.2.2.2.1]; exact hk) (by omega) (fun i i0 i1 => by have := hst.2.1 i i0 i1; omega))
    have e47 := hb 47 (by decide)
    have e50 := hb 50 (by decide)
    have e45 := hb 45 (by decide)
    have z2 := c_mpass (E := E) (f := kGoBy (kAd F st) 10 a) (s := F 50) (m := a) (kAg_M (f := F) (st := st) hm) (by rw [e47]; exact hT) (by rw [e47]; exact hS) h28 (by rw [e45]; exact hk)
    rw [kst_id e50] at z2
    rw [if_pos cn] at z2
    exact k2_f (by decide) (by decide) z1 z2 (zI_add h hst o rfl (zP_pass hT (zP_ad hst ⟨hS, hC, h28, hI, hD⟩) (by omega)))
  · rw [if_neg cn, if_neg cn] at z1
    have z2 := c_mpass (E := E) (f := F) (s := F 50) (m := a) hm hT hS h28 hk
    rw [k0, if_neg cn] at z2
    exact k2_f (by decide) (by decide) z1 z2 h
theorem s2_hook {E : kEnv} {F : Nat → Int → Int} {g : Nat → Int → Option Nat} {a b : Int} (h : zI F g) : k2 E M_X6_hook M_X7_hook [kI a, kI b] F g := by
  obtain ⟨hg, hm, hT, hR, hP, hx, ⟨st, hst⟩, hks⟩ := id h
  obtain ⟨hS, hC, h28, hI, hD⟩ := hP
  have k0 := kst_0 (f := F) (a := 50)
  have hk : 0 ≤ F 45 7 ∧ F 45 7 ≤ 8 := hst.2.2.2.2.1
  have z1 := c_hook (E := E) (f := F) (w := kMM) (i := a) (r := b) (st := st) hg hst.1 (by rw [hst.2.2.2.1]; exact hst.2.2.2.2.1) hst.2.1 hT hS hR hI hD h28
  by_cases cn : (0 ≤ a ∧ a ≤ F 47 1 - 1) ∧ (1 ≤ b ∧ b ≤ 20)
  · rw [if_pos cn, if_pos cn] at z1
    have o : ∀ b2 : Nat, b2 ≠ 10 → b2 ≠ 11 → (k_u (kAd F st) 11 (12 + a) b) b2 = kAd F st b2 := fun b2 u1 u2 => k_u_off u2
    have hb : ∀ b2 : Nat, 45 ≤ b2 → (k_u (kAd F st) 11 (12 + a) b) b2 = F b2 := fun b2 b0 => (o b2 (by omega) (by omega)).trans (kAd_b (g := g) hst.1 (by rw [hst.2.2.2.1]; exact hk) (by omega) (fun i i0 i1 => by have := hst.2.1 i i0 i1; omega))
    have e47 := hb 47 (by decide)
    have e50 := hb 50 (by decide)
    have e45 := hb 45 (by decide)
    have z2 := c_mhook (E := E) (f := k_u (kAd F st) 11 (12 + a) b) (s := F 50) (i := a) (r := b) (kAg_M (f := F) (st := st) hm) (by rw [e47]; exact hT) (by rw [e47]; exact hS) h28 (by rw [e45]; exact hk)
    rw [kst_id e50, e47] at z2
    rw [if_pos cn] at z2
    exact k2_f (by decide) (by decide) z1 z2 (zI_add h hst o rfl (zP_hook hT (zP_ad hst ⟨hS, hC, h28, hI, hD⟩) (by omega) (by omega)))
  · rw [if_neg cn, if_neg cn] at z1
    have z2 := c_mhook (E := E) (f := F) (s := F 50) (i := a) (r := b) hm hT hS h28 hk
    rw [k0, if_neg cn] at z2
    exact k2_f (by decide) (by decide) z1 z2 h
theorem s2_ring {E : kEnv} {F : Nat → Int → Int} {g : Nat → Int → Option Nat} {a : Int} (h : zI F g) : k2 E M_X6_ring M_X7_ring [kI a] F g := by
  obtain ⟨hg, hm, hT, hR, hP, hx, ⟨st, hst⟩, hks⟩ := id h
  obtain ⟨hS, hC, h28, hI, hD⟩ := hP
  have k0 := kst_0 (f := F) (a := 50)
  have hk : 0 ≤ F 45 7 ∧ F 45 7 ≤ 8 := hst.2.2.2.2.1
  have z1 := c_ring (E := E) (f := F) (w := kMM) (b := a) (st := st) hg hst.1 (by rw [hst.2.2.2.1]; exact hst.2.2.2.2.1) hst.2.1 hT hS hR hI hD h28
  by_cases cn : (0 ≤ a ∧ a ≤ F 47 0 - 1) ∧ ¬ (F 50 a ≤ F 50 28 ∨ F 50 (8 + a) = 1)
  · rw [if_pos cn, if_pos cn] at z1
    have o : ∀ b2 : Nat, b2 ≠ 10 → b2 ≠ 11 → (k_u (kAd F st) 11 a (F 50 28)) b2 = kAd F st b2 := fun b2 u1 u2 => k_u_off u2
    have hb : ∀ b2 : Nat, 45 ≤ b2 → (k_u (kAd F st) 11 a (F 50 28)) b2 = F b2 := fun b2 b0 => (o b2 (by omega) (by omega)).trans (kAd_b (g := g) hst.1 (by rw [hst.2.2.2.1]; exact hk) (by omega) (fun i i0 i1 => by have := hst.2.1 i i0 i1; omega))
    have e47 := hb 47 (by decide)
    have e50 := hb 50 (by decide)
    have e45 := hb 45 (by decide)
    have z2 := c_mring (E := E) (f := k_u (kAd F st) 11 a (F 50 28)) (s := F 50) (b := a) (kAg_M (f := F) (st := st) hm) (by rw [e47]; exact hT) (by rw [e47]; exact hS) h28 (by rw [e45]; exact hk)
    rw [kst_id e50, e47] at z2
    rw [if_pos cn] at z2
    exact k2_f (by decide) (by decide) z1 z2 (zI_add h hst o rfl (zP_ring hT (zP_ad hst ⟨hS, hC, h28, hI, hD⟩) (by omega)))
  · rw [if_neg cn, if_neg cn] at z1
    have z2 := c_mring (E := E) (f := F) (s := F 50) (b := a) hm hT hS h28 hk
    rw [k0, if_neg cn] at z2
    exact k2_f (by decide) (by decide) z1 z2 h
