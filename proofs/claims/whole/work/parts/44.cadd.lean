/-! the class: what stands is put on the pile of the past -/
def kAd (f : Nat → Int → Int) (st : Int → Nat) : Nat → Int → Int := if f 12 1 = 8 then k_u (kBec (k_u f 12 1 7) (st 0) 10) 12 1 (7 + 1) else k_u (kBec f (st (f 12 1)) 10) 12 1 (f 12 1 + 1)
def kAg (f : Nat → Int → Int) (g : Nat → Int → Option Nat) (st : Int → Nat) : Nat → Int → Option Nat := if f 12 1 = 8 then kRt g st else g
def kAs (f : Nat → Int → Int) (st : Int → Nat) : Int → Nat := if f 12 1 = 8 then kSt st else st
theorem kAg_G {f : Nat → Int → Int} {g : Nat → Int → Option Nat} {st : Int → Nat} (hg : kG g) : kG (kAg f g st) := by
  unfold kAg
  split
  · exact kG_rt hg
  · exact hg
theorem kAg_P {f : Nat → Int → Int} {g : Nat → Int → Option Nat} {st : Int → Nat} (h : kPile g 13 8 st) : kPile (kAg f g st) 13 8 (kAs f st) := by
  unfold kAg kAs
  split
  · exact kPile_rt h
  · exact h
/-- what is no cell of the pile stands as it was -/
theorem kAd_b {f : Nat → Int → Int} {g : Nat → Int → Option Nat} {st : Int → Nat} {b : Nat} (hst : kPile g 13 8 st) (hm : 0 ≤ f 12 1 ∧ f 12 1 ≤ 8) (h : b ≠ 12) (hb : ∀ i, 0 ≤ i → i < 8 → b ≠ st i ∧ b ≠ st i + 1) : kAd f st b = f b := by
  unfold kAd
  split
  · have z := hb 0 (by omega) (by omega)
    funext j
    rw [k_u_ne h, kBec_eq b z.1 z.2, k_u_ne h]
  · have z := hb (f 12 1) (by omega) (by omega)
    funext j
    rw [k_u_ne h, kBec_eq b z.1 z.2]
theorem c_padd {E : kEnv} {w : List (Nat × Nat)} {f : Nat → Int → Int} {g : Nat → Int → Option Nat} {st : Int → Nat} (hg : kG g) (hst : kPile g 13 8 st) (hm : 0 ≤ f 12 1 ∧ f 12 1 ≤ 8) : kF E 2 M_X3_add [kA 12, kA 10] ((kMC ++ w), f, g) none ((kMC ++ w), kAd f st, kAg f g st) := by
  unfold kAd kAg
  split
  · rename_i e
    exact c_padd8 hg hst e
  · exact c_padd_past hg hst (by omega)
