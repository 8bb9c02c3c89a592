/-! rules of the inner machine: arrays, new cells, returns -/
theorem k_ty (E : kEnv) : (k_tys E)[0]? = some (kcI E, .int) ∧ (k_tys E)[1]? = some (kcC E, .char) ∧ (k_tys E)[2]? = some (kcS E, .object RX4) := ⟨rfl, rfl, rfl⟩
theorem k_cell_i {E : kEnv} {h : kH} {a n : Nat} (hm : h.1[a]? = some (100, n)) : k_cell E h a = .inl (kcI E, n, .inl (fun j : Nat => Int32.ofInt (h.2.1 a j))) := by
  simp only [k_cell, hm]; rfl
theorem k_cell_c {E : kEnv} {h : kH} {a n : Nat} (hm : h.1[a]? = some (101, n)) : k_cell E h a = .inl (kcC E, n, .inl (fun j : Nat => Int32.ofInt (h.2.1 a j))) := by
  simp only [k_cell, hm]; rfl
theorem k_cell_q {E : kEnv} {h : kH} {a n : Nat} (hm : h.1[a]? = some (102, n)) : k_cell E h a = .inl (kcS E, n, .inr (.inr (.inr (.inr (fun j : Nat => k_rf E (h.2.2 a j)))))) := by
  simp only [k_cell, hm]; rfl
theorem k_nat {i : Int} (h0 : 0 ≤ i) : ((i.toNat : Nat) : Int) = i := Int.toNat_of_nonneg h0
section KW4
variable {E : kEnv} {d mc ms : Nat} {M : kMd} {pc : Nat} {L : kLs} {S : List kV} {h : kH} {Q : Option kV → kH → Prop}
theorem kw_iald {a n : Nat} {i : Int} (hd : decode M.2.1 pc = .ok (.iaload, 1)) (hm : h.1[a]? = some (100, n)) (h0 : 0 ≤ i) (h1 : i < n) (k : kW E d mc ms M (pc + 1) L (kI (h.2.1 a i) :: S) h Q) : kW E d mc ms M pc L (kI i :: kA a :: S) h Q := by
  intro p e R s mm args below meth c H ls locs cells slots QQ cx g1 g2 hl hS hH hR hV kk
  have hi : k_in i := (k_tl hS).1
  have k2 := k p e R s mm args below meth c H ls locs cells slots QQ cx g1 g2 hl (k_consI (hH.1 a i) (k_tl (k_tl hS).2).2) hH hR hV kk
  rw [List.map_cons, List.map_cons, k_rvA hH hm]
  refine va_iald cx.1 cx.2.1 cx.2.2.2.2.2.2.1.1 hR.2 a 0 (by rw [k_ws_at (k_lt hm), k_cell_i hm]) (k_ty E).1 (k_vpin hi h0 h1) hd ?_
  show W _ _ _ _ _ _ _ _ _ _ _ _ _ _ _ (F0 mm (pc + 1) ls (.int (Int32.ofInt (h.2.1 a (((Int32.ofInt i).toNatClampNeg : Nat) : Int))) :: S.map (k_rv E)))
  rw [k_tc hi, k_nat h0]
  exact k2
theorem kw_cald {a n : Nat} {i : Int} (hd : decode M.2.1 pc = .ok (.caload, 1)) (hm : h.1[a]? = some (101, n)) (h0 : 0 ≤ i) (h1 : i < n) (k : kW E d mc ms M (pc + 1) L (kI (h.2.1 a i) :: S) h Q) : kW E d mc ms M pc L (kI i :: kA a :: S) h Q := by
  intro p e R s mm args below meth c H ls locs cells slots QQ cx g1 g2 hl hS hH hR hV kk
  have hi : k_in i := (k_tl hS).1
  have k2 := k p e R s mm args below meth c H ls locs cells slots QQ cx g1 g2 hl (k_consI (hH.1 a i) (k_tl (k_tl hS).2).2) hH hR hV kk
  rw [List.map_cons, List.map_cons, k_rvA hH hm]
  refine va_cald cx.1 cx.2.1 cx.2.2.2.2.2.2.1.1 hR.2 a 1 (by rw [k_ws_at (k_lt hm), k_cell_c hm]) (k_ty E).2.1 (k_vpin hi h0 h1) hd ?_
  show W _ _ _ _ _ _ _ _ _ _ _ _ _ _ _ (F0 mm (pc + 1) ls (.int (Int32.ofInt (h.2.1 a (((Int32.ofInt i).toNatClampNeg : Nat) : Int))) :: S.map (k_rv E)))
  rw [k_tc hi, k_nat h0]
  exact k2
theorem kw_aald {a n : Nat} {i : Int} {r : Option Nat} (hd : decode M.2.1 pc = .ok (.aaload, 1)) (hm : h.1[a]? = some (102, n)) (h0 : 0 ≤ i) (h1 : i < n) (hr : h.2.2 a i = r) (k : kW E d mc ms M (pc + 1) L (kR r :: S) h Q) : kW E d mc ms M pc L (kI i :: kA a :: S) h Q := by
  intro p e R s mm args below meth c H ls locs cells slots QQ cx g1 g2 hl hS hH hR hV kk
  subst hr
  have hi : k_in i := (k_tl hS).1
  have k2 := k p e R s mm args below meth c H ls locs cells slots QQ cx g1 g2 hl (k_cons (v := kR (h.2.2 a i)) trivial (k_tl (k_tl hS).2).2) hH hR hV kk
  rw [List.map_cons, k_rv_rf (fun x hx => hH.2.1 a i x hx)] at k2
  rw [List.map_cons, List.map_cons, k_rvA hH hm]
  refine va_aldq cx.1 cx.2.1 cx.2.2.2.2.2.2.1.1 hR.2 a 2 (by rw [k_ws_at (k_lt hm), k_cell_q hm]) (k_ty E).2.2 (k_vpin hi h0 h1) hd ?_
  show W _ _ _ _ _ _ _ _ _ _ _ _ _ _ _ (F0 mm (pc + 1) ls (va_rf (k_rf E (h.2.2 a (((Int32.ofInt i).toNatClampNeg : Nat) : Int))) :: S.map (k_rv E)))
  rw [k_tc hi, k_nat h0]
  exact k2
theorem kw_alen {a t n : Nat} (hd : decode M.2.1 pc = .ok (.arraylength, 1)) (hm : h.1[a]? = some (t, n)) (ht : t = 100 ∨ t = 101 ∨ t = 102) (k : kW E d mc ms M (pc + 1) L (kI n :: S) h Q) : kW E d mc ms M pc L (kA a :: S) h Q := by
  intro p e R s mm args below meth c H ls locs cells slots QQ cx g1 g2 hl hS hH hR hV kk
  have hn := hH.2.2.2.2.2 a t n hm
  have hz : k_in (n : Int) := ⟨by omega, by omega⟩
  have k2 := k p e R s mm args below meth c H ls locs cells slots QQ cx g1 g2 hl (k_consI hz (k_tl hS).2) hH hR hV kk
  have e1 : Int32.ofNat n = Int32.ofInt (n : Int) := Int32.ofInt_eq_ofNat.symm
  rw [List.map_cons, k_rvA hH hm]
  rcases ht with rfl | rfl | rfl
  · exact va_alen cx.1 cx.2.1 cx.2.2.2.2.2.2.1.1 hR.2 a 0 (x := (n, _)) (by rw [k_ws_at (k_lt hm), k_cell_i hm]) (k_ty E).1 e1 hd k2
  · exact va_alen cx.1 cx.2.1 cx.2.2.2.2.2.2.1.1 hR.2 a 1 (x := (n, _)) (by rw [k_ws_at (k_lt hm), k_cell_c hm]) (k_ty E).2.1 e1 hd k2
  · exact va_alen cx.1 cx.2.1 cx.2.2.2.2.2.2.1.1 hR.2 a 2 (x := (n, _)) (by rw [k_ws_at (k_lt hm), k_cell_q hm]) (k_ty E).2.2 e1 hd k2
/-- the fixed arrays: 0 LEAST, 1 MOST, 2 the script -/
theorem kw_ialdS {j : Nat} {i : Int} (hd : decode M.2.1 pc = .ok (.iaload, 1)) (hj : j < 3) (h0 : 0 ≤ i) (h1 : i < ((k_sta (kX E) j).1 : Int)) (hz : k_in ((k_sta (kX E) j).2 i.toNat)) (k : kW E d mc ms M (pc + 1) L (kI ((k_sta (kX E) j).2 i.toNat) :: S) h Q) : kW E d mc ms M pc L (kI i :: kA (1000000 + j) :: S) h Q := by
  intro p e R s mm args below meth c H ls locs cells slots QQ cx g1 g2 hl hS hH hR hV kk
  have hi : k_in i := (k_tl hS).1
  have k2 := k p e R s mm args below meth c H ls locs cells slots QQ cx g1 g2 hl (k_consI hz (k_tl (k_tl hS).2).2) hH hR hV kk
  obtain ⟨t, e1, e2⟩ := cx.2.2.2.2.2.2.1.2.1 j hj
  have z : k_rv E (kA (1000000 + j)) = .ref t := by
    show (if 1000000 + j < 1000000 then _ else _) = _
    rw [if_neg (by omega), show 1000000 + j - 1000000 = j by omega, e1]
  rw [List.map_cons, List.map_cons, z]
  exact va_ti cx.1 cx.2.1 e2 hV (k_vpin hi h0 h1) (by rw [k_tc hi]; rfl) hd k2
theorem kw_alenS {j : Nat} (hd : decode M.2.1 pc = .ok (.arraylength, 1)) (hj : j < 3) (hz : (k_sta (kX E) j).1 < 2147483648) (k : kW E d mc ms M (pc + 1) L (kI ((k_sta (kX E) j).1 : Int) :: S) h Q) : kW E d mc ms M pc L (kA (1000000 + j) :: S) h Q := by
  intro p e R s mm args below meth c H ls locs cells slots QQ cx g1 g2 hl hS hH hR hV kk
  have k2 := k p e R s mm args below meth c H ls locs cells slots QQ cx g1 g2 hl (k_consI ⟨by omega, by omega⟩ (k_tl hS).2) hH hR hV kk
  obtain ⟨t, e1, e2⟩ := cx.2.2.2.2.2.2.1.2.1 j hj
  have z : k_rv E (kA (1000000 + j)) = .ref t := by
    show (if 1000000 + j < 1000000 then _ else _) = _
    rw [if_neg (by omega), show 1000000 + j - 1000000 = j by omega, e1]
  rw [List.map_cons, z]
  exact va_tlen cx.1 cx.2.1 e2 hV Int32.ofInt_eq_ofNat.symm hd k2
theorem kw_iast {a n : Nat} {i x : Int} (hd : decode M.2.1 pc = .ok (.iastore, 1)) (hm : h.1[a]? = some (100, n)) (h0 : 0 ≤ i) (h1 : i < n) (k : kW E d mc ms M (pc + 1) L S (h.1, k_u h.2.1 a i x, h.2.2) Q) : kW E d mc ms M pc L (kI x :: kI i :: kA a :: S) h Q := by
  intro p e R s mm args below meth c H ls locs cells slots QQ cx g1 g2 hl hS hH hR hV kk
  have hx : k_in x := (k_tl hS).1
  have hi : k_in i := (k_tl (k_tl hS).2).1
  rw [List.map_cons, List.map_cons, List.map_cons, k_rvA hH hm]
  have he : (k_ws E h)[a]? = some (kb E + a, .inl (kcI E, n, .inl (fun j : Nat => Int32.ofInt (h.2.1 a j)))) := by rw [k_ws_at (k_lt hm), k_cell_i hm]
  have hc := hR.2 a _ he
  have hAr := (cx.2.2.2.2.2.2.1.1.2 0 _ (k_ty E).1).1
  refine W.iast cx.1 cx.2.1 hc (hAr n (fun j => .int (Int32.ofInt (h.2.1 a (j : Int))))) (fun q => by cases q) (by show ¬ (_ ∨ (arrV _ _ _).slots.size ≤ _); rw [arrV_size]; exact k_vpin hi h0 h1) rfl rfl hd fun H1 e1 e2 e3 => ?_
  have hP1 : va_P (kD E) vwCl ((k_ws E h).set a (kb E + a, .inl (kcI E, n, .inl (fun j : Nat => Int32.ofInt (k_u h.2.1 a i x a j))))) H1 := by
    refine hR.2.set k_wsD he ?_ e3
    show H1[kb E + a]? = some (vp_cell _ _)
    rw [e1]
    show some ((arrV _ _ _).setSlot _ _) = _
    rw [arrV_store, vp_cell_i]
    congr 2
    funext q
    rw [k_tc hi]
    unfold updV k_u
    by_cases hq : q = i.toNat
    · subst hq
      rw [if_pos rfl, if_pos ⟨rfl, k_nat h0⟩]; try rfl
    · rw [if_neg hq, if_neg (fun z => hq (by have := z.2; omega))]
  have hws := k_ws_set (E := E) (h := h) (h2 := (h.1, k_u h.2.1 a i x, h.2.2)) (a := a) rfl (k_cell_i (h := (h.1, k_u h.2.1 a i x, h.2.2)) hm) (fun b hb => k_cell_cong rfl (fun j => k_u_ne hb) (fun j => rfl))
  rw [show (k_ws E h).set a (kb E + a, .inl (kcI E, n, .inl (fun j : Nat => Int32.ofInt (k_u h.2.1 a i x a j)))) = k_ws E (h.1, k_u h.2.1 a i x, h.2.2) from hws] at hP1
  exact k p e R s mm args below meth c H1 ls _ cells slots QQ cx g1 g2 hl (k_tl (k_tl (k_tl hS).2).2).2 ⟨k_u_ok hH.1 hx, hH.2⟩ ⟨by rw [e2]; exact hR.1, hP1⟩ (hV.put e2 e3 (by show kb E ≤ kb E + a; omega)) kk
theorem kw_cast {a n : Nat} {i x : Int} (hd : decode M.2.1 pc = .ok (.castore, 1)) (hm : h.1[a]? = some (101, n)) (h0 : 0 ≤ i) (h1 : i < n) (hx0 : 0 ≤ x) (hx1 : x < 65536) (k : kW E d mc ms M (pc + 1) L S (h.1, k_u h.2.1 a i x, h.2.2) Q) : kW E d mc ms M pc L (kI x :: kI i :: kA a :: S) h Q := by
  intro p e R s mm args below meth c H ls locs cells slots QQ cx g1 g2 hl hS hH hR hV kk
  have hx : k_in x := (k_tl hS).1
  have hi : k_in i := (k_tl (k_tl hS).2).1
  rw [List.map_cons, List.map_cons, List.map_cons, k_rvA hH hm]
  have he : (k_ws E h)[a]? = some (kb E + a, .inl (kcC E, n, .inl (fun j : Nat => Int32.ofInt (h.2.1 a j)))) := by rw [k_ws_at (k_lt hm), k_cell_c hm]
  have hc := hR.2 a _ he
  have hAr := (cx.2.2.2.2.2.2.1.1.2 1 _ (k_ty E).2.1).1
  have hnar : narrow .char (.int (Int32.ofInt x)) = .int (Int32.ofInt x) := by
    obtain ⟨m, rfl⟩ := Int.eq_ofNat_of_zero_le hx0
    rw [Int32.ofInt_eq_ofNat]
    exact (pk_charN (q := m) (by omega)).1
  refine W.cast cx.1 cx.2.1 hc (hAr n (fun j => .int (Int32.ofInt (h.2.1 a (j : Int))))) (fun q => by cases q) (by show ¬ (_ ∨ (arrV _ _ _).slots.size ≤ _); rw [arrV_size]; exact k_vpin hi h0 h1) rfl rfl hd fun H1 e1 e2 e3 => ?_
  rw [show k_rv E (kI x) = .int (Int32.ofInt x) from rfl] at *
  rw [hnar] at e1
  have hP1 : va_P (kD E) vwCl ((k_ws E h).set a (kb E + a, .inl (kcC E, n, .inl (fun j : Nat => Int32.ofInt (k_u h.2.1 a i x a j))))) H1 := by
    refine hR.2.set k_wsD he ?_ e3
    show H1[kb E + a]? = some (vp_cell _ _)
    rw [e1]
    show some ((arrV _ _ _).setSlot _ _) = _
    rw [arrV_store, vp_cell_i]
    congr 2
    funext q
    rw [k_tc hi]
    unfold updV k_u
    by_cases hq : q = i.toNat
    · subst hq
      rw [if_pos rfl, if_pos ⟨rfl, k_nat h0⟩]
    · rw [if_neg hq, if_neg (fun z => hq (by have := z.2; omega))]
  have hws := k_ws_set (E := E) (h := h) (h2 := (h.1, k_u h.2.1 a i x, h.2.2)) (a := a) rfl (k_cell_c (h := (h.1, k_u h.2.1 a i x, h.2.2)) hm) (fun b hb => k_cell_cong rfl (fun j => k_u_ne hb) (fun j => rfl))
  rw [show (k_ws E h).set a (kb E + a, .inl (kcC E, n, .inl (fun j : Nat => Int32.ofInt (k_u h.2.1 a i x a j)))) = k_ws E (h.1, k_u h.2.1 a i x, h.2.2) from hws] at hP1
  exact k p e R s mm args below meth c H1 ls _ cells slots QQ cx g1 g2 hl (k_tl (k_tl (k_tl hS).2).2).2 ⟨k_u_ok hH.1 hx, hH.2⟩ ⟨by rw [e2]; exact hR.1, hP1⟩ (hV.put e2 e3 (by show kb E ≤ kb E + a; omega)) kk
theorem kw_aast {a n b : Nat} {i : Int} (hd : decode M.2.1 pc = .ok (.aastore, 1)) (hm : h.1[a]? = some (102, n)) (hb : h.1[b]? = some (4, 3)) (h0 : 0 ≤ i) (h1 : i < n) (k : kW E d mc ms M (pc + 1) L S (h.1, h.2.1, k_u h.2.2 a i (some b)) Q) : kW E d mc ms M pc L (kA b :: kI i :: kA a :: S) h Q := by
  intro p e R s mm args below meth c H ls locs cells slots QQ cx g1 g2 hl hS hH hR hV kk
  have hi : k_in i := (k_tl (k_tl hS).2).1
  rw [List.map_cons, List.map_cons, List.map_cons, k_rvA hH hm, k_rvA hH hb]
  have he : (k_ws E h)[a]? = some (kb E + a, .inl (kcS E, n, .inr (.inr (.inr (.inr (fun j : Nat => k_rf E (h.2.2 a j))))))) := by rw [k_ws_at (k_lt hm), k_cell_q hm]
  have hc := hR.2 a _ he
  have hK := cx.2.2.2.2.2.2.1.1
  have hAr := (hK.2 2 _ (k_ty E).2.2).1
  obtain ⟨kA2, comp, k1, k2, k3, -⟩ := (hK.2 2 _ (k_ty E).2.2).2
  obtain ⟨r', hr', cellV, u1, u2, u3, -⟩ := hR.2 b _ (by rw [k_ws_at (k_lt hb), k_cell_o hb (q := (RX4, TX4, 3)) rfl])
  have hcls := (hK.1 4 (RX4, TX4, 3) rfl).2
  have hcomp : comp = (kD E).1 4 := Option.some.inj (k3.symm.trans hcls.1)
  subst hcomp
  obtain ⟨kC, hkC, -⟩ := hcls.2
  have hvp := k_vpin hi h0 h1
  refine W.aast cx.1 cx.2.1 hc (fun q h => by cases h) (fun h => by cases h) k1 k2 rfl hkC ⟨fun q => hvp (Or.inl q), by show _ < (arrV _ _ _).slots.size; rw [arrV_size]; exact Nat.not_le.mp fun q => hvp (Or.inr q)⟩ u1 (fun q h => by rw [u3] at h; cases h) (by rw [u2]; exact hkC) (by rw [u2]; exact va_assign hcls) rfl rfl hd fun H1 e1 e2 e3 => ?_
  have hP1 : va_P (kD E) vwCl ((k_ws E h).set a (kb E + a, .inl (kcS E, n, .inr (.inr (.inr (.inr (fun j : Nat => k_rf E (k_u h.2.2 a i (some b) a j)))))))) H1 := by
    refine hR.2.set k_wsD he ?_ e3
    show H1[kb E + a]? = some (vp_cell _ _)
    rw [e1]
    show some ((arrV _ _ _).setSlot _ _) = _
    rw [arrV_store, vp_cell_q]
    congr 2
    funext q
    rw [k_tc hi]
    unfold updV k_u
    by_cases hq : q = i.toNat
    · subst hq
      rw [if_pos rfl, if_pos ⟨rfl, k_nat h0⟩]; try rfl
    · rw [if_neg hq, if_neg (fun z => hq (by have := z.2; omega))]
  have hws := k_ws_set (E := E) (h := h) (h2 := (h.1, h.2.1, k_u h.2.2 a i (some b))) (a := a) rfl (k_cell_q (h := (h.1, h.2.1, k_u h.2.2 a i (some b))) hm) (fun b2 hb2 => k_cell_cong rfl (fun j => rfl) (fun j => k_u_ne hb2))
  rw [show (k_ws E h).set a (kb E + a, .inl (kcS E, n, .inr (.inr (.inr (.inr (fun j : Nat => k_rf E (k_u h.2.2 a i (some b) a j))))))) = k_ws E (h.1, h.2.1, k_u h.2.2 a i (some b)) from hws] at hP1
  exact k p e R s mm args below meth c H1 ls _ cells slots QQ cx g1 g2 hl (k_tl (k_tl (k_tl hS).2).2).2 ⟨hH.1, k_u_okr hH.2.1 (fun x hx => by cases hx; exact Nat.lt_trans (k_lt hb) hH.2.2.1), hH.2.2⟩ ⟨by rw [e2]; exact hR.1, hP1⟩ (hV.put e2 e3 (by show kb E ≤ kb E + a; omega)) kk
/-- returns -/
theorem kw_iret {z : Int} {ty : FieldType} (hd : decode M.2.1 pc = .ok (.ireturn, 1)) (hr : M.2.2.2 = some ty) (hn : narrow ty (.int (Int32.ofInt z)) = .int (Int32.ofInt z)) (hq : Q (some (kI z)) h) : kW E d mc ms M pc L [kI z] h Q := by
  intro p e R s mm args below meth c H ls locs cells slots QQ cx g1 g2 hl hS hH hR hV kk
  exact kk ls [kI z] pc h H locs cells slots (some (kI z)) (Or.inl ⟨z, ty, rfl, rfl, hd, hr, hn⟩) hq hS hH hR hV (by omega) (by omega)
theorem kw_ret (hd : decode M.2.1 pc = .ok (.return_, 1)) (hr : M.2.2.2 = none) (hq : Q none h) : kW E d mc ms M pc L [] h Q := by
  intro p e R s mm args below meth c H ls locs cells slots QQ cx g1 g2 hl hS hH hR hV kk
  exact kk ls [] pc h H locs cells slots none (Or.inr ⟨rfl, rfl, hd, hr⟩) hq hS hH hR hV (by omega) (by omega)
end KW4
