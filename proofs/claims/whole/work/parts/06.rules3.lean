/-! rules of the inner machine: fields, arrays, returns -/
section KW3
variable {E : kEnv} {d mc ms : Nat} {M : kMd} {pc : Nat} {L : kLs} {S : List kV} {h : kH} {Q : Option kV → kH → Prop}
theorem kw_getI {idx ci k0 N a : Nat} {kz : Int} (hd : decode M.2.1 pc = .ok (.getfield idx, 3)) (q : k_fldr M.1.cls idx ci k0 N) (hm : h.1[a]? = some (ci, N)) (hf : k_fr ci k0 = false) (hz : (k0 : Int) = kz) (k : kW E d mc ms M (pc + 3) L (kI (h.2.1 a kz) :: S) h Q) : kW E d mc ms M pc L (kA a :: S) h Q := by
  intro p e R s mm args below meth c H ls locs cells slots QQ cx g1 g2 hl hS hH hR hV kk
  subst hz
  obtain ⟨C, T, q1, q2, q3, q4⟩ := q
  rw [List.map_cons, k_rvA hH hm]
  refine va_get (v := .int (Int32.ofInt (h.2.1 a k0))) cx.1 cx.2.1 cx.2.2.2.2.1 q2 cx.2.2.2.1 cx.2.2.2.2.2.2.1.1 hR.2 a (by rw [k_ws_at (k_lt hm), k_cell_o hm q1]) q1 k0 q3 (cx.2.2.2.2.1 _ q4) (fun _ z => z) ?_ hd ?_
  · rw [List.getElem?_map, List.getElem?_range q3]
    simp [k_fv, hf]
  · exact k p e R s mm args below meth c H ls locs cells slots QQ cx g1 g2 hl (k_consI (hH.1 a k0) (k_tl hS).2) hH hR hV kk
theorem kw_getR {idx ci k0 N a : Nat} {kz : Int} (hd : decode M.2.1 pc = .ok (.getfield idx, 3)) (q : k_fldr M.1.cls idx ci k0 N) (hm : h.1[a]? = some (ci, N)) (hf : k_fr ci k0 = true) (hz : (k0 : Int) = kz) {r : Option Nat} (hr : h.2.2 a kz = r) (k : kW E d mc ms M (pc + 3) L (kR r :: S) h Q) : kW E d mc ms M pc L (kA a :: S) h Q := by
  intro p e R s mm args below meth c H ls locs cells slots QQ cx g1 g2 hl hS hH hR hV kk
  subst hz
  subst hr
  obtain ⟨C, T, q1, q2, q3, q4⟩ := q
  have k2 := k p e R s mm args below meth c H ls locs cells slots QQ cx g1 g2 hl (k_cons (v := kR (h.2.2 a k0)) trivial (k_tl hS).2) hH hR hV kk
  rw [List.map_cons, k_rv_rf (fun x hx => hH.2.1 a k0 x hx)] at k2
  rw [List.map_cons, k_rvA hH hm]
  refine va_get (v := va_rf (k_rf E (h.2.2 a k0))) cx.1 cx.2.1 cx.2.2.2.2.1 q2 cx.2.2.2.1 cx.2.2.2.2.2.2.1.1 hR.2 a (by rw [k_ws_at (k_lt hm), k_cell_o hm q1]) q1 k0 q3 (cx.2.2.2.2.1 _ q4) (fun _ z => z) ?_ hd k2
  rw [List.getElem?_map, List.getElem?_range q3]
  simp [k_fv, hf]
theorem k_put_ws {E : kEnv} {h h2 : kH} {a ci N k0 : Nat} {q : vw_C} {v : Value} (hm : h.1[a]? = some (ci, N)) (hc : vwCl[ci]? = some q) (hk : k0 < N) (h0 : h2.1 = h.1) (hv : k_fv E h2 a ci k0 = v) (ho : ∀ j : Nat, j ≠ k0 → k_fv E h2 a ci j = k_fv E h a ci j) (hb : ∀ b : Nat, b ≠ a → k_cell E h2 b = k_cell E h b) :
    (k_ws E h).set a (kb E + a, .inr (ci, ((List.range N).map (fun k => k_fv E h a ci k)).set k0 v)) = k_ws E h2 := by
  refine k_ws_set h0 ?_ hb
  rw [k_cell_o (by rw [h0]; exact hm) hc]
  congr 2
  apply List.ext_getElem?
  intro i
  by_cases hi : i = k0
  · subst hi
    rw [List.getElem?_set_self (by simpa using hk), List.getElem?_map, List.getElem?_range hk]
    simp [hv]
  · rw [List.getElem?_set_ne (Ne.symm hi), List.getElem?_map, List.getElem?_map]
    cases hr : (List.range N)[i]? with
    | none => rfl
    | some x =>
      have : x = i := by
        have hlt := (List.getElem?_eq_some_iff.mp hr).1
        rw [List.getElem?_range (by simpa using hlt)] at hr
        exact (Option.some.inj hr).symm
      subst this
      simp [ho x hi]
theorem kw_putI {idx ci k0 N a : Nat} {fin : Bool} {kz z : Int} (hd : decode M.2.1 pc = .ok (.putfield idx, 3)) (q : k_fld M.1.cls idx ci k0 N fin) (hm : h.1[a]? = some (ci, N)) (hf : k_fr ci k0 = false) (hn : fin = true → M.1.name = "<init>") (hz : (k0 : Int) = kz) (k : kW E d mc ms M (pc + 3) L S (h.1, k_u h.2.1 a kz z, h.2.2) Q) : kW E d mc ms M pc L (kI z :: kA a :: S) h Q := by
  intro p e R s mm args below meth c H ls locs cells slots QQ cx g1 g2 hl hS hH hR hV kk
  subst hz
  obtain ⟨C, T, ty, q1, q2, q3, q4, q5, q6, q7, q8, q9, q10⟩ := q
  rw [List.map_cons, List.map_cons, k_rvA hH hm]
  have hzk : k_in z := (k_tl hS).1
  have hH2 : k_okH (kX E) (h.1, k_u h.2.1 a k0 z, h.2.2) := ⟨k_u_ok hH.1 hzk, hH.2⟩
  have hws : (k_ws E h).set a (kb E + a, .inr (ci, ((List.range N).map (fun k => k_fv E h a ci k)).set k0 (.int (Int32.ofInt z)))) = k_ws E (h.1, k_u h.2.1 a k0 z, h.2.2) := by
    refine k_put_ws hm q1 q3 rfl ?_ (fun j hj => ?_) (fun b hb => k_cell_cong rfl (fun j => k_u_ne hb) (fun j => rfl))
    · simp [k_fv, hf, k_u_self]
    · simp only [k_fv]
      rw [k_u_ne2 (by omega)]
  have go : ∀ (H1 : Heap) (locs1 : List Loc), va_P (kD E) vwCl ((k_ws E h).set a (kb E + a, .inr (ci, ((List.range N).map (fun k => k_fv E h a ci k)).set k0 (.int (Int32.ofInt z))))) H1 → H1.size = H.size → va_S (k_A E) s.heap H1 locs1 → W p (kl E) e R s mm args below meth c H1 locs1 cells slots QQ (F0 mm (pc + 3) ls (S.map (k_rv E))) := by
    intro H1 locs1 hP hsz hV1
    rw [hws] at hP
    exact k p e R s mm args below meth c H1 ls locs1 cells slots QQ cx g1 g2 hl (k_tl (k_tl hS).2).2 hH2 ⟨by rw [hsz]; exact hR.1, hP⟩ hV1 kk
  obtain ⟨r, h1, cell, w1, w2, w3, w4⟩ := hR.2 a _ (by rw [k_ws_at (k_lt hm), k_cell_o hm q1])
  have hr : r = (C, T, N) := Option.some.inj (h1.symm.trans q1)
  subst hr
  have he : (k_ws E h)[a]? = some (kb E + a, .inr (ci, (List.range N).map (fun k => k_fv E h a ci k))) := by rw [k_ws_at (k_lt hm), k_cell_o hm q1]
  have hts := cx.2.2.2.2.1
  have hK := cx.2.2.2.2.2.2.1.1
  have hap := va_apart (own := M.1.cls) hts q2 ty q5 q6 hK q1
  obtain ⟨hSl, hfc, kC, hkC, hkind⟩ := hK.1 ci _ q1
  obtain ⟨cf, kf, fi, f, hi, hsl⟩ := hSl k0 q3
  have hl9 : k0 < ((List.range N).map (fun k => k_fv E h a ci k)).length := by simpa using q3
  have hty0 := q7 hf
  have hlay := u_lays hts q2 q3
  have hst := (u_facts hfc hkC hlay hi).1
  have hparse : parseFieldDescriptor (T k0).2.2.1 = some .int := by rw [q5 k0 q3, hty0]
  cases fin with
  | false =>
    have hlay2 := hts _ (q2 _ (u_in_lay q3))
    unfold u_lay at hlay2
    rw [if_neg (by rw [q9]; decide)] at hlay2
    have h6 := u_store (v := .int (Int32.ofInt z)) hfc hkC hkind hlay2 hi hparse rfl rfl
    refine W.putK cx.1 cx.2.1 (f := f) ⟨cx.2.2.2.1, hts _ q4, ⟨_, _, _, hi⟩, hst⟩ (by rw [w2]; exact h6) w1 w3 (by rw [hsl]; exact k2_hasslot (w4 k0 q3)) rfl rfl hd fun H' e1 e2 e3 => ?_
    rw [hsl] at e1 ⊢
    exact go H' _ (hR.2.set k_wsD he ⟨_, q1, t_OB.to (V := updV (vp_V ((List.range N).map (fun k => k_fv E h a ci k))) k0 _) ⟨_, e1, w2, w3, t_set w4 hap q3 _⟩ (fun j _ => vp_updV_set hl9 _ j)⟩ e3) e2 (hV.put e2 e3 (by show kb E ≤ kb E + a; omega))
  | true =>
    have hdecl := q10 rfl
    have hown := cx.2.2.2.1
    have hlay2 := hts _ (q2 _ (u_in_lay q3))
    unfold u_lay at hlay2
    rw [if_pos q9] at hlay2
    have hcf : mm.cls = cf := by
      obtain ⟨_, _, c', _, _, _, -, -, hf', -, -, -, hown2, -⟩ := Cond.laysFinal_spec hlay2
      have e1 : c' = cf := by have := hi.symm.trans hf'; simp at this; exact this.1.symm
      rw [hdecl] at hown2
      rw [← e1]; exact Option.some.inj (hown.symm.trans hown2)
    have h6 := u_fits (v := .int (Int32.ofInt z)) hfc hkC hkind (Or.inr hlay2) hi hparse rfl rfl
    refine W.putFinK cx.1 cx.2.1 hown (hts _ q4) hi hst hcf (cx.2.2.2.2.2.1 (hn rfl)) (by rw [w2]; exact h6) w1 w3 (by rw [hsl]; exact k2_hasslot (w4 k0 q3)) rfl rfl hd fun H' e1 e2 e3 => ?_
    rw [hsl] at e1 ⊢
    exact go H' _ (hR.2.set k_wsD he ⟨_, q1, t_OB.to (V := updV (vp_V ((List.range N).map (fun k => k_fv E h a ci k))) k0 _) ⟨_, e1, w2, w3, t_set w4 hap q3 _⟩ (fun j _ => vp_updV_set hl9 _ j)⟩ e3) e2 (hV.put e2 e3 (by show kb E ≤ kb E + a; omega))
theorem kw_putR {idx ci k0 N a : Nat} {fin : Bool} {kz : Int} {b : Nat} (hd : decode M.2.1 pc = .ok (.putfield idx, 3)) (q : k_fld M.1.cls idx ci k0 N fin) (hm : h.1[a]? = some (ci, N)) (hf : k_fr ci k0 = true) (hb : b < 1000000) (hn : fin = true → M.1.name = "<init>") (hz : (k0 : Int) = kz) (k : kW E d mc ms M (pc + 3) L S (h.1, h.2.1, k_u h.2.2 a kz (some b)) Q) : kW E d mc ms M pc L (kA b :: kA a :: S) h Q := by
  intro p e R s mm args below meth c H ls locs cells slots QQ cx g1 g2 hl hS hH hR hV kk
  subst hz
  obtain ⟨C, T, ty, q1, q2, q3, q4, q5, q6, q7, q8, q9, q10⟩ := q
  have zb : k_rv E (kA b) = .ref (kb E + b) := if_pos hb
  rw [List.map_cons, List.map_cons, k_rvA hH hm, zb]
  have hH2 : k_okH (kX E) (h.1, h.2.1, k_u h.2.2 a k0 (some b)) := ⟨hH.1, k_u_okr hH.2.1 (fun x hx => by cases hx; exact hb), hH.2.2⟩
  have hws : (k_ws E h).set a (kb E + a, .inr (ci, ((List.range N).map (fun k => k_fv E h a ci k)).set k0 (.ref (kb E + b)))) = k_ws E (h.1, h.2.1, k_u h.2.2 a k0 (some b)) := by
    refine k_put_ws hm q1 q3 rfl ?_ (fun j hj => ?_) (fun b2 hb2 => k_cell_cong rfl (fun j => rfl) (fun j => k_u_ne hb2))
    · simp [k_fv, hf, k_u_self, k_rf, va_rf]
    · simp only [k_fv]
      rw [k_u_ne2 (by omega)]
  have go : ∀ (H1 : Heap) (locs1 : List Loc), va_P (kD E) vwCl ((k_ws E h).set a (kb E + a, .inr (ci, ((List.range N).map (fun k => k_fv E h a ci k)).set k0 (.ref (kb E + b))))) H1 → H1.size = H.size → va_S (k_A E) s.heap H1 locs1 → W p (kl E) e R s mm args below meth c H1 locs1 cells slots QQ (F0 mm (pc + 3) ls (S.map (k_rv E))) := by
    intro H1 locs1 hP hsz hV1
    rw [hws] at hP
    exact k p e R s mm args below meth c H1 ls locs1 cells slots QQ cx g1 g2 hl (k_tl (k_tl hS).2).2 hH2 ⟨by rw [hsz]; exact hR.1, hP⟩ hV1 kk
  obtain ⟨r, h1, cell, w1, w2, w3, w4⟩ := hR.2 a _ (by rw [k_ws_at (k_lt hm), k_cell_o hm q1])
  have hr : r = (C, T, N) := Option.some.inj (h1.symm.trans q1)
  subst hr
  have he : (k_ws E h)[a]? = some (kb E + a, .inr (ci, (List.range N).map (fun k => k_fv E h a ci k))) := by rw [k_ws_at (k_lt hm), k_cell_o hm q1]
  have hts := cx.2.2.2.2.1
  have hK := cx.2.2.2.2.2.2.1.1
  have hap := va_apart (own := M.1.cls) hts q2 ty q5 q6 hK q1
  obtain ⟨hSl, hfc, kC, hkC, hkind⟩ := hK.1 ci _ q1
  obtain ⟨cf, kf, fi, f, hi, hsl⟩ := hSl k0 q3
  have hl9 : k0 < ((List.range N).map (fun k => k_fv E h a ci k)).length := by simpa using q3
  have hty0 := q8 hf (.ref (kb E + b)) (Or.inr ⟨_, rfl⟩)
  have hlay := u_lays hts q2 q3
  have hst := (u_facts hfc hkC hlay hi).1
  have hparse := q5 k0 q3
  cases fin with
  | false =>
    have hlay2 := hts _ (q2 _ (u_in_lay q3))
    unfold u_lay at hlay2
    rw [if_neg (by rw [q9]; decide)] at hlay2
    have h6 := u_store (v := .ref (kb E + b)) hfc hkC hkind hlay2 hi hparse hty0.1 hty0.2
    refine W.putK cx.1 cx.2.1 (f := f) ⟨cx.2.2.2.1, hts _ q4, ⟨_, _, _, hi⟩, hst⟩ (by rw [w2]; exact h6) w1 w3 (by rw [hsl]; exact k2_hasslot (w4 k0 q3)) rfl rfl hd fun H' e1 e2 e3 => ?_
    rw [hsl] at e1 ⊢
    exact go H' _ (hR.2.set k_wsD he ⟨_, q1, t_OB.to (V := updV (vp_V ((List.range N).map (fun k => k_fv E h a ci k))) k0 _) ⟨_, e1, w2, w3, t_set w4 hap q3 _⟩ (fun j _ => vp_updV_set hl9 _ j)⟩ e3) e2 (hV.put e2 e3 (by show kb E ≤ kb E + a; omega))
  | true =>
    have hdecl := q10 rfl
    have hown := cx.2.2.2.1
    have hlay2 := hts _ (q2 _ (u_in_lay q3))
    unfold u_lay at hlay2
    rw [if_pos q9] at hlay2
    have hcf : mm.cls = cf := by
      obtain ⟨_, _, c', _, _, _, -, -, hf', -, -, -, hown2, -⟩ := Cond.laysFinal_spec hlay2
      have e1 : c' = cf := by have := hi.symm.trans hf'; simp at this; exact this.1.symm
      rw [hdecl] at hown2
      rw [← e1]; exact Option.some.inj (hown.symm.trans hown2)
    have h6 := u_fits (v := .ref (kb E + b)) hfc hkC hkind (Or.inr hlay2) hi hparse hty0.1 hty0.2
    refine W.putFinK cx.1 cx.2.1 hown (hts _ q4) hi hst hcf (cx.2.2.2.2.2.1 (hn rfl)) (by rw [w2]; exact h6) w1 w3 (by rw [hsl]; exact k2_hasslot (w4 k0 q3)) rfl rfl hd fun H' e1 e2 e3 => ?_
    rw [hsl] at e1 ⊢
    exact go H' _ (hR.2.set k_wsD he ⟨_, q1, t_OB.to (V := updV (vp_V ((List.range N).map (fun k => k_fv E h a ci k))) k0 _) ⟨_, e1, w2, w3, t_set w4 hap q3 _⟩ (fun j _ => vp_updV_set hl9 _ j)⟩ e3) e2 (hV.put e2 e3 (by show kb E ≤ kb E + a; omega))
end KW3
