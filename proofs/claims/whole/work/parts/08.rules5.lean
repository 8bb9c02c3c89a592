/-! rules of the inner machine: cells that are made, the JDK's small members -/
theorem k_ws_push {E : kEnv} {h h2 : kH} {x : Nat × Nat} (hm : h2.1 = h.1 ++ [x]) (ho : ∀ b : Nat, b < h.1.length → k_cell E h2 b = k_cell E h b) : k_ws E h2 = k_ws E h ++ [(kb E + h.1.length, k_cell E h2 h.1.length)] := by
  unfold k_ws
  rw [hm, List.length_append, List.length_singleton, List.range_succ, List.map_append]
  congr 1
  refine List.map_congr_left (fun b hb => ?_)
  rw [ho b (List.mem_range.mp hb)]
/-- the numbers, the references of a cell a that is new -/
def k_zi (f : Nat → Int → Int) (a : Nat) : Nat → Int → Int := fun b j => if b = a then 0 else f b j
def k_zr (f : Nat → Int → Option Nat) (a : Nat) : Nat → Int → Option Nat := fun b j => if b = a then none else f b j
def k_new (h : kH) (x : Nat × Nat) : kH := (h.1 ++ [x], k_zi h.2.1 h.1.length, k_zr h.2.2 h.1.length)
theorem k_new_cell {E : kEnv} {h : kH} {x : Nat × Nat} {b : Nat} (hb : b < h.1.length) : k_cell E (k_new h x) b = k_cell E h b := by
  have h0 : (k_new h x).1[b]? = h.1[b]? := List.getElem?_append_left hb
  have h1 : ∀ j, (k_new h x).2.1 b j = h.2.1 b j := fun j => if_neg (by omega)
  have h3 : ∀ j, (k_new h x).2.2 b j = h.2.2 b j := fun j => if_neg (by omega)
  simp only [k_cell, h0, h1, h3, k_fv]
theorem k_new_ok {X : Nat × (Nat → Int)} {h : kH} {x : Nat × Nat} (hH : k_okH X h) (hl : h.1.length < 999999) (hx : x.2 < 2147483648) : k_okH X (k_new h x) := by
  refine ⟨fun a i => ?_, fun a i y hy => ?_, by show (h.1 ++ [x]).length < _; rw [List.length_append, List.length_singleton]; omega, hH.2.2.2.1, hH.2.2.2.2.1, fun a t n hn => ?_⟩
  · show k_in (if a = h.1.length then 0 else h.2.1 a i)
    split
    · exact k_in0
    · exact hH.1 a i
  · have hy : (if a = h.1.length then none else h.2.2 a i) = some y := hy
    split at hy
    · cases hy
    · exact hH.2.1 a i y hy
  · have hn : (h.1 ++ [x])[a]? = some (t, n) := hn
    by_cases ha : a < h.1.length
    · rw [List.getElem?_append_left ha] at hn
      exact hH.2.2.2.2.2 a t n hn
    · rw [List.getElem?_append_right (by omega)] at hn
      have := (List.getElem?_eq_some_iff.mp hn).1
      rw [show a - h.1.length = 0 by simp at this; omega] at hn
      cases hn
      exact hx
theorem k_new_at {h : kH} {x : Nat × Nat} : (k_new h x).1[h.1.length]? = some x := by
  show (h.1 ++ [x])[h.1.length]? = _
  rw [List.getElem?_append_right (Nat.le_refl _), Nat.sub_self]
  rfl
/-- a class that can be made -/
def k_mk (own : String) (idx ci N : Nat) : Prop := ∃ (C : String) (T : u_T) (ty : Nat → FieldType), vwCl[ci]? = some (C, T, N) ∧ (∀ w ∈ u_ws C T N, w ∈ k_KT) ∧ Cond.classLink own idx C ∈ k_KT ∧ Cond.instantiable C N ∈ k_KT ∧ Cond.initialized C ∈ k_KT ∧ (∀ j, j < N → parseFieldDescriptor (T j).2.2.1 = some (ty j)) ∧ (∀ j, j < N → defaultValue (ty j) = if k_fr ci j = true then .null else .int 0) ∧ N < 100
theorem k_rfz (E : kEnv) : va_rf (k_rf E none) = .null := rfl
section KW5
variable {E : kEnv} {d mc ms : Nat} {M : kMd} {pc : Nat} {L : kLs} {S : List kV} {h : kH} {Q : Option kV → kH → Prop}
theorem kw_new {idx ci N a mc2 ms2 : Nat} (hd : decode M.2.1 pc = .ok (.new idx, 3)) (q : k_mk M.1.cls idx ci N) (ha : h.1.length = a) (hl : a < 999999) (hmc : mc2 + 1 ≤ mc) (hms : ms2 + N ≤ ms) (k : kW E d mc2 ms2 M (pc + 3) L (kA a :: S) (k_new h (ci, N)) Q) : kW E d mc ms M pc L S h Q := by
  intro p e R s mm args below meth c H ls locs cells slots QQ cx g1 g2 hlr hS hH hR hV kk
  subst ha
  obtain ⟨C, T, ty, q1, q2, q3, q4, q5, q6, q7, q8⟩ := q
  have hts := cx.2.2.2.2.1
  have hK := cx.2.2.2.2.2.2.1.1
  have hKn := hK.1 ci _ q1
  have z : k_rv E (kA h.1.length) = .ref H.size := by rw [hR.1]; exact if_pos (by omega)
  refine W.newcK cx.1 cx.2.1 cx.2.2.2.1 (hts _ q3) (hts _ q4) (hts _ q5) rfl hd (by omega) (by omega) hKn.2.1 rfl fun H1 kC hkC e1 z1 o1 => ?_
  have hk : ∀ (k : Nat) (x : Nat × va_E), (k_ws E h)[k]? = some x → H1[x.1]? = H[x.1]? := fun k x hx => o1 x.1 ((hR.2 k x hx).lt)
  have hcell : k_cell E (k_new h (ci, N)) h.1.length = .inr (ci, (List.range N).map (fun k => k_fv E (k_new h (ci, N)) h.1.length ci k)) := k_cell_o k_new_at q1
  have hP1 : va_P (kD E) vwCl (k_ws E (k_new h (ci, N))) H1 := by
    rw [k_ws_push (x := (ci, N)) rfl (fun b hb => k_new_cell hb)]
    refine (hR.2.kept hk).app (fun k x hx => ?_)
    have hz : k < 1 := (List.getElem?_eq_some_iff.mp hx).1
    rw [show k = 0 by omega] at hx
    cases hx
    rw [hcell, ← hR.1]
    refine ⟨_, q1, (u_born ty hts q2 hKn hkC e1 q6).to fun j hj => ?_⟩
    rw [q7 j hj]
    have hget : ((List.range N).map (fun k => k_fv E (k_new h (ci, N)) h.1.length ci k))[j]? = some (k_fv E (k_new h (ci, N)) h.1.length ci j) := by
      rw [List.getElem?_map, List.getElem?_range hj]; rfl
    simp only [vp_V, List.getD_eq_getElem?_getD, hget, Option.getD_some]
    have r1 : (k_new h (ci, N)).2.2 h.1.length j = none := if_pos rfl
    have r2 : (k_new h (ci, N)).2.1 h.1.length j = 0 := if_pos rfl
    simp only [k_fv, r1, r2]
    split <;> rfl
  have k2 := k p e R s mm args below meth c H1 ls locs (cells + 1) (slots + N) QQ cx (by omega) (by omega) hlr (k_cons (v := kA h.1.length) trivial hS) (k_new_ok hH hl (by show N < _; omega)) ⟨by rw [z1, hR.1]; show _ = _ + (h.1 ++ [(ci, N)]).length; rw [List.length_append, List.length_singleton]; omega, hP1⟩ ⟨Nat.le_trans hV.1 (by omega), fun x h1 h2 => (o1 x (Nat.lt_of_lt_of_le h1 hV.1)).trans (hV.2.1 x h1 h2), hV.2.2⟩
    (fun ls2 S2 pc2 h2 H2 locs2 cells2 slots2 r a1 a2 a3 a4 a5 a6 a7 a8 => kk ls2 S2 pc2 h2 H2 locs2 cells2 slots2 r a1 a2 a3 a4 a5 a6 (by omega) (by omega))
  rw [List.map_cons, z] at k2
  exact k2
theorem kw_newI {n : Int} {a mc2 ms2 : Nat} (hd : decode M.2.1 pc = .ok (.newarray .int, 2)) (h0 : 0 ≤ n) (h1 : n ≤ 1000) (ha : h.1.length = a) (hl : a < 999999) (hmc : mc2 + 1 ≤ mc) (hms : ms2 + n.toNat ≤ ms) (k : kW E d mc2 ms2 M (pc + 2) L (kA a :: S) (k_new h (100, n.toNat)) Q) : kW E d mc ms M pc L (kI n :: S) h Q := by
  intro p e R s mm args below meth c H ls locs cells slots QQ cx g1 g2 hlr hS hH hR hV kk
  subst ha
  have hts := cx.2.2.2.2.1
  have hK := cx.2.2.2.2.2.2.1.1
  have hn : k_in n := (k_tl hS).1
  have z : k_rv E (kA h.1.length) = .ref H.size := by rw [hR.1]; exact if_pos (by omega)
  refine va_newaK (atype := .int) (g := F0 mm pc ls (.int (Int32.ofInt n) :: S.map (k_rv E))) cx.1 cx.2.1 (hts _ ac_int) rfl hd rfl (fun q => (k_vpin hn h0 (n := n.toNat + 1) (by omega)) (Or.inl q)) (k_tc hn) (Nat.le_trans (Nat.mul_le_mul_right _ (show n.toNat ≤ 1000 by omega)) (by decide)) (by omega) (by omega) rfl fun H1 cA e1 z1 o1 hAr hNm => ?_
  have hcA : cA = kcI E := Option.some.inj (hNm.symm.trans (hK.2 0 _ (k_ty E).1).2)
  subst hcA
  have hk : ∀ (k : Nat) (x : Nat × va_E), (k_ws E h)[k]? = some x → H1[x.1]? = H[x.1]? := fun k x hx => o1 x.1 ((hR.2 k x hx).lt)
  have hP1 : va_P (kD E) vwCl (k_ws E (k_new h (100, n.toNat))) H1 := by
    rw [k_ws_push (x := (100, n.toNat)) rfl (fun b hb => k_new_cell hb)]
    refine (hR.2.kept hk).app (fun k x hx => ?_)
    have hz : k < 1 := (List.getElem?_eq_some_iff.mp hx).1
    rw [show k = 0 by omega] at hx
    cases hx
    rw [k_cell_i k_new_at, ← hR.1]
    show H1[H.size]? = some (vp_cell _ _)
    rw [e1, vp_cell_i]
    congr 2
    funext j
    have r2 : (k_new h (100, n.toNat)).2.1 h.1.length j = 0 := if_pos rfl
    rw [r2]; rfl
  have k2 := k p e R s mm args below meth c H1 ls locs (cells + 1) (slots + n.toNat) QQ cx (by omega) (by omega) hlr (k_cons (v := kA h.1.length) trivial (k_tl hS).2) (k_new_ok hH hl (by show n.toNat < _; omega)) ⟨by rw [z1, hR.1]; show _ = _ + (h.1 ++ [(100, n.toNat)]).length; rw [List.length_append, List.length_singleton]; omega, hP1⟩ ⟨Nat.le_trans hV.1 (by omega), fun x h1 h2 => (o1 x (Nat.lt_of_lt_of_le h1 hV.1)).trans (hV.2.1 x h1 h2), hV.2.2⟩
    (fun ls2 S2 pc2 h2 H2 locs2 cells2 slots2 r a1 a2 a3 a4 a5 a6 a7 a8 => kk ls2 S2 pc2 h2 H2 locs2 cells2 slots2 r a1 a2 a3 a4 a5 a6 (by omega) (by omega))
  rw [List.map_cons, z] at k2
  exact k2
theorem kw_newC {n : Int} {a mc2 ms2 : Nat} (hd : decode M.2.1 pc = .ok (.newarray .char, 2)) (h0 : 0 ≤ n) (h1 : n ≤ 1000) (ha : h.1.length = a) (hl : a < 999999) (hmc : mc2 + 1 ≤ mc) (hms : ms2 + n.toNat ≤ ms) (k : kW E d mc2 ms2 M (pc + 2) L (kA a :: S) (k_new h (101, n.toNat)) Q) : kW E d mc ms M pc L (kI n :: S) h Q := by
  intro p e R s mm args below meth c H ls locs cells slots QQ cx g1 g2 hlr hS hH hR hV kk
  subst ha
  have hts := cx.2.2.2.2.1
  have hK := cx.2.2.2.2.2.2.1.1
  have hn : k_in n := (k_tl hS).1
  have z : k_rv E (kA h.1.length) = .ref H.size := by rw [hR.1]; exact if_pos (by omega)
  refine va_newaK (atype := .char) (g := F0 mm pc ls (.int (Int32.ofInt n) :: S.map (k_rv E))) cx.1 cx.2.1 (hts _ ac_char) rfl hd rfl (fun q => (k_vpin hn h0 (n := n.toNat + 1) (by omega)) (Or.inl q)) (k_tc hn) (Nat.le_trans (Nat.mul_le_mul_right _ (show n.toNat ≤ 1000 by omega)) (by decide)) (by omega) (by omega) rfl fun H1 cA e1 z1 o1 hAr hNm => ?_
  have hcA : cA = kcC E := Option.some.inj (hNm.symm.trans (hK.2 1 _ (k_ty E).2.1).2)
  subst hcA
  have hk : ∀ (k : Nat) (x : Nat × va_E), (k_ws E h)[k]? = some x → H1[x.1]? = H[x.1]? := fun k x hx => o1 x.1 ((hR.2 k x hx).lt)
  have hP1 : va_P (kD E) vwCl (k_ws E (k_new h (101, n.toNat))) H1 := by
    rw [k_ws_push (x := (101, n.toNat)) rfl (fun b hb => k_new_cell hb)]
    refine (hR.2.kept hk).app (fun k x hx => ?_)
    have hz : k < 1 := (List.getElem?_eq_some_iff.mp hx).1
    rw [show k = 0 by omega] at hx
    cases hx
    rw [k_cell_c k_new_at, ← hR.1]
    show H1[H.size]? = some (vp_cell _ _)
    rw [e1, vp_cell_i]
    congr 2
    funext j
    have r2 : (k_new h (101, n.toNat)).2.1 h.1.length j = 0 := if_pos rfl
    rw [r2]; rfl
  have k2 := k p e R s mm args below meth c H1 ls locs (cells + 1) (slots + n.toNat) QQ cx (by omega) (by omega) hlr (k_cons (v := kA h.1.length) trivial (k_tl hS).2) (k_new_ok hH hl (by show n.toNat < _; omega)) ⟨by rw [z1, hR.1]; show _ = _ + (h.1 ++ [(101, n.toNat)]).length; rw [List.length_append, List.length_singleton]; omega, hP1⟩ ⟨Nat.le_trans hV.1 (by omega), fun x h1 h2 => (o1 x (Nat.lt_of_lt_of_le h1 hV.1)).trans (hV.2.1 x h1 h2), hV.2.2⟩
    (fun ls2 S2 pc2 h2 H2 locs2 cells2 slots2 r a1 a2 a3 a4 a5 a6 a7 a8 => kk ls2 S2 pc2 h2 H2 locs2 cells2 slots2 r a1 a2 a3 a4 a5 a6 (by omega) (by omega))
  rw [List.map_cons, z] at k2
  exact k2
theorem kw_newQ {idx : Nat} {n : Int} {a mc2 ms2 : Nat} (hd : decode M.2.1 pc = .ok (.anewarray idx, 3)) (hw : Cond.classLink M.1.cls idx RX4 ∈ k_KT) (h0 : 0 ≤ n) (h1 : n ≤ 1000) (ha : h.1.length = a) (hl : a < 999999) (hmc : mc2 + 1 ≤ mc) (hms : ms2 + n.toNat ≤ ms) (k : kW E d mc2 ms2 M (pc + 3) L (kA a :: S) (k_new h (102, n.toNat)) Q) : kW E d mc ms M pc L (kI n :: S) h Q := by
  intro p e R s mm args below meth c H ls locs cells slots QQ cx g1 g2 hlr hS hH hR hV kk
  subst ha
  have hts := cx.2.2.2.2.1
  have hK := cx.2.2.2.2.2.2.1.1
  have hst := cx.2.2.2.2.2.2.1
  have hn : k_in n := (k_tl hS).1
  have z : k_rv E (kA h.1.length) = .ref H.size := by rw [hR.1]; exact if_pos (by omega)
  have hcl := k_tc hn
  refine W.anew (g := F0 mm pc ls (.int (Int32.ofInt n) :: S.map (k_rv E))) cx.1 cx.2.1 cx.2.2.2.1 (hts _ hw) (va_AO.use hst.2.2.2.2.2.2.2.2.2) rfl hd rfl (fun q => (k_vpin hn h0 (n := n.toNat + 1) (by omega)) (Or.inl q)) (by rw [hcl]; omega) (by omega) (by rw [hcl]; omega) fun cA kA2 comp f1 f2 f3 f4 => ?_
  rw [hcl]
  have hcA : cA = kcS E := by
    obtain ⟨_, _, _, _, _, w⟩ := (hK.2 2 _ (k_ty E).2.2).2
    exact Option.some.inj (f1.symm.trans w)
  subst hcA
  generalize hH1 : H.push ({ cls := kcS E, slots := Array.replicate n.toNat .null, vm := .none } : Cell) = H1
  have z1 : H1.size = H.size + 1 := by rw [← hH1, Array.size_push]
  have e1 : H1[H.size]? = some (arrV (kcS E) n.toNat (fun _ => .null)) := by rw [← hH1, Array.getElem?_push_size, ← arrV_new]
  have o1 : ∀ q : Nat, q < H.size → H1[q]? = H[q]? := fun q hq => by rw [← hH1, Array.getElem?_push, if_neg (Nat.ne_of_lt hq)]
  have hk : ∀ (k : Nat) (x : Nat × va_E), (k_ws E h)[k]? = some x → H1[x.1]? = H[x.1]? := fun k x hx => o1 x.1 ((hR.2 k x hx).lt)
  have hP1 : va_P (kD E) vwCl (k_ws E (k_new h (102, n.toNat))) H1 := by
    rw [k_ws_push (x := (102, n.toNat)) rfl (fun b hb => k_new_cell hb)]
    refine (hR.2.kept hk).app (fun k x hx => ?_)
    have hz : k < 1 := (List.getElem?_eq_some_iff.mp hx).1
    rw [show k = 0 by omega] at hx
    cases hx
    rw [k_cell_q k_new_at, ← hR.1]
    show H1[H.size]? = some (vp_cell _ _)
    rw [e1, vp_cell_q]
    congr 2
    funext j
    have r2 : (k_new h (102, n.toNat)).2.2 h.1.length j = none := if_pos rfl
    rw [r2]; rfl
  have k2 := k p e R s mm args below meth c H1 ls locs (cells + 1) (slots + n.toNat) QQ cx (by omega) (by omega) hlr (k_cons (v := kA h.1.length) trivial (k_tl hS).2) (k_new_ok hH hl (by show n.toNat < _; omega)) ⟨by rw [z1, hR.1]; show _ = _ + (h.1 ++ [(102, n.toNat)]).length; rw [List.length_append, List.length_singleton]; omega, hP1⟩ ⟨Nat.le_trans hV.1 (by omega), fun x h1 h2 => (o1 x (Nat.lt_of_lt_of_le h1 hV.1)).trans (hV.2.1 x h1 h2), hV.2.2⟩
    (fun ls2 S2 pc2 h2 H2 locs2 cells2 slots2 r a1 a2 a3 a4 a5 a6 a7 a8 => kk ls2 S2 pc2 h2 H2 locs2 cells2 slots2 r a1 a2 a3 a4 a5 a6 (by omega) (by omega))
  rw [List.map_cons, z] at k2
  exact k2
theorem k_sum (E : kEnv) {s : State} (hs : k_stat E s) (S : List kV) : ((S.map (k_rv E)).map fun v => v.category).sum = (S.map k_wd).sum := by
  induction S with
  | nil => rfl
  | cons v S ih =>
    simp only [List.map_cons, List.sum_cons, ih]
    congr 1
    rcases v with z | z | r
    · rfl
    · rfl
    · exact k_cat hs (v := kR r) trivial
theorem kw_objInit {idx a : Nat} (hd : decode M.2.1 pc = .ok (.invokespecial idx, 3)) (hw : Cond.methodLink M.1.cls idx objectInit ∈ k_KT) (ha : a < 1000000) (hwd : (S.map k_wd).sum ≤ 8) (hd1 : 1 ≤ d) (k : kW E d mc ms M (pc + 3) L S h Q) : kW E d mc ms M pc L (kA a :: S) h Q := by
  intro p e R s mm args below meth c H ls locs cells slots QQ cx g1 g2 hl hS hH hR hV kk
  have z : k_rv E (kA a) = .ref (kb E + a) := if_pos ha
  have hts := cx.2.2.2.2.1
  have k2 := k p e R s mm args below meth c H ls locs cells slots QQ cx g1 g2 hl (k_tl hS).2 hH hR hV kk
  rw [List.map_cons, z]
  refine W.objInit cx.1 cx.2.1 cx.2.2.2.1 (hts _ hw) (hts _ im_obj) (hts _ co_obj) rfl (by rw [cx.2.2.1]; exact hl.1) rfl hd (by have := cx.2.2.2.2.2.2.2.1; omega) ?_ ?_
  · rw [k_sum E cx.2.2.2.2.2.2.1]
    have := cx.2.2.2.2.2.2.2.2.1
    show 2 * 0 + _ + 12 ≤ _
    omega
  · exact W.eq (g2 := F0 mm (pc + 3) ls (S.map (k_rv E))) rfl k2
theorem kw_max {idx : Nat} {x y : Int} (hd : decode M.2.1 pc = .ok (.invokestatic idx, 3)) (hw : Cond.methodLink M.1.cls idx Lib.Math.max.name ∈ k_KT) (hwd : (S.map k_wd).sum ≤ 8) (hd1 : 1 ≤ d) (k : kW E d mc ms M (pc + 3) L (kI (if x < y then y else x) :: S) h Q) : kW E d mc ms M pc L (kI y :: kI x :: S) h Q := by
  intro p e R s mm args below meth c H ls locs cells slots QQ cx g1 g2 hl hS hH hR hV kk
  have hts := cx.2.2.2.2.1
  have hy : k_in y := (k_tl hS).1
  have hx : k_in x := (k_tl (k_tl hS).2).1
  have k2 := k p e R s mm args below meth c H ls locs cells slots QQ cx g1 g2 hl (k_consI (by split <;> assumption) (k_tl (k_tl hS).2).2) hH hR hV kk
  refine va_mmax cx.1 cx.2.1 (by rw [cx.2.2.1]; exact hl.1.symm) cx.2.2.2.1 (hts _ hw) (hts _ st_mmax) (hts _ in_J9) (hts _ co_mmax) (by have := cx.2.2.2.2.2.2.2.1; omega) ?_ (by omega) (by omega) hd ?_
  · rw [k_sum E cx.2.2.2.2.2.2.1]
    have := cx.2.2.2.2.2.2.2.2.1
    omega
  · have e1 : (if Int32.ofInt x < Int32.ofInt y then Int32.ofInt y else Int32.ofInt x) = Int32.ofInt (if x < y then y else x) := by
      by_cases hh : x < y
      · rw [if_pos hh, if_pos ((k_lti hx hy).mpr hh)]
      · rw [if_neg hh, if_neg (fun q => hh ((k_lti hx hy).mp q))]
    rw [e1]
    exact k2
theorem kw_min {idx : Nat} {x y : Int} (hd : decode M.2.1 pc = .ok (.invokestatic idx, 3)) (hw : Cond.methodLink M.1.cls idx Lib.Math.min.name ∈ k_KT) (hwd : (S.map k_wd).sum ≤ 8) (hd1 : 1 ≤ d) (k : kW E d mc ms M (pc + 3) L (kI (if y < x then y else x) :: S) h Q) : kW E d mc ms M pc L (kI y :: kI x :: S) h Q := by
  intro p e R s mm args below meth c H ls locs cells slots QQ cx g1 g2 hl hS hH hR hV kk
  have hts := cx.2.2.2.2.1
  have hy : k_in y := (k_tl hS).1
  have hx : k_in x := (k_tl (k_tl hS).2).1
  have k2 := k p e R s mm args below meth c H ls locs cells slots QQ cx g1 g2 hl (k_consI (by split <;> assumption) (k_tl (k_tl hS).2).2) hH hR hV kk
  refine va_mmin cx.1 cx.2.1 (by rw [cx.2.2.1]; exact hl.1.symm) cx.2.2.2.1 (hts _ hw) (hts _ st_mmin) (hts _ in_J9) (hts _ co_mmin) (by have := cx.2.2.2.2.2.2.2.1; omega) ?_ (by omega) (by omega) hd ?_
  · rw [k_sum E cx.2.2.2.2.2.2.1]
    have := cx.2.2.2.2.2.2.2.2.1
    omega
  · have e1 : (if Int32.ofInt y < Int32.ofInt x then Int32.ofInt y else Int32.ofInt x) = Int32.ofInt (if y < x then y else x) := by
      by_cases hh : y < x
      · rw [if_pos hh, if_pos ((k_lti hy hx).mpr hh)]
      · rw [if_neg hh, if_neg (fun q => hh ((k_lti hy hx).mp q))]
    rw [e1]
    exact k2
end KW5
