/-! a method's contract over the inner machine, and calls -/
def k_wds (M : kMd) : List Cond := Cond.code M.1 M.2.1 M.2.2.1 M.2.2.2 :: k_KT
def k_rm (d mc ms : Nat) : Room := { frames := d, cells := mc, slots := ms, locals := 45 * d }
def k_Pc (E : kEnv) (As : List kV) (h : kH) : Array Value → State → Prop := fun v U => v = (As.map (k_rv E)).toArray ∧ k_stat E U ∧ k_rel E h U.heap
def k_Qc (E : kEnv) (Q : Option kV → kH → Prop) : Array Value → State → Outcome → State → Prop := fun _ st o t => (∃ (r : Option kV) (h2 : kH), o = .returned (r.map (k_rv E)) ∧ Q r h2 ∧ (∀ v, r = some v → k_ok v) ∧ k_okH (kX E) h2 ∧ k_rel E h2 t.heap) ∧ va_F (k_A E) st t
/-- the contract: called with As over the cells h, it returns r with the cells h2, for which Q holds; d frames deep, at most mc cells of ms slots made -/
def kC (E : kEnv) (d mc ms : Nat) (M : kMd) (As : List kV) (h : kH) (Q : Option kV → kH → Prop) : Prop := k_okH (kX E) h → (∀ v ∈ As, k_ok v) → Met (kl E) M.1 (k_wds M) (k_rm d mc ms) (k_Pc E As h) (k_Qc E Q) mc ms (k_A E)
theorem k_blind (E : kEnv) (As : List kV) (h : kH) : FrameBlind (k_Pc E As h) := fun _ U g mk q => ⟨q.1, k_stat_same (s := U) q.2.1 rfl rfl, q.2.2⟩
theorem k_lg {vs : List Value} (h : ∀ v ∈ vs, v.category = 1) : lg_sl vs = vs.map Slot.val := by
  induction vs with
  | nil => rfl
  | cons v t ih =>
    have h1 := h v List.mem_cons_self
    have h2 := ih (fun w hw => h w (List.mem_cons_of_mem _ hw))
    unfold lg_sl at h2 ⊢
    rw [List.flatMap_cons, h2, if_neg (by omega)]
    rfl
theorem k_lr0 {E : kEnv} {s : State} (hs : k_stat E s) {As : List kV} {nL : Nat} (hone : ∀ v ∈ As, k_one v) (hok : ∀ v ∈ As, k_ok v) (hlen : As.length ≤ nL) :
    k_lr E nL (As.map some ++ List.replicate (nL - As.length) none) ((lg_sl (As.map (k_rv E)) ++ List.replicate (nL - (lg_sl (As.map (k_rv E))).length) Slot.unset).toArray) := by
  have hc : ∀ v ∈ As.map (k_rv E), v.category = 1 := by
    intro v hv
    obtain ⟨w, hw, rfl⟩ := List.mem_map.mp hv
    exact k_cat hs (hone w hw)
  have e1 := k_lg hc
  have hL := lv_entry (As.map (k_rv E)) (n := nL) (by rw [e1]; simpa using hlen)
  refine ⟨hL.1, by simp; omega, hL.2.1, fun i v hi => ?_⟩
  by_cases hlt : i < As.length
  · rw [List.getElem?_append_left (by simpa using hlt), List.getElem?_map] at hi
    cases hA : As[i]? with
    | none => rw [hA] at hi; cases hi
    | some w =>
      rw [hA] at hi
      cases hi
      refine ⟨?_, hok v (List.mem_of_getElem? hA)⟩
      rw [List.getElem?_toArray, e1, List.getElem?_append_left (by simpa using hlt), List.getElem?_map, List.getElem?_map, hA]
      rfl
  · rw [List.getElem?_append_right (by simpa using hlt)] at hi
    have := List.mem_of_getElem? hi
    have := List.eq_of_mem_replicate this
    cases this
theorem kC_of {E : kEnv} {d mc ms : Nat} {M : kMd} {As : List kV} {h : kH} {Q : Option kV → kH → Prop} (hy : plainName M.1.cls = true) (hone : ∀ v ∈ As, k_one v) (hlen : As.length ≤ M.2.2.1)
    (k : kW E d mc ms M 0 (As.map some ++ List.replicate (M.2.2.1 - As.length) none) [] h Q) : kC E d mc ms M As h Q := by
  intro hH hAs
  refine Met.ofW (cc := M.2.1) (maxL := M.2.2.1) (ret := M.2.2.2) hy rfl ?_
  intro p e s m args below meth c s₁ B hml hv
  obtain ⟨rfl, hst, hrel⟩ := hv
  have hts := atoms_spec (ws := k_wds M) B.pre
  have hown : s.vm.findClass M.1.cls = some m.cls := findClass_of_methodNamed B.named
  have hnm := (name_of_methodNamed B.named B.method).1
  rw [lg_entry_eq]
  have hl := k_lr0 hst hone hAs hlen
  refine k p e _ s m _ below meth c s.heap _ [] 0 0 _ ⟨B.exec, B.bytes, hml, hown, fun w hw => hts w (List.mem_cons_of_mem _ hw), fun q => by rw [hnm]; exact q, hst, Nat.le_refl _, Nat.le_refl _, by rw [hrel.1]; omega⟩ (by show 0 + mc ≤ mc; omega) (by show 0 + ms ≤ ms; omega) hl (fun v hv => by cases hv) hH hrel va_S.rf ?_
  intro ls2 S2 pc2 h2 H2 locs2 cells2 slots2 r hrt hQ hS2 hH2 hR2 hV2 hc9 hs9
  refine W.widen (k := mc) (n := ms) (by omega) (by omega) ?_
  rcases hrt with ⟨z, ty, rfl, rfl, hd, hr, hn⟩ | ⟨rfl, rfl, hd, hr⟩
  · exact W.zret B.exec B.bytes (B.returns.trans hr) hn (fun t ht hW => ⟨⟨some (kI z), h2, rfl, hQ, (fun v hv => by cases hv; exact (k_tl hS2).1), hH2, by rw [ht]; exact hR2⟩, hV2.F ht⟩) hV2.2.2 hd B.notSynchronized
  · exact W.vret B.exec B.bytes (B.returns.trans hr) (fun t ht hW => ⟨⟨none, h2, rfl, hQ, (fun v hv => by cases hv), hH2, by rw [ht]; exact hR2⟩, hV2.F ht⟩) hV2.2.2 hd B.notSynchronized
/-- what a callee must be -/
def k_qn (M2 : kMd) (n : Nat) : Prop := Cond.code M2.1 M2.2.1 M2.2.2.1 M2.2.2.2 ∈ k_KT ∧ Cond.initialized M2.1.cls ∈ k_KT ∧ (M2.1.cls ≠ "java/lang/invoke/MethodHandle" ∧ M2.1.cls ≠ "java/lang/invoke/VarHandle") ∧ (parseMethodDescriptor M2.1.desc).map (fun d => d.parameters.length) = some n ∧ M2.2.2.1 ≤ 26
def k_qV (M2 : kMd) (n : Nat) : Prop := k_qn M2 n ∧ Cond.instanceMethod M2.1 ∈ k_KT ∧ Cond.selects M2.1.cls M2.1 M2.1 ∈ k_KT
def k_qS (M2 : kMd) (n : Nat) : Prop := k_qn M2 n ∧ Cond.static M2.1 ∈ k_KT
def k_qI (M2 : kMd) (n : Nat) : Prop := k_qn M2 n ∧ Cond.instanceMethod M2.1 ∈ k_KT ∧ M2.1.name = "<init>" ∧ M2.2.2.2 = none
theorem k_wdok {s : State} {args : Array Value} {M2 : kMd} (hts : ∀ w ∈ k_KT, w.before args s = true) (hc : Cond.code M2.1 M2.2.1 M2.2.2.1 M2.2.2.2 ∈ k_KT) : ∀ w ∈ k_wds M2, ∀ (a' : Array Value) (U : State), s.WarmedH U.vm → w.before a' U = true := by
  intro w hw a' U hW
  have hm : w ∈ k_KT := by
    rcases List.mem_cons.mp hw with rfl | h
    · exact hc
    · exact h
  exact word_at hW (good_of_word (k_good w hm)) (hts w hm)
theorem k_toL (E : kEnv) (r : Option kV) (S : List kV) : (r.map (k_rv E)).toList ++ S.map (k_rv E) = (r.toList ++ S).map (k_rv E) := by
  cases r <;> rfl
theorem k_rvS (E : kEnv) (j : Nat) : k_rv E (kA (1000000 + j)) = ksv E j := by
  simp only [k_rv]
  rw [if_neg (by omega), Nat.add_sub_cancel_left]
section KAft
variable {E : kEnv} {p : Program} {e : Env} {R : Room} {s : State} {m : MethodId} {args : Array Value} {below : List Frame} {meth : Method} {c : Code} {H : Heap} {locs : List Loc} {cells slots mc2 ms2 : Nat} {QQ : State → Prop} {pc : Nat} {ls : Array Slot} {S : List kV} {st0 : List Value} {a : Array Value} {Q2 : Option kV → kH → Prop}
theorem k_after (hr : va_Run p (kl E) e R s m args below meth c H locs cells slots mc2 ms2 (F0 m pc ls st0) (S.map (k_rv E)) (k_Qc E Q2 a) (k_A E)) (hV : va_S (k_A E) s.heap H locs)
    (kk : ∀ (r : Option kV) (h2 : kH) (H1 : Heap) (locs1 : List Loc), Q2 r h2 → (∀ v, r = some v → k_ok v) → k_okH (kX E) h2 → k_rel E h2 H1 → va_S (k_A E) s.heap H1 locs1 → W p (kl E) e R s m args below meth c H1 locs1 (cells + mc2) (slots + ms2) QQ (F0 m (pc + 3) ls ((r.toList ++ S).map (k_rv E)))) : W p (kl E) e R s m args below meth c H locs cells slots QQ (F0 m pc ls st0) := by
  intro T hT X
  obtain ⟨v, st₀, t, T', L, h0, X', hL, e1, e2, ⟨⟨r, h2, hv, hq, hok, hH2, hR2⟩, hF⟩, st⟩ := hr T hT X
  cases hv
  obtain ⟨hz, hk⟩ := hF
  rw [h0] at hz hk
  obtain ⟨t2, a1, b1⟩ := kk r h2 T'.heap (locs ++ L) hq hok hH2 (by rw [e1]; exact hR2)
    ⟨Nat.le_trans hV.1 (by rw [e1]; exact hz), fun q h1 h2 => by rw [e1, hk q (Nat.lt_of_lt_of_le h1 hV.1) h2]; exact hV.2.1 q h1 h2, fun q hq => by
      rcases List.mem_append.mp hq with h | h
      · exact hV.2.2 q h
      · exact hL q h⟩ T' rfl X'
  rw [← k_toL] at a1
  exact ⟨t2, st t2 a1, b1⟩
end KAft
section KW6
variable {E : kEnv} {d mc ms d2 mc2 ms2 mc3 ms3 : Nat} {M M2 : kMd} {pc idx : Nat} {L : kLs} {S S0 As : List kV} {h : kH} {Q Q2 : Option kV → kH → Prop}
theorem k_oks {S0 As S : List kV} {b : kV} (h : ∀ v ∈ S0, k_ok v) (hs : S0 = As.reverse ++ b :: S) : (∀ v ∈ b :: As, k_ok v) ∧ ∀ v ∈ S, k_ok v := by
  subst hs
  refine ⟨fun v hv => h v ?_, fun v hv => h v (List.mem_append_right _ (List.mem_cons_of_mem _ hv))⟩
  rcases List.mem_cons.mp hv with rfl | q
  · exact List.mem_append_right _ List.mem_cons_self
  · exact List.mem_append_left _ (List.mem_reverse.mpr q)
theorem k_oks0 {S0 As S : List kV} (h : ∀ v ∈ S0, k_ok v) (hs : S0 = As.reverse ++ S) : (∀ v ∈ As, k_ok v) ∧ ∀ v ∈ S, k_ok v := by
  subst hs
  exact ⟨fun v hv => h v (List.mem_append_left _ (List.mem_reverse.mpr hv)), fun v hv => h v (List.mem_append_right _ hv)⟩
theorem k_okr {r : Option kV} (h1 : ∀ v, r = some v → k_ok v) (h2 : ∀ v ∈ S, k_ok v) : ∀ v ∈ r.toList ++ S, k_ok v := by
  cases r with
  | none => exact h2
  | some v => exact List.forall_mem_cons.mpr ⟨h1 v rfl, h2⟩
/-- invokevirtual of one of the class's own methods -/
theorem kw_callV {b ci N : Nat} {T : u_T} (hd : decode M.2.1 pc = .ok (.invokevirtual idx, 3)) (hlk : Cond.methodLink M.1.cls idx M2.1 ∈ k_KT) (q : k_qV M2 As.length) (hcl : vwCl[ci]? = some (M2.1.cls, T, N)) (hb : h.1[b]? = some (ci, N)) (hs0 : S0 = As.reverse ++ kA b :: S) (hwd : (S.map k_wd).sum ≤ 8) (hc : kC E d2 mc2 ms2 M2 (kA b :: As) h Q2) (hd2 : d2 + 1 ≤ d) (hmc : mc3 + mc2 ≤ mc) (hms : ms3 + ms2 ≤ ms)
    (k : ∀ (r : Option kV) (h2 : kH), Q2 r h2 → kW E d mc3 ms3 M (pc + 3) L (r.toList ++ S) h2 Q) : kW E d mc ms M pc L S0 h Q := by
  intro p e R s mm args below meth c H ls locs cells slots QQ cx g1 g2 hl hS hH hR hV kk
  obtain ⟨⟨q1, q2, q3, q4, q5⟩, q6, q7⟩ := q
  have hts := cx.2.2.2.2.1
  have hst := cx.2.2.2.2.2.2.1
  have hfr := cx.2.2.2.2.2.2.2.1
  have hlo := cx.2.2.2.2.2.2.2.2.1
  obtain ⟨ok1, ok2⟩ := k_oks hS hs0
  have hM := hc hH ok1
  have hrv := k_rvA (E := E) hH hb
  refine k_after (S := S) (a := (Value.ref (kb E + b) :: As.map (k_rv E)).toArray) (va_runV (C := M2.1.cls) (b := kb E + b) (n := As.length) (cc := M.2.1) (nL := M.2.2.1) (Ts := k_KT) (As := As.map (k_rv E)) ⟨cx.1, cx.2.1, cx.2.2.1, cx.2.2.2.1, hts⟩ hM
    ⟨⟨rfl, rfl, by show d2 + 1 ≤ _; omega, by show _ + 45 * d2 ≤ _; omega, k_wdok hts q1, List.mem_cons_self, hts _ q1, hts _ q2, q3, fun sig hs => ?_, hts _ hlk⟩, hts _ q6, hts _ q7⟩
    ⟨k_blind E _ h, ?_, fun U hU hW => ⟨?_, k_stat_move hst hW (fun a _ hA => by rw [hU]; exact hV.2.1 a ‹_› hA), by rw [hU]; exact hR⟩⟩ rfl (by simp) (by exact hl.1) ?_ ?_ hd ⟨by omega, by omega⟩) hV ?_
  · rw [hs] at q4
    exact (Option.some.inj q4).symm
  · obtain ⟨r', hr', cellV, u1, u2, u3, -⟩ := hR.2 b _ (by rw [k_ws_at (k_lt hb), k_cell_o hb hcl])
    have hr : r' = (M2.1.cls, T, N) := Option.some.inj (hr'.symm.trans hcl)
    subst hr
    exact ⟨cellV, u1, by rw [u3]; rfl, by rw [u2]; exact (hst.1.1 ci _ hcl).2.1⟩
  · rw [List.map_cons, hrv]
  · rw [hs0, List.map_append, List.map_reverse, List.map_cons, hrv]
  · have := k_sum E hst S
    exact lv_room (by rw [this]; exact hwd)
  · intro r h2 H1 locs1 a1 a2 a3 a4 a5
    exact k r h2 a1 p e R s mm args below meth c H1 ls locs1 (cells + mc2) (slots + ms2) QQ cx (by omega) (by omega) hl (k_okr a2 ok2) a3 a4 a5
      (fun ls2 S2 pc2 h2 H2 locs2 cells2 slots2 r b1 b2 b3 b4 b5 b6 b7 b8 => kk ls2 S2 pc2 h2 H2 locs2 cells2 slots2 r b1 b2 b3 b4 b5 b6 (by omega) (by omega))
theorem kw_callS (hd : decode M.2.1 pc = .ok (.invokestatic idx, 3)) (hlk : Cond.methodLink M.1.cls idx M2.1 ∈ k_KT) (q : k_qS M2 As.length) (hs0 : S0 = As.reverse ++ S) (hwd : (S.map k_wd).sum ≤ 8) (hc : kC E d2 mc2 ms2 M2 As h Q2) (hd2 : d2 + 1 ≤ d) (hmc : mc3 + mc2 ≤ mc) (hms : ms3 + ms2 ≤ ms)
    (k : ∀ (r : Option kV) (h2 : kH), Q2 r h2 → kW E d mc3 ms3 M (pc + 3) L (r.toList ++ S) h2 Q) : kW E d mc ms M pc L S0 h Q := by
  intro p e R s mm args below meth c H ls locs cells slots QQ cx g1 g2 hl hS hH hR hV kk
  obtain ⟨⟨q1, q2, q3, q4, q5⟩, q6⟩ := q
  have hts := cx.2.2.2.2.1
  have hst := cx.2.2.2.2.2.2.1
  have hfr := cx.2.2.2.2.2.2.2.1
  have hlo := cx.2.2.2.2.2.2.2.2.1
  obtain ⟨ok1, ok2⟩ := k_oks0 hS hs0
  have hM := hc hH ok1
  refine k_after (S := S) (a := (As.map (k_rv E)).toArray) (va_runS (n := As.length) (cc := M.2.1) (nL := M.2.2.1) (Ts := k_KT) (As := As.map (k_rv E)) ⟨cx.1, cx.2.1, cx.2.2.1, cx.2.2.2.1, hts⟩ hM
    ⟨⟨rfl, rfl, by show d2 + 1 ≤ _; omega, by show _ + 45 * d2 ≤ _; omega, k_wdok hts q1, List.mem_cons_self, hts _ q1, hts _ q2, q3, fun sig hs => ?_, hts _ hlk⟩, hts _ q6⟩
    ⟨k_blind E _ h, fun U hU hW => ⟨rfl, k_stat_move hst hW (fun a _ hA => by rw [hU]; exact hV.2.1 a ‹_› hA), by rw [hU]; exact hR⟩⟩ rfl (by simp) (by exact hl.1) ?_ ?_ hd ⟨by omega, by omega⟩) hV ?_
  · rw [hs] at q4
    exact (Option.some.inj q4).symm
  · rw [hs0, List.map_append, List.map_reverse]
  · have := k_sum E hst S
    exact lv_room (by rw [this]; exact hwd)
  · intro r h2 H1 locs1 a1 a2 a3 a4 a5
    exact k r h2 a1 p e R s mm args below meth c H1 ls locs1 (cells + mc2) (slots + ms2) QQ cx (by omega) (by omega) hl (k_okr a2 ok2) a3 a4 a5
      (fun ls2 S2 pc2 h2 H2 locs2 cells2 slots2 r b1 b2 b3 b4 b5 b6 b7 b8 => kk ls2 S2 pc2 h2 H2 locs2 cells2 slots2 r b1 b2 b3 b4 b5 b6 (by omega) (by omega))
theorem kw_callI {b : Nat} (hd : decode M.2.1 pc = .ok (.invokespecial idx, 3)) (hlk : Cond.methodLink M.1.cls idx M2.1 ∈ k_KT) (q : k_qI M2 As.length) (hb : b < 1000000) (hs0 : S0 = As.reverse ++ kA b :: S) (hwd : (S.map k_wd).sum ≤ 8) (hc : kC E d2 mc2 ms2 M2 (kA b :: As) h Q2) (hd2 : d2 + 1 ≤ d) (hmc : mc3 + mc2 ≤ mc) (hms : ms3 + ms2 ≤ ms)
    (k : ∀ (r : Option kV) (h2 : kH), Q2 r h2 → kW E d mc3 ms3 M (pc + 3) L (r.toList ++ S) h2 Q) : kW E d mc ms M pc L S0 h Q := by
  intro p e R s mm args below meth c H ls locs cells slots QQ cx g1 g2 hl hS hH hR hV kk
  obtain ⟨⟨q1, q2, q3, q4, q5⟩, q6, q7, q8⟩ := q
  have hts := cx.2.2.2.2.1
  have hst := cx.2.2.2.2.2.2.1
  have hfr := cx.2.2.2.2.2.2.2.1
  have hlo := cx.2.2.2.2.2.2.2.2.1
  obtain ⟨ok1, ok2⟩ := k_oks hS hs0
  have hM := hc hH ok1
  have hrv : k_rv E (kA b) = .ref (kb E + b) := if_pos hb
  rw [q8] at q1
  have q1' := q1
  rw [← q8] at q1'
  refine k_after (S := S) (a := (Value.ref (kb E + b) :: As.map (k_rv E)).toArray) (va_runI (b := kb E + b) (n := As.length) (cc := M.2.1) (nL := M.2.2.1) (Ts := k_KT) (As := As.map (k_rv E)) ⟨cx.1, cx.2.1, cx.2.2.1, cx.2.2.2.1, hts⟩ hM
    ⟨⟨rfl, rfl, by show d2 + 1 ≤ _; omega, by show _ + 45 * d2 ≤ _; omega, k_wdok hts q1', by rw [← q8]; exact List.mem_cons_self, hts _ q1, hts _ q2, q3, fun sig hs => ?_, hts _ hlk⟩, q7, hts _ q6⟩
    ⟨k_blind E _ h, fun U hU hW => ⟨?_, k_stat_move hst hW (fun a _ hA => by rw [hU]; exact hV.2.1 a ‹_› hA), by rw [hU]; exact hR⟩⟩ rfl (by simp) (by exact hl.1) ?_ ?_ hd ⟨by omega, by omega⟩) hV ?_
  · rw [hs] at q4
    exact (Option.some.inj q4).symm
  · rw [List.map_cons, hrv]
  · rw [hs0, List.map_append, List.map_reverse, List.map_cons, hrv]
  · have := k_sum E hst S
    exact lv_room (by rw [this]; exact hwd)
  · intro r h2 H1 locs1 a1 a2 a3 a4 a5
    exact k r h2 a1 p e R s mm args below meth c H1 ls locs1 (cells + mc2) (slots + ms2) QQ cx (by omega) (by omega) hl (k_okr a2 ok2) a3 a4 a5
      (fun ls2 S2 pc2 h2 H2 locs2 cells2 slots2 r b1 b2 b3 b4 b5 b6 b7 b8 => kk ls2 S2 pc2 h2 H2 locs2 cells2 slots2 r b1 b2 b3 b4 b5 b6 (by omega) (by omega))
theorem kw_callIN {b : Nat} (hd : decode M.2.1 pc = .ok (.invokespecial idx, 3)) (hlk : (idx, M.1.cls, M2.1) ∈ k_nest) (q : k_qI M2 As.length) (hb : b < 1000000) (hs0 : S0 = As.reverse ++ kA b :: S) (hwd : (S.map k_wd).sum ≤ 8) (hc : kC E d2 mc2 ms2 M2 (kA b :: As) h Q2) (hd2 : d2 + 1 ≤ d) (hmc : mc3 + mc2 ≤ mc) (hms : ms3 + ms2 ≤ ms)
    (k : ∀ (r : Option kV) (h2 : kH), Q2 r h2 → kW E d mc3 ms3 M (pc + 3) L (r.toList ++ S) h2 Q) : kW E d mc ms M pc L S0 h Q := by
  intro p e R s mm args below meth c H ls locs cells slots QQ cx g1 g2 hl hS hH hR hV kk
  obtain ⟨⟨q1, q2, q3, q4, q5⟩, q6, q7, q8⟩ := q
  have hts := cx.2.2.2.2.1
  have hst := cx.2.2.2.2.2.2.1
  have hfr := cx.2.2.2.2.2.2.2.1
  have hlo := cx.2.2.2.2.2.2.2.2.1
  obtain ⟨ok1, ok2⟩ := k_oks hS hs0
  have hM := hc hH ok1
  have hrv : k_rv E (kA b) = .ref (kb E + b) := if_pos hb
  rw [q8] at q1
  have q1' := q1
  rw [← q8] at q1'
  have hne := hst.2.2.2.2.2.2.2.2.1 _ hlk
  refine k_after (S := S) (a := (Value.ref (kb E + b) :: As.map (k_rv E)).toArray) (va_runIN (b := kb E + b) (host := RX6) (n := As.length) (cc := M.2.1) (nL := M.2.2.1) (Ts := k_KT) (As := As.map (k_rv E)) ⟨cx.1, cx.2.1, cx.2.2.1, cx.2.2.2.1, hts⟩ hM
    ⟨⟨⟨rfl, rfl, by show d2 + 1 ≤ _; omega, by show _ + 45 * d2 ≤ _; omega, k_wdok hts q1', by rw [← q8]; exact List.mem_cons_self⟩, hts _ q1, hts _ q2, q3, fun sig hs => ?_, va_Nw.use rfl hne⟩, q7, hts _ q6⟩
    ⟨k_blind E _ h, fun U hU hW => ⟨?_, k_stat_move hst hW (fun a _ hA => by rw [hU]; exact hV.2.1 a ‹_› hA), by rw [hU]; exact hR⟩⟩ rfl (by simp) (by exact hl.1) ?_ ?_ hd ⟨by omega, by omega⟩) hV ?_
  · rw [hs] at q4
    exact (Option.some.inj q4).symm
  · rw [List.map_cons, hrv]
  · rw [hs0, List.map_append, List.map_reverse, List.map_cons, hrv]
  · have := k_sum E hst S
    exact lv_room (by rw [this]; exact hwd)
  · intro r h2 H1 locs1 a1 a2 a3 a4 a5
    exact k r h2 a1 p e R s mm args below meth c H1 ls locs1 (cells + mc2) (slots + ms2) QQ cx (by omega) (by omega) hl (k_okr a2 ok2) a3 a4 a5
      (fun ls2 S2 pc2 h2 H2 locs2 cells2 slots2 r b1 b2 b3 b4 b5 b6 b7 b8 => kk ls2 S2 pc2 h2 H2 locs2 cells2 slots2 r b1 b2 b3 b4 b5 b6 (by omega) (by omega))
theorem kw_callSN (hd : decode M.2.1 pc = .ok (.invokestatic idx, 3)) (hlk : (idx, M.1.cls, M2.1) ∈ k_nest) (q : k_qS M2 As.length) (hs0 : S0 = As.reverse ++ S) (hwd : (S.map k_wd).sum ≤ 8) (hc : kC E d2 mc2 ms2 M2 As h Q2) (hd2 : d2 + 1 ≤ d) (hmc : mc3 + mc2 ≤ mc) (hms : ms3 + ms2 ≤ ms)
    (k : ∀ (r : Option kV) (h2 : kH), Q2 r h2 → kW E d mc3 ms3 M (pc + 3) L (r.toList ++ S) h2 Q) : kW E d mc ms M pc L S0 h Q := by
  intro p e R s mm args below meth c H ls locs cells slots QQ cx g1 g2 hl hS hH hR hV kk
  obtain ⟨⟨q1, q2, q3, q4, q5⟩, q6⟩ := q
  have hts := cx.2.2.2.2.1
  have hst := cx.2.2.2.2.2.2.1
  have hfr := cx.2.2.2.2.2.2.2.1
  have hlo := cx.2.2.2.2.2.2.2.2.1
  obtain ⟨ok1, ok2⟩ := k_oks0 hS hs0
  have hM := hc hH ok1
  have hne := hst.2.2.2.2.2.2.2.2.1 _ hlk
  refine k_after (S := S) (a := (As.map (k_rv E)).toArray) (va_runSN (host := RX6) (n := As.length) (cc := M.2.1) (nL := M.2.2.1) (Ts := k_KT) (As := As.map (k_rv E)) ⟨cx.1, cx.2.1, cx.2.2.1, cx.2.2.2.1, hts⟩ hM
    ⟨⟨⟨rfl, rfl, by show d2 + 1 ≤ _; omega, by show _ + 45 * d2 ≤ _; omega, k_wdok hts q1, List.mem_cons_self⟩, hts _ q1, hts _ q2, q3, fun sig hs => ?_, va_Nw.use rfl hne⟩, hts _ q6, trivial⟩
    ⟨k_blind E _ h, fun U hU hW => ⟨rfl, k_stat_move hst hW (fun a _ hA => by rw [hU]; exact hV.2.1 a ‹_› hA), by rw [hU]; exact hR⟩⟩ rfl (by simp) (by exact hl.1) ?_ ?_ hd ⟨by omega, by omega⟩) hV ?_
  · rw [hs] at q4
    exact (Option.some.inj q4).symm
  · rw [hs0, List.map_append, List.map_reverse]
  · have := k_sum E hst S
    exact lv_room (by rw [this]; exact hwd)
  · intro r h2 H1 locs1 a1 a2 a3 a4 a5
    exact k r h2 a1 p e R s mm args below meth c H1 ls locs1 (cells + mc2) (slots + ms2) QQ cx (by omega) (by omega) hl (k_okr a2 ok2) a3 a4 a5
      (fun ls2 S2 pc2 h2 H2 locs2 cells2 slots2 r b1 b2 b3 b4 b5 b6 b7 b8 => kk ls2 S2 pc2 h2 H2 locs2 cells2 slots2 r b1 b2 b3 b4 b5 b6 (by omega) (by omega))
/-- a method of String, on the class's own text -/
theorem kw_callVS (hd : decode M.2.1 pc = .ok (.invokevirtual idx, 3)) (hlk : Cond.methodLink M.1.cls idx M2.1 ∈ k_KT) (q : k_qV M2 As.length) (hcl : M2.1.cls = RJ0) (hs0 : S0 = As.reverse ++ kA 1000003 :: S) (hwd : (S.map k_wd).sum ≤ 8) (hc : kC E d2 mc2 ms2 M2 (kA 1000003 :: As) h Q2) (hd2 : d2 + 1 ≤ d) (hmc : mc3 + mc2 ≤ mc) (hms : ms3 + ms2 ≤ ms)
    (k : ∀ (r : Option kV) (h2 : kH), Q2 r h2 → kW E d mc3 ms3 M (pc + 3) L (r.toList ++ S) h2 Q) : kW E d mc ms M pc L S0 h Q := by
  intro p e R s mm args below meth c H ls locs cells slots QQ cx g1 g2 hl hS hH hR hV kk
  obtain ⟨⟨q1, q2, q3, q4, q5⟩, q6, q7⟩ := q
  have hts := cx.2.2.2.2.1
  have hst := cx.2.2.2.2.2.2.1
  have hfr := cx.2.2.2.2.2.2.2.1
  have hlo := cx.2.2.2.2.2.2.2.2.1
  obtain ⟨ok1, ok2⟩ := k_oks hS hs0
  have hM := hc hH ok1
  obtain ⟨ts, tv, e1, e2, e3, e4, e5, e6, e7⟩ := hst.2.2.2.2.1
  have hrv : k_rv E (kA 1000003) = .ref ts := (k_rvS E 3).trans e1
  refine k_after (S := S) (a := (Value.ref ts :: As.map (k_rv E)).toArray) (va_runV (C := M2.1.cls) (b := ts) (n := As.length) (cc := M.2.1) (nL := M.2.2.1) (Ts := k_KT) (As := As.map (k_rv E)) ⟨cx.1, cx.2.1, cx.2.2.1, cx.2.2.2.1, hts⟩ hM
    ⟨⟨rfl, rfl, by show d2 + 1 ≤ _; omega, by show _ + 45 * d2 ≤ _; omega, k_wdok hts q1, List.mem_cons_self, hts _ q1, hts _ q2, q3, fun sig hs => ?_, hts _ hlk⟩, hts _ q6, hts _ q7⟩
    ⟨k_blind E _ h, ?_, fun U hU hW => ⟨?_, k_stat_move hst hW (fun a _ hA => by rw [hU]; exact hV.2.1 a ‹_› hA), by rw [hU]; exact hR⟩⟩ rfl (by simp) (by exact hl.1) ?_ ?_ hd ⟨by omega, by omega⟩) hV ?_
  · rw [hs] at q4
    exact (Option.some.inj q4).symm
  · obtain ⟨cell, u1, u2, u3, -⟩ := e4.kept hV.2.1
    exact ⟨cell, u1, u2, by rw [hcl]; exact u3⟩
  · rw [List.map_cons, hrv]
  · rw [hs0, List.map_append, List.map_reverse, List.map_cons, hrv]
  · have := k_sum E hst S
    exact lv_room (by rw [this]; exact hwd)
  · intro r h2 H1 locs1 a1 a2 a3 a4 a5
    exact k r h2 a1 p e R s mm args below meth c H1 ls locs1 (cells + mc2) (slots + ms2) QQ cx (by omega) (by omega) hl (k_okr a2 ok2) a3 a4 a5
      (fun ls2 S2 pc2 h2 H2 locs2 cells2 slots2 r b1 b2 b3 b4 b5 b6 b7 b8 => kk ls2 S2 pc2 h2 H2 locs2 cells2 slots2 r b1 b2 b3 b4 b5 b6 (by omega) (by omega))
end KW6
