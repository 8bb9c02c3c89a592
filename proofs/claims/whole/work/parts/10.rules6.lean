/-! rules of the inner machine: the text constant, fixed fields, copies -/
section KW7
variable {E : kEnv} {d mc ms : Nat} {M : kMd} {pc idx : Nat} {L : kLs} {S : List kV} {h : kH} {Q : Option kV → kH → Prop}
theorem kw_ldcS (hcl : M.1.cls = RX6) (hd : decode M.2.1 pc = .ok (.ldc 58, 2)) (k : kW E d mc ms M (pc + 2) L (kA 1000003 :: S) h Q) : kW E d mc ms M pc L S h Q := by
  intro p e R s mm args below meth c H ls locs cells slots QQ cx g1 g2 hl hS hH hR hV kk
  obtain ⟨ts, tv, e1, e2, e3, e4, e5, e6, e7⟩ := cx.2.2.2.2.2.2.1.2.2.2.2.1
  have hrv : k_rv E (kA 1000003) = .ref ts := (k_rvS E 3).trans e1
  have k2 := k p e R s mm args below meth c H ls locs cells slots QQ cx g1 g2 hl (k_cons (v := kA 1000003) trivial hS) hH hR hV kk
  rw [List.map_cons, hrv] at k2
  exact va_ldcS cx.1 cx.2.1 cx.2.2.2.1 (by rw [hcl]; exact e3) hd k2
theorem kw_gets0 (hd : decode M.2.1 pc = .ok (.getstatic idx, 3)) (hw : Cond.fieldLink M.1.cls idx RX5 "LEAST" "[I" ∈ k_KT) (k : kW E d mc ms M (pc + 3) L (kA 1000000 :: S) h Q) : kW E d mc ms M pc L S h Q := by
  intro p e R s mm args below meth c H ls locs cells slots QQ cx g1 g2 hl hS hH hR hV kk
  have hrv : k_rv E (kA 1000000) = ksv E 0 := k_rvS E 0
  have k2 := k p e R s mm args below meth c H ls locs cells slots QQ cx g1 g2 hl (k_cons (v := kA 1000000) trivial hS) hH hR hV kk
  rw [List.map_cons, hrv] at k2
  exact va_gets cx.1 cx.2.1 cx.2.2.2.2.2.2.1.2.2.1 hV cx.2.2.2.1 (cx.2.2.2.2.1 _ hw) (fun _ z => z) hd k2
theorem kw_gets1 (hd : decode M.2.1 pc = .ok (.getstatic idx, 3)) (hw : Cond.fieldLink M.1.cls idx RX5 "MOST" "[I" ∈ k_KT) (k : kW E d mc ms M (pc + 3) L (kA 1000001 :: S) h Q) : kW E d mc ms M pc L S h Q := by
  intro p e R s mm args below meth c H ls locs cells slots QQ cx g1 g2 hl hS hH hR hV kk
  have hrv : k_rv E (kA 1000001) = ksv E 1 := k_rvS E 1
  have k2 := k p e R s mm args below meth c H ls locs cells slots QQ cx g1 g2 hl (k_cons (v := kA 1000001) trivial hS) hH hR hV kk
  rw [List.map_cons, hrv] at k2
  exact va_gets cx.1 cx.2.1 cx.2.2.2.2.2.2.1.2.2.2.1 hV cx.2.2.2.1 (cx.2.2.2.2.1 _ hw) (fun _ z => z) hd k2
theorem kw_getsC (hd : decode M.2.1 pc = .ok (.getstatic idx, 3)) (hw : Cond.fieldLink M.1.cls idx RJ0 "COMPACT_STRINGS" "Z" ∈ k_KT) (k : kW E d mc ms M (pc + 3) L (kI 1 :: S) h Q) : kW E d mc ms M pc L S h Q := by
  intro p e R s mm args below meth c H ls locs cells slots QQ cx g1 g2 hl hS hH hR hV kk
  have k2 := k p e R s mm args below meth c H ls locs cells slots QQ cx g1 g2 hl (k_consI ⟨by decide, by decide⟩ hS) hH hR hV kk
  exact va_gets cx.1 cx.2.1 cx.2.2.2.2.2.2.1.2.2.2.2.2.1 hV cx.2.2.2.1 (cx.2.2.2.2.1 _ hw) (fun _ z => z) hd k2
theorem kw_getsF (hd : decode M.2.1 pc = .ok (.getstatic idx, 3)) (hw : Cond.fieldLink M.1.cls idx RJ3 "SIOOBE_FORMATTER" "Ljava/util/function/BiFunction;" ∈ k_KT) (k : kW E d mc ms M (pc + 3) L (kA 1000005 :: S) h Q) : kW E d mc ms M pc L S h Q := by
  intro p e R s mm args below meth c H ls locs cells slots QQ cx g1 g2 hl hS hH hR hV kk
  have hrv : k_rv E (kA 1000005) = ksv E 5 := k_rvS E 5
  have k2 := k p e R s mm args below meth c H ls locs cells slots QQ cx g1 g2 hl (k_cons (v := kA 1000005) trivial hS) hH hR hV kk
  rw [List.map_cons, hrv] at k2
  exact va_gets cx.1 cx.2.1 cx.2.2.2.2.2.2.1.2.2.2.2.2.2.1 hV cx.2.2.2.1 (cx.2.2.2.2.1 _ hw) (fun _ z => z) hd k2
theorem kw_getSv (hd : decode M.2.1 pc = .ok (.getfield idx, 3)) (hw : Cond.fieldLink M.1.cls idx RJ0 "value" "[B" ∈ k_KT) (k : kW E d mc ms M (pc + 3) L (kA 1000004 :: S) h Q) : kW E d mc ms M pc L (kA 1000003 :: S) h Q := by
  intro p e R s mm args below meth c H ls locs cells slots QQ cx g1 g2 hl hS hH hR hV kk
  obtain ⟨ts, tv, e1, e2, e3, e4, e5, e6, e7⟩ := cx.2.2.2.2.2.2.1.2.2.2.2.1
  have hrv : k_rv E (kA 1000003) = .ref ts := (k_rvS E 3).trans e1
  have hrw : k_rv E (kA 1000004) = .ref tv := (k_rvS E 4).trans e2
  have k2 := k p e R s mm args below meth c H ls locs cells slots QQ cx g1 g2 hl (k_cons (v := kA 1000004) trivial (k_tl hS).2) hH hR hV kk
  rw [List.map_cons, hrw] at k2
  rw [List.map_cons, hrv]
  exact vk_getf cx.1 cx.2.1 e6 hV cx.2.2.2.1 (cx.2.2.2.2.1 _ hw) (fun _ z => z) hd k2
theorem kw_getSc (hd : decode M.2.1 pc = .ok (.getfield idx, 3)) (hw : Cond.fieldLink M.1.cls idx RJ0 "coder" "B" ∈ k_KT) (k : kW E d mc ms M (pc + 3) L (kI 0 :: S) h Q) : kW E d mc ms M pc L (kA 1000003 :: S) h Q := by
  intro p e R s mm args below meth c H ls locs cells slots QQ cx g1 g2 hl hS hH hR hV kk
  obtain ⟨ts, tv, e1, e2, e3, e4, e5, e6, e7⟩ := cx.2.2.2.2.2.2.1.2.2.2.2.1
  have hrv : k_rv E (kA 1000003) = .ref ts := (k_rvS E 3).trans e1
  have k2 := k p e R s mm args below meth c H ls locs cells slots QQ cx g1 g2 hl (k_consI k_in0 (k_tl hS).2) hH hR hV kk
  rw [List.map_cons, hrv]
  exact vk_getf cx.1 cx.2.1 e5 hV cx.2.2.2.1 (cx.2.2.2.2.1 _ hw) (fun _ z => z) hd k2
theorem kw_alenB (hd : decode M.2.1 pc = .ok (.arraylength, 1)) (k : kW E d mc ms M (pc + 1) L (kI 87 :: S) h Q) : kW E d mc ms M pc L (kA 1000004 :: S) h Q := by
  intro p e R s mm args below meth c H ls locs cells slots QQ cx g1 g2 hl hS hH hR hV kk
  obtain ⟨ts, tv, e1, e2, e3, e4, e5, e6, e7⟩ := cx.2.2.2.2.2.2.1.2.2.2.2.1
  have hrw : k_rv E (kA 1000004) = .ref tv := (k_rvS E 4).trans e2
  have k2 := k p e R s mm args below meth c H ls locs cells slots QQ cx g1 g2 hl (k_consI ⟨by decide, by decide⟩ (k_tl hS).2) hH hR hV kk
  rw [List.map_cons, hrw]
  exact va_tlen cx.1 cx.2.1 e7 hV rfl hd k2
theorem k_FTin : ∀ i : Nat, k_in (k_FT.getD i 0) := by
  intro i
  by_cases hi : i < k_FT.length
  · have : ∀ z ∈ k_FT, k_in z := by unfold k_FT k_in; decide
    have e : k_FT.getD i 0 = k_FT[i] := by simp [List.getD_eq_getElem?_getD, hi]
    rw [e]
    exact this _ (List.getElem_mem hi)
  · have e : k_FT.getD i 0 = 0 := by simp [List.getD_eq_getElem?_getD, Nat.not_lt.mp hi]
    rw [e]
    exact k_in0
theorem kw_baldB {i : Int} (hd : decode M.2.1 pc = .ok (.baload, 1)) (h0 : 0 ≤ i) (h1 : i < 87) (k : kW E d mc ms M (pc + 1) L (kI (k_FT.getD i.toNat 0) :: S) h Q) : kW E d mc ms M pc L (kI i :: kA 1000004 :: S) h Q := by
  intro p e R s mm args below meth c H ls locs cells slots QQ cx g1 g2 hl hS hH hR hV kk
  obtain ⟨ts, tv, e1, e2, e3, e4, e5, e6, e7⟩ := cx.2.2.2.2.2.2.1.2.2.2.2.1
  have hrw : k_rv E (kA 1000004) = .ref tv := (k_rvS E 4).trans e2
  have hi : k_in i := (k_tl hS).1
  have k2 := k p e R s mm args below meth c H ls locs cells slots QQ cx g1 g2 hl (k_consI (k_FTin _) (k_tl (k_tl hS).2).2) hH hR hV kk
  rw [List.map_cons, List.map_cons, hrw]
  exact va_tb cx.1 cx.2.1 e7 hV (k_vpin hi h0 (by omega)) (by rw [k_tc hi]; rfl) hd k2
/-- System.arraycopy between rows of ints -/
def k_cp (f : Nat → Int → Int) (a0 a1 : Nat) (sp dp n : Int) : Nat → Int → Int := fun b j => if b = a1 ∧ dp ≤ j ∧ j < dp + n then f a0 (sp + (j - dp)) else f b j
theorem kw_copy {a0 a1 n0 n1 : Nat} {sp dp n : Int} (hd : decode M.2.1 pc = .ok (.invokestatic idx, 3)) (hw : Cond.methodLink M.1.cls idx arraycopyName ∈ k_KT) (hm0 : h.1[a0]? = some (100, n0)) (hm1 : h.1[a1]? = some (100, n1)) (h1 : 0 ≤ sp) (h2 : 0 ≤ dp) (h3 : 0 ≤ n) (h4 : sp + n ≤ n0) (h5 : dp + n ≤ n1) (hwd : (S.map k_wd).sum ≤ 8) (hd1 : 1 ≤ d)
    (k : kW E d mc ms M (pc + 3) L S (h.1, k_cp h.2.1 a0 a1 sp dp n, h.2.2) Q) : kW E d mc ms M pc L (kI n :: kI dp :: kA a1 :: kI sp :: kA a0 :: S) h Q := by
  intro p e R s mm args below meth c H ls locs cells slots QQ cx g1 g2 hl hS hH hR hV kk
  have hts := cx.2.2.2.2.1
  have hst := cx.2.2.2.2.2.2.1
  have hK := hst.1
  have hn : k_in n := (k_tl hS).1
  have hdp : k_in dp := (k_tl (k_tl hS).2).1
  have hS3 := (k_tl (k_tl (k_tl hS).2).2).2
  have hsp : k_in sp := (k_tl hS3).1
  have hS5 := (k_tl (k_tl hS3).2).2
  simp only [List.map_cons, k_rvA hH hm1, k_rvA hH hm0]
  show W p (kl E) e R s mm args below meth c H locs cells slots QQ (F0 mm pc ls (.int (Int32.ofInt n) :: .int (Int32.ofInt dp) :: .ref (kb E + a1) :: .int (Int32.ofInt sp) :: .ref (kb E + a0) :: S.map (k_rv E)))
  have he0 : (k_ws E h)[a0]? = some (kb E + a0, .inl (kcI E, n0, .inl (fun j : Nat => Int32.ofInt (h.2.1 a0 j)))) := by rw [k_ws_at (k_lt hm0), k_cell_i hm0]
  have he1 : (k_ws E h)[a1]? = some (kb E + a1, .inl (kcI E, n1, .inl (fun j : Nat => Int32.ofInt (h.2.1 a1 j)))) := by rw [k_ws_at (k_lt hm1), k_cell_i hm1]
  generalize hf : (fun j : Nat => Int32.ofInt (h.2.1 a0 j)) = f at he0
  generalize hg : (fun j : Nat => Int32.ofInt (h.2.1 a1 j)) = g at he1
  have hc0 : H[kb E + a0]? = some (vp_cell (kcI E) (n0, .inl f)) := hR.2 a0 _ he0
  have hc1 : H[kb E + a1]? = some (vp_cell (kcI E) (n1, .inl g)) := hR.2 a1 _ he1
  have hAr := (hK.2 0 _ (k_ty E).1).1
  have c1 := k_tc hsp
  have c2 := k_tc hdp
  have c3 := k_tc hn
  have t1 := k_ti hsp
  have t2 := k_ti hdp
  have t3 := k_ti hn
  have nneg : ∀ z : Int, k_in z → 0 ≤ z → ¬ Int32.ofInt z < 0 := fun z hz h0 => by rw [k_z, k_lti hz k_in0]; omega
  intro T hT X
  obtain ⟨-, k0, hk0, cm0, hkk0⟩ := hAr n0 (fun j => .int (f j))
  obtain ⟨-, k1, hk1, cm1, hkk1⟩ := hAr n1 (fun j => .int (g j))
  have hsum := k_sum E hst S
  obtain ⟨vm', X', step⟩ := X.arraycopy cx.1 cx.2.2.2.1 (hts _ hw) (hts _ na_acopy) (hts _ st_acopy) (hts _ in_J10) (src := kb E + a0) (dst := kb E + a1) (cs := vp_cell (kcI E) (n0, .inl f)) (cd := vp_cell (kcI E) (n1, .inl g)) (srcPos := Int32.ofInt sp) (destPos := Int32.ofInt dp) (n := Int32.ofInt n) (by rw [hT]; exact hc0) (by rw [hT]; exact hc1)
    (fun _ h => by cases h) (fun _ h => by cases h) (fun h => by cases h) (fun h => by cases h) hk0 hk1 hkk0 hkk1 (by rfl) (nneg _ hsp h1) (nneg _ hdp h2) (nneg _ hn h3)
    (by rw [t1, t3]; show ¬ _ > ((arrV _ n0 (fun j => .int (f j))).slots.size : Int); rw [arrV_size]; omega)
    (by rw [t2, t3]; show ¬ _ > ((arrV _ n1 (fun j => .int (g j))).slots.size : Int); rw [arrV_size]; omega)
    (fun vm₁ _ i hi => by
      rw [c3] at hi
      have e : (vp_cell (kcI E) (n0, .inl f)).slots.getD ((Int32.ofInt sp).toNatClampNeg + i) .null = .int (f ((Int32.ofInt sp).toNatClampNeg + i)) := by
        show (arrV _ n0 (fun j => .int (f j))).slots.getD _ _ = _
        rw [Array.getD_eq_getD_getElem?, arrV_read _ _ (by rw [c1]; omega)]
        rfl
      refine ⟨?_, ?_⟩
      · rw [e]
        rfl
      · rw [e]
        exact trivial)
    (g := F0 mm pc ls (.int (Int32.ofInt n) :: .int (Int32.ofInt dp) :: .ref (kb E + a1) :: .int (Int32.ofInt sp) :: .ref (kb E + a0) :: S.map (k_rv E))) rfl (by rw [cx.2.2.1]; exact hl.1) (rest := S.map (k_rv E)) rfl (by rw [cx.2.1]; exact hd) (by have := cx.2.2.2.2.2.2.2.1; omega)
    (by rw [hsum]; have := cx.2.2.2.2.2.2.2.2.1; have e9 : nativeFrameWords "java/lang/System" "arraycopy" 5 = 7 := by decide
        show 2 * 0 + _ + (nativeFrameWords "java/lang/System" "arraycopy" 5 + 11) ≤ _; rw [e9]; omega)
  have e1 : copied (vp_cell (kcI E) (n0, .inl f)) (vp_cell (kcI E) (n1, .inl g)) (Int32.ofInt sp) (Int32.ofInt dp) (Int32.ofInt n) = vp_cell (kcI E) (n1, .inl (va_cpy f g (Int32.ofInt sp).toNatClampNeg (Int32.ofInt dp).toNatClampNeg (Int32.ofInt n).toNatClampNeg)) := va_copied (fun z => .int z) (kcI E) (kcI E) f g (by rw [c1, c3]; omega)
  rw [e1, c1, c2, c3] at X' step
  generalize hcell : vp_cell (kcI E) (n1, .inl (va_cpy f g sp.toNat dp.toNat n.toNat)) = cell at X' step
  have hlt : kb E + a1 < H.size := (Array.getElem?_eq_some_iff.mp hc1).1
  have hheap : ((T.setVm vm').setCell (kb E + a1) cell).heap = H.setIfInBounds (kb E + a1) cell := by rw [← hT]; rfl
  have oq : ∀ q : Nat, q ≠ kb E + a1 → (H.setIfInBounds (kb E + a1) cell)[q]? = H[q]? := fun q hq => by simp [Array.getElem?_setIfInBounds, Ne.symm hq]
  have hm1' : (h.1, k_cp h.2.1 a0 a1 sp dp n, h.2.2).1[a1]? = some (100, n1) := hm1
  have hcE : k_cell E (h.1, k_cp h.2.1 a0 a1 sp dp n, h.2.2) a1 = .inl (kcI E, n1, .inl (va_cpy f g sp.toNat dp.toNat n.toNat)) := by
    rw [k_cell_i hm1']
    congr 3
    refine congrArg Sum.inl ?_
    funext j
    subst hf; subst hg
    unfold va_cpy
    show Int32.ofInt (k_cp h.2.1 a0 a1 sp dp n a1 (j : Int)) = _
    unfold k_cp
    by_cases hj : dp.toNat ≤ j ∧ j < dp.toNat + n.toNat
    · rw [if_pos hj, if_pos ⟨rfl, by omega, by omega⟩]
      have q1 := hj.1
      have q2 : sp + ((j : Int) - dp) = ((sp.toNat + (j - dp.toNat) : Nat) : Int) := by omega
      rw [q2]
    · rw [if_neg hj, if_neg (fun z => hj ⟨by have := z.2.1; omega, by have := z.2.2; omega⟩)]
  have hws := k_ws_set (E := E) (h := h) (h2 := (h.1, k_cp h.2.1 a0 a1 sp dp n, h.2.2)) (a := a1) rfl hcE (fun b hb => k_cell_cong rfl (fun j => if_neg (fun z => hb z.1)) (fun j => rfl))
  have hP1 := hR.2.set (e := .inl (kcI E, n1, .inl (va_cpy f g sp.toNat dp.toNat n.toNat))) k_wsD he1 (show (H.setIfInBounds (kb E + a1) cell)[kb E + a1]? = some _ by rw [Array.getElem?_setIfInBounds, if_pos rfl, if_pos hlt, ← hcell]) oq
  rw [hws] at hP1
  have hH2 : k_okH (kX E) (h.1, k_cp h.2.1 a0 a1 sp dp n, h.2.2) := by
    refine ⟨fun b j => ?_, hH.2⟩
    show k_in (k_cp h.2.1 a0 a1 sp dp n b j)
    unfold k_cp
    split
    · exact hH.1 _ _
    · exact hH.1 _ _
  obtain ⟨t, z1, z2⟩ := k p e R s mm args below meth c (H.setIfInBounds (kb E + a1) cell) ls _ cells slots QQ cx g1 g2 hl hS5 hH2 ⟨by rw [Array.size_setIfInBounds]; exact hR.1, hP1⟩
    ⟨by simp; exact hV.1, fun q w1 w2 => by
      rw [oq q (fun e => w2 (by rw [e]; show kb E ≤ kb E + a1; omega))]
      exact hV.2.1 q w1 w2, fun q hq => by
      rcases List.mem_append.mp hq with h | h
      · exact hV.2.2 q h
      · obtain ⟨z, -, hz⟩ := List.mem_map.mp h
        rw [← hz]
        show kb E ≤ kb E + a1
        omega⟩ kk _ hheap X'
  exact ⟨t, step t z1, z2⟩
end KW7
