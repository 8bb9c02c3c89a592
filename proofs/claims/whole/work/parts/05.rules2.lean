/-! rules of the inner machine: locals that are stored, fields, arrays, returns -/
def k_lv (E : kEnv) (L : kLs) : List (Nat × Value) := (List.range L.length).filterMap (fun i => match L[i]? with
  | some (some v) => some (i, k_rv E v)
  | _ => none)
theorem k_lv_in {E : kEnv} {L : kLs} {i : Nat} {v : kV} (h : L[i]? = some (some v)) : (i, k_rv E v) ∈ k_lv E L := by
  refine List.mem_filterMap.mpr ⟨i, List.mem_range.mpr (List.getElem?_eq_some_iff.mp h).1, ?_⟩
  rw [h]
theorem k_lv_of {E : kEnv} {L : kLs} {q : Nat × Value} (h : q ∈ k_lv E L) : ∃ v, L[q.1]? = some (some v) ∧ q.2 = k_rv E v := by
  obtain ⟨i, -, hi⟩ := List.mem_filterMap.mp h
  cases hL : L[i]? with
  | none => rw [hL] at hi; cases hi
  | some w =>
    cases w with
    | none => rw [hL] at hi; cases hi
    | some v => rw [hL] at hi; cases hi; exact ⟨v, hL, rfl⟩
theorem k_lr_has {E : kEnv} {nL : Nat} {L : kLs} {ls : Array Slot} (h : k_lr E nL L ls) : lv_has ls nL (k_lv E L) := by
  refine ⟨h.1, h.2.2.1, fun q hq => ?_⟩
  obtain ⟨v, h1, h2⟩ := k_lv_of hq
  rw [h2]
  exact (h.2.2.2 _ _ h1).1
/-- no long begins just below i -/
def k_nl (L : kLs) (i : Nat) : Prop := match i with
  | 0 => True
  | j + 1 => match L[j]? with
    | some (some (.inr (.inl _))) => False
    | _ => True
theorem k_nl_one {L : kLs} {j : Nat} {v : kV} (h : k_nl L (j + 1)) (hv : L[j]? = some (some v)) : k_one v := by
  simp only [k_nl, hv] at h
  rcases v with z | z | r
  · trivial
  · exact h.elim
  · trivial
theorem k_lr_set1 {E : kEnv} {s : State} (hs : k_stat E s) {nL : Nat} {L : kLs} {ls ls2 : Array Slot} (h : k_lr E nL L ls) {i : Nat} {v : kV} (hv : k_ok v) (hn : k_nl L i)
    (h2 : lv_has ls2 nL ((i, k_rv E v) :: (k_lv E L).filter (fun q => !(q.1 == i) && !(q.1 + 1 == i && q.2.category == 2)))) : k_lr E nL (L.set i (some v)) ls2 := by
  refine ⟨h2.1, by rw [List.length_set]; exact h.2.1, h2.2.1, fun j w hj => ?_⟩
  by_cases hji : j = i
  · subst hji
    have hlt := (List.getElem?_eq_some_iff.mp hj).1
    rw [List.length_set] at hlt
    rw [List.getElem?_set_self hlt] at hj
    cases hj
    exact ⟨h2.2.2 _ List.mem_cons_self, hv⟩
  · rw [List.getElem?_set_ne (Ne.symm hji)] at hj
    refine ⟨h2.2.2 (j, k_rv E w) (List.mem_cons_of_mem _ (List.mem_filter.mpr ⟨k_lv_in hj, ?_⟩)), (h.2.2.2 _ _ hj).2⟩
    have e1 : (j == i) = false := by simp [hji]
    by_cases hj1 : j + 1 = i
    · subst hj1
      have := k_cat hs (k_nl_one hn hj)
      simp [this]
    · have e2 : (j + 1 == i) = false := by simp [hj1]
      simp [e1, e2]
theorem k_lr_set2 {E : kEnv} {s : State} (hs : k_stat E s) {nL : Nat} {L : kLs} {ls ls2 : Array Slot} (h : k_lr E nL L ls) {i : Nat} {v : kV} (hv : k_ok v) (hn : k_nl L i)
    (h2 : lv_has ls2 nL ((i, k_rv E v) :: (k_lv E L).filter (fun q => !(q.1 == i) && (!(q.1 == i + 1) && !(q.1 + 1 == i && q.2.category == 2))))) : k_lr E nL ((L.set i (some v)).set (i + 1) none) ls2 := by
  refine ⟨h2.1, by rw [List.length_set, List.length_set]; exact h.2.1, h2.2.1, fun j w hj => ?_⟩
  by_cases hj2 : j = i + 1
  · subst hj2
    have hlt := (List.getElem?_eq_some_iff.mp hj).1
    rw [List.length_set] at hlt
    rw [List.getElem?_set_self hlt] at hj
    cases hj
  · rw [List.getElem?_set_ne (Ne.symm hj2)] at hj
    by_cases hji : j = i
    · subst hji
      have hlt := (List.getElem?_eq_some_iff.mp hj).1
      rw [List.length_set] at hlt
      rw [List.getElem?_set_self hlt] at hj
      cases hj
      exact ⟨h2.2.2 _ List.mem_cons_self, hv⟩
    · rw [List.getElem?_set_ne (Ne.symm hji)] at hj
      refine ⟨h2.2.2 (j, k_rv E w) (List.mem_cons_of_mem _ (List.mem_filter.mpr ⟨k_lv_in hj, ?_⟩)), (h.2.2.2 _ _ hj).2⟩
      have e1 : (j == i) = false := by simp [hji]
      have e3 : (j == i + 1) = false := by simp [hj2]
      by_cases hj1 : j + 1 = i
      · subst hj1
        have := k_cat hs (k_nl_one hn hj)
        simp [this]
        omega
      · have e2 : (j + 1 == i) = false := by simp [hj1]
        simp [e1, e2, e3]
section KW2
variable {E : kEnv} {d mc ms : Nat} {M : kMd} {pc : Nat} {L L2 : kLs} {S : List kV} {h : kH} {Q : Option kV → kH → Prop}
theorem kw_istore_n {k0 : Fin 4} {x : Int} (hd : decode M.2.1 pc = .ok (.istore_n k0, 1)) (hi : (k0 : Nat) < M.2.2.1) (hn : k_nl L k0) (hL : L.set k0 (some (kI x)) = L2) (k : kW E d mc ms M (pc + 1) L2 S h Q) : kW E d mc ms M pc L (kI x :: S) h Q := by
  intro p e R s mm args below meth c H ls locs cells slots QQ cx g1 g2 hl hS hH hR hV kk
  subst hL
  exact lv_istore_n cx.1 cx.2.1 hd rfl (k_lr_has hl) hi rfl (fun ls2 h2 => k p e R s mm args below meth c H ls2 locs cells slots QQ cx g1 g2 (k_lr_set1 (v := kI x) cx.2.2.2.2.2.2.1 hl (k_tl hS).1 hn h2) (k_tl hS).2 hH hR hV kk)
theorem kw_istore {k0 : Nat} {x : Int} (hd : decode M.2.1 pc = .ok (.istore k0, 2)) (hi : k0 < M.2.2.1) (hn : k_nl L k0) (hL : L.set k0 (some (kI x)) = L2) (k : kW E d mc ms M (pc + 2) L2 S h Q) : kW E d mc ms M pc L (kI x :: S) h Q := by
  intro p e R s mm args below meth c H ls locs cells slots QQ cx g1 g2 hl hS hH hR hV kk
  subst hL
  exact lv_istore cx.1 cx.2.1 hd (k_lr_has hl) hi rfl (fun ls2 h2 => k p e R s mm args below meth c H ls2 locs cells slots QQ cx g1 g2 (k_lr_set1 (v := kI x) cx.2.2.2.2.2.2.1 hl (k_tl hS).1 hn h2) (k_tl hS).2 hH hR hV kk)
theorem kw_lstore_n {k0 : Fin 4} {x : Int} (hd : decode M.2.1 pc = .ok (.lstore_n k0, 1)) (hi : (k0 : Nat) + 1 < M.2.2.1) (hn : k_nl L k0) (hL : (L.set k0 (some (kJ x))).set (k0 + 1) none = L2) (k : kW E d mc ms M (pc + 1) L2 S h Q) : kW E d mc ms M pc L (kJ x :: S) h Q := by
  intro p e R s mm args below meth c H ls locs cells slots QQ cx g1 g2 hl hS hH hR hV kk
  subst hL
  exact lv_lstore_n cx.1 cx.2.1 hd rfl (k_lr_has hl) hi rfl (fun ls2 h2 => k p e R s mm args below meth c H ls2 locs cells slots QQ cx g1 g2 (k_lr_set2 (v := kJ x) cx.2.2.2.2.2.2.1 hl (k_tl hS).1 hn h2) (k_tl hS).2 hH hR hV kk)
theorem kw_lstore {k0 : Nat} {x : Int} (hd : decode M.2.1 pc = .ok (.lstore k0, 2)) (hi : k0 + 1 < M.2.2.1) (hn : k_nl L k0) (hL : (L.set k0 (some (kJ x))).set (k0 + 1) none = L2) (k : kW E d mc ms M (pc + 2) L2 S h Q) : kW E d mc ms M pc L (kJ x :: S) h Q := by
  intro p e R s mm args below meth c H ls locs cells slots QQ cx g1 g2 hl hS hH hR hV kk
  subst hL
  exact lv_lstore cx.1 cx.2.1 hd (k_lr_has hl) hi rfl (fun ls2 h2 => k p e R s mm args below meth c H ls2 locs cells slots QQ cx g1 g2 (k_lr_set2 (v := kJ x) cx.2.2.2.2.2.2.1 hl (k_tl hS).1 hn h2) (k_tl hS).2 hH hR hV kk)
theorem kw_astore_n {k0 : Fin 4} {a : Nat} (hd : decode M.2.1 pc = .ok (.astore_n k0, 1)) (ha : a < 1000000) (hi : (k0 : Nat) < M.2.2.1) (hn : k_nl L k0) (hL : L.set k0 (some (kA a)) = L2) (k : kW E d mc ms M (pc + 1) L2 S h Q) : kW E d mc ms M pc L (kA a :: S) h Q := by
  intro p e R s mm args below meth c H ls locs cells slots QQ cx g1 g2 hl hS hH hR hV kk
  subst hL
  have z : k_rv E (kA a) = .ref (kb E + a) := if_pos ha
  have z2 := @k_lr_set1 E s cx.2.2.2.2.2.2.1 M.2.2.1 L ls
  rw [List.map_cons, z]
  exact lv_astore_n cx.1 cx.2.1 hd rfl (k_lr_has hl) hi rfl (fun ls2 h2 => k p e R s mm args below meth c H ls2 locs cells slots QQ cx g1 g2 (z2 (v := kA a) hl trivial hn (by rw [z]; exact h2)) (k_tl hS).2 hH hR hV kk)
theorem kw_iinc {k0 : Nat} {x n : Int} (hd : decode M.2.1 pc = .ok (.iinc k0 n, 3)) (hi : k0 < M.2.2.1) (hx : L[k0]? = some (some (kI x))) (hr : k_in (x + n)) (hn : k_nl L k0) (hL : L.set k0 (some (kI (x + n))) = L2) (k : kW E d mc ms M (pc + 3) L2 S h Q) : kW E d mc ms M pc L S h Q := by
  intro p e R s mm args below meth c H ls locs cells slots QQ cx g1 g2 hl hS hH hR hV kk
  subst hL
  have h0 := k_lr_has hl
  have h1 : lv_has ls M.2.2.1 ((k0, .int (Int32.ofInt x)) :: k_lv E L) := ⟨h0.1, h0.2.1, List.forall_mem_cons.mpr ⟨(hl.2.2.2 _ _ hx).1, h0.2.2⟩⟩
  refine lv_iinc (v := Int32.ofInt (x + n)) cx.1 cx.2.1 hd h1 (k := 0) rfl (Int32.ofInt_add x n).symm hi rfl (fun ls2 h2 => k p e R s mm args below meth c H ls2 locs cells slots QQ cx g1 g2 (k_lr_set1 (v := kI (x + n)) cx.2.2.2.2.2.2.1 hl hr hn ?_) hS hH hR hV kk)
  refine ⟨h2.1, h2.2.1, fun q hq => h2.2.2 q ?_⟩
  rcases List.mem_cons.mp hq with z | z
  · exact List.mem_cons.mpr (Or.inl z)
  · obtain ⟨z1, z2⟩ := List.mem_filter.mp z
    exact List.mem_cons_of_mem _ (List.mem_filter.mpr ⟨List.mem_cons_of_mem _ z1, z2⟩)
end KW2
/-! the cells -/
theorem k_ws_at {E : kEnv} {h : kH} {a : Nat} (ha : a < h.1.length) : (k_ws E h)[a]? = some (kb E + a, k_cell E h a) := by
  unfold k_ws
  rw [List.getElem?_map, List.getElem?_range ha]
  rfl
theorem k_lt {h : kH} {a : Nat} {x : Nat × Nat} (hm : h.1[a]? = some x) : a < h.1.length := (List.getElem?_eq_some_iff.mp hm).1
theorem k_rvA {E : kEnv} {X : Nat × (Nat → Int)} {h : kH} {a : Nat} {x : Nat × Nat} (hH : k_okH X h) (hm : h.1[a]? = some x) : k_rv E (kA a) = .ref (kb E + a) := if_pos (Nat.lt_trans (k_lt hm) hH.2.2.1)
theorem k_rv_rf {E : kEnv} {r : Option Nat} (h : ∀ x, r = some x → x < 1000000) : k_rv E (kR r) = va_rf (k_rf E r) := by
  cases r with
  | none => rfl
  | some a => exact if_pos (h a rfl)
theorem k_ws_set {E : kEnv} {h h2 : kH} {a : Nat} {e : va_E} (hm : h2.1 = h.1) (hc : k_cell E h2 a = e) (ho : ∀ b : Nat, b ≠ a → k_cell E h2 b = k_cell E h b) : (k_ws E h).set a (kb E + a, e) = k_ws E h2 := by
  apply List.ext_getElem?
  intro i
  by_cases hi : i < h.1.length
  · rw [k_ws_at (h := h2) (by rw [hm]; exact hi)]
    by_cases hia : i = a
    · subst hia
      rw [List.getElem?_set_self (by simp [k_ws]; exact hi), hc]
    · rw [List.getElem?_set_ne (Ne.symm hia), k_ws_at hi, ho i hia]
  · rw [List.getElem?_eq_none (by simp [k_ws]; omega), List.getElem?_eq_none (by simp [k_ws, hm]; omega)]
theorem k_wsD {E : kEnv} {h : kH} : va_D (k_A E) (k_ws E h) := by
  have key : ∀ (k : Nat) (q : Nat × va_E), (k_ws E h)[k]? = some q → q.1 = kb E + k := by
    intro k q hq
    have hk : k < h.1.length := by
      have := (List.getElem?_eq_some_iff.mp hq).1
      simpa [k_ws] using this
    rw [k_ws_at hk] at hq
    cases hq
    rfl
  refine ⟨fun i j p q hi hj e => ?_, fun k q hk => ?_⟩
  · have a := key i p hi
    have b := key j q hj
    omega
  · have a := key k q hk
    show kb E ≤ q.1
    omega
/-- a field that is read -/
def k_fldr (own : String) (idx ci k N : Nat) : Prop := ∃ (C : String) (T : u_T), vwCl[ci]? = some (C, T, N) ∧ (∀ w ∈ u_ws C T N, w ∈ k_KT) ∧ k < N ∧ Cond.fieldLink own idx (T k).1 (T k).2.1 (T k).2.2.1 ∈ k_KT
/-- a field, by its place in the class's own table -/
def k_fld (own : String) (idx ci k N : Nat) (fin : Bool) : Prop := ∃ (C : String) (T : u_T) (ty : Nat → FieldType), vwCl[ci]? = some (C, T, N) ∧ (∀ w ∈ u_ws C T N, w ∈ k_KT) ∧ k < N ∧ Cond.fieldLink own idx (T k).1 (T k).2.1 (T k).2.2.1 ∈ k_KT ∧ (∀ j, j < N → parseFieldDescriptor (T j).2.2.1 = some (ty j)) ∧ (∀ a, a < N → ∀ b, b < N → a ≠ b → (T a).2.1 ≠ (T b).2.1) ∧ (k_fr ci k = false → ty k = .int) ∧ (k_fr ci k = true → ∀ v : Value, (v = .null ∨ ∃ a, v = .ref a) → narrow (ty k) v = v ∧ fits (ty k) v = true) ∧ (T k).2.2.2 = fin ∧ (fin = true → (T k).1 = own)
theorem k_cell_o {E : kEnv} {h : kH} {a ci N : Nat} {q : vw_C} (hm : h.1[a]? = some (ci, N)) (hc : vwCl[ci]? = some q) : k_cell E h a = .inr (ci, (List.range N).map (fun k => k_fv E h a ci k)) := by
  have hlt : ci < 8 := (List.getElem?_eq_some_iff.mp hc).1
  simp only [k_cell, hm]
  rw [if_neg (by omega), if_neg (by omega), if_neg (by omega)]
theorem k_u_ok {f : Nat → Int → Int} {a : Nat} {i v : Int} (h : ∀ b j, k_in (f b j)) (hv : k_in v) : ∀ b j, k_in (k_u f a i v b j) := by
  intro b j
  unfold k_u
  split
  · exact hv
  · exact h b j
theorem k_u_okr {f : Nat → Int → Option Nat} {a : Nat} {i : Int} {v : Option Nat} (h : ∀ b j x, f b j = some x → x < 1000000) (hv : ∀ x, v = some x → x < 1000000) : ∀ b j x, k_u f a i v b j = some x → x < 1000000 := by
  intro b j x
  unfold k_u
  split
  · exact hv x
  · exact h b j x
theorem k_u_ne {α : Type} {f : Nat → Int → α} {a b : Nat} {i j : Int} {v : α} (h : b ≠ a) : k_u f a i v b j = f b j := by
  unfold k_u
  rw [if_neg (fun q => h q.1)]
theorem k_u_ne2 {α : Type} {f : Nat → Int → α} {a b : Nat} {i j : Int} {v : α} (h : j ≠ i) : k_u f a i v b j = f b j := by
  unfold k_u
  rw [if_neg (fun q => h q.2)]
theorem k_u_self {α : Type} {f : Nat → Int → α} {a : Nat} {i : Int} {v : α} : k_u f a i v a i = v := by
  unfold k_u
  rw [if_pos ⟨rfl, rfl⟩]
theorem k_cell_cong {E : kEnv} {h h2 : kH} {b : Nat} (h0 : h2.1 = h.1) (h1 : ∀ j, h2.2.1 b j = h.2.1 b j) (h3 : ∀ j, h2.2.2 b j = h.2.2 b j) : k_cell E h2 b = k_cell E h b := by
  simp only [k_cell, h0, h1, h3, k_fv]
