/-! A machine of our own over the kit's rows: whole numbers as Int, addresses counted from the first cell that the law makes. kW is what the kit's W is, said of that picture; a rule an instruction. -/
abbrev kV : Type := Int ⊕ (Int ⊕ Option Nat)
abbrev kI (z : Int) : kV := Sum.inl z
abbrev kJ (z : Int) : kV := Sum.inr (Sum.inl z)
abbrev kR (r : Option Nat) : kV := Sum.inr (Sum.inr r)
abbrev kA (a : Nat) : kV := Sum.inr (Sum.inr (some a))
/-- the cells: (kind, length) of each; the numbers; the references -/
abbrev kH : Type := List (Nat × Nat) × (Nat → Int → Int) × (Nat → Int → Option Nat)
abbrev kLs : Type := List (Option kV)
/-- a method: name, bytes, how many locals, what it returns -/
abbrev kMd : Type := MethodName × ByteArray × Nat × Option FieldType
/-- launch, first address, the fixed references, where the classes' fields lie, the arrays' classes, the script -/
abbrev kEnv : Type := Launch × Nat × (Nat → Value) × va_G × (ClassId × ClassId × ClassId) × (Nat × (Nat → Int))
abbrev kl (E : kEnv) : Launch := E.1
abbrev kb (E : kEnv) : Nat := E.2.1
abbrev ksv (E : kEnv) : Nat → Value := E.2.2.1
abbrev kD (E : kEnv) : va_G := E.2.2.2.1
abbrev kcI (E : kEnv) : ClassId := E.2.2.2.2.1.1
abbrev kcC (E : kEnv) : ClassId := E.2.2.2.2.1.2.1
abbrev kcS (E : kEnv) : ClassId := E.2.2.2.2.1.2.2
abbrev kX (E : kEnv) : Nat × (Nat → Int) := E.2.2.2.2.2
abbrev vwCl : List vw_C := [(RX0, TX0, 2), (RX1, TX1, 7), (RX2, TX2, 10), (RX3, TX3, 2), (RX4, TX4, 3), (RX5, TX5, 3), (RX6, TX6, 7), (RX7, TX7, 14)]
/-- which fields are references -/
def k_fr (ci k : Nat) : Bool := match ci with
  | 0 => decide (k < 2)
  | 1 => decide (k < 6)
  | 2 => decide (k < 5)
  | 3 => decide (k < 1)
  | 4 => decide (k < 1)
  | 5 => decide (k < 2)
  | 6 => decide (k < 7)
  | _ => decide (k ≠ 1 ∧ k ≠ 7 ∧ k ≠ 9 ∧ k ≠ 10)
def k_u {α : Type} (f : Nat → Int → α) (a : Nat) (i : Int) (v : α) : Nat → Int → α := fun b j => if b = a ∧ j = i then v else f b j
/-- the fixed arrays of ints and of bytes -/
def k_LEAST : List Int := [0, 1, 1, 0, 1, 1, 1, 1, 1, 1]
def k_MOST : List Int := [3, 20, 20, 60, 20, 40, 60, 20, 9, 30]
def k_FT : List Int := [98, 48, 44, 54, 44, 52, 44, 48, 59, 98, 48, 44, 57, 44, 55, 44, 50, 59, 98, 49, 44, 53, 44, 57, 44, 48, 59, 98, 50, 44, 52, 44, 53, 44, 49, 59, 98, 51, 44, 49, 53, 44, 51, 44, 52, 59, 98, 48, 44, 49, 50, 44, 54, 44, 56, 59, 116, 54, 44, 56, 44, 57, 59, 116, 49, 48, 44, 54, 44, 49, 50, 59, 116, 55, 44, 57, 44, 54, 59, 107, 56, 44, 51, 59, 102, 54, 59]
def k_sta (X : Nat × (Nat → Int)) (j : Nat) : Nat × (Nat → Int) := match j with
  | 0 => (10, fun i => k_LEAST.getD i 0)
  | 1 => (10, fun i => k_MOST.getD i 0)
  | _ => X
def k_in (z : Int) : Prop := -2147483648 ≤ z ∧ z ≤ 2147483647
def k_in64 (z : Int) : Prop := -9223372036854775808 ≤ z ∧ z ≤ 9223372036854775807
def k_rv (E : kEnv) : kV → Value
  | .inl z => .int (Int32.ofInt z)
  | .inr (.inl z) => .long (Int64.ofInt z)
  | .inr (.inr none) => .null
  | .inr (.inr (some a)) => if a < 1000000 then .ref (kb E + a) else ksv E (a - 1000000)
def k_ok : kV → Prop
  | .inl z => k_in z
  | .inr (.inl z) => k_in64 z
  | .inr (.inr _) => True
/-- of one word of the stack -/
def k_one : kV → Prop
  | .inr (.inl _) => False
  | _ => True
def k_wd : kV → Nat
  | .inr (.inl _) => 2
  | _ => 1
def k_okH (X : Nat × (Nat → Int)) (h : kH) : Prop := (∀ a i, k_in (h.2.1 a i)) ∧ (∀ a i x, h.2.2 a i = some x → x < 1000000) ∧ h.1.length < 1000000 ∧ (∀ i, k_in (X.2 i)) ∧ X.1 < 2147483648 ∧ ∀ (a t n : Nat), h.1[a]? = some (t, n) → n < 2147483648
def k_rf (E : kEnv) (r : Option Nat) : Option Nat := r.map (fun a => kb E + a)
def k_fv (E : kEnv) (h : kH) (a t k : Nat) : Value := if k_fr t k = true then va_rf (k_rf E (h.2.2 a k)) else .int (Int32.ofInt (h.2.1 a k))
def k_cell (E : kEnv) (h : kH) (a : Nat) : va_E := match h.1[a]? with
  | none => .inr (0, [])
  | some (t, n) => if t = 100 then .inl (kcI E, n, .inl (fun j : Nat => Int32.ofInt (h.2.1 a j)))
    else if t = 101 then .inl (kcC E, n, .inl (fun j : Nat => Int32.ofInt (h.2.1 a j)))
    else if t = 102 then .inl (kcS E, n, .inr (.inr (.inr (.inr (fun j : Nat => k_rf E (h.2.2 a j))))))
    else .inr (t, (List.range n).map (fun k => k_fv E h a t k))
def k_ws (E : kEnv) (h : kH) : va_W := (List.range h.1.length).map (fun a => (kb E + a, k_cell E h a))
def k_rel (E : kEnv) (h : kH) (H : Heap) : Prop := H.size = kb E + h.1.length ∧ va_P (kD E) vwCl (k_ws E h) H
def k_A (E : kEnv) : Nat → Prop := fun q => kb E ≤ q
abbrev k_tys (E : kEnv) : List (ClassId × FieldType) := [(kcI E, .int), (kcC E, .char), (kcS E, .object RX4)]
def k_nest : List (Nat × String × MethodName) := [(9, RX6, yX5_init), (18, RX6, yX2_init), (25, RX6, yX4_init), (21, RX3, yX4_init), (11, RX0, yX4_init), (70, RX5, yX6_isWithin)]
/-- what stays: the tables' classes, the fixed arrays, the text that the class begins with, private members of nest mates -/
def k_stat (E : kEnv) (U : State) : Prop :=
  va_K (kD E) vwCl (k_tys E) U ∧
  (∀ j : Nat, j < 3 → ∃ t : Nat, ksv E j = .ref t ∧ va_T .int t (k_sta (kX E) j).1 (fun i => .int (Int32.ofInt ((k_sta (kX E) j).2 i))) (k_A E) U U.heap) ∧
  va_Z RX5 "LEAST" "[I" (ksv E 0) (k_A E) U U.heap ∧ va_Z RX5 "MOST" "[I" (ksv E 1) (k_A E) U U.heap ∧
  (∃ ts tv : Nat, ksv E 3 = .ref ts ∧ ksv E 4 = .ref tv ∧ vk_R RX6 58 "b0,6,4,0;b0,9,7,2;b1,5,9,0;b2,4,5,1;b3,15,3,4;b0,12,6,8;t6,8,9;t10,6,12;t7,9,6;k8,3;f6;" ts U ∧ va_O RJ0 ts (k_A E) U U.heap ∧ va_OF RJ0 "coder" "B" (.int 0) ts (k_A E) U U.heap ∧ va_OF RJ0 "value" "[B" (.ref tv) ts (k_A E) U U.heap ∧ va_T .byte tv 87 (fun i => .int (Int32.ofInt (k_FT.getD i 0))) (k_A E) U U.heap) ∧
  va_Z RJ0 "COMPACT_STRINGS" "Z" (.int 1) (k_A E) U U.heap ∧ va_Z RJ3 "SIOOBE_FORMATTER" "Ljava/util/function/BiFunction;" (ksv E 5) (k_A E) U U.heap ∧
  (∀ j : Nat, ksv E j = .null ∨ ∃ t : Nat, ksv E j = .ref t) ∧
  (∀ q ∈ k_nest, va_Nw (.methodLinkNest q.2.1 q.1 q.2.2 RX6) U) ∧ va_AO RX4 U
theorem k_stat_move {E : kEnv} {s U : State} (h : k_stat E s) (hW : s.WarmedH U.vm) (hH : ∀ a : Nat, a < s.heap.size → ¬ k_A E a → U.heap[a]? = s.heap[a]?) : k_stat E U := by
  obtain ⟨h1, h2, h3, h4, ⟨ts, tv, e1, e2, e3, e4, e5, e6, e7⟩, h6, h7, h8, h9, h10⟩ := h
  have hv := hW.alike
  refine ⟨h1.moved hv, fun j hj => ?_, (h3.moved hv).kept hH, (h4.moved hv).kept hH, ⟨ts, tv, e1, e2, e3.warm hW, (e4.moved hv).kept hH, (e5.moved hv).kept hH, (e6.moved hv).kept hH, (e7.moved hv).kept hH⟩, (h6.moved hv).kept hH, (h7.moved hv).kept hH, h8, fun q hq => va_Nw.warmM hW (h9 q hq), h10.moved hv⟩
  obtain ⟨t, a, b⟩ := h2 j hj
  exact ⟨t, a, (b.moved hv).kept hH⟩
theorem k_stat_same {E : kEnv} {s U : State} (h : k_stat E s) (hv : U.vm = s.vm) (hH : U.heap = s.heap) : k_stat E U := by
  obtain ⟨h1, h2, h3, h4, ⟨ts, tv, e1, e2, e3, e4, e5, e6, e7⟩, h6, h7, h8, h9, h10⟩ := h
  have hal : s.vm.Alike U.vm := by rw [hv]; exact Vm.Alike.refl _
  have hk : ∀ a : Nat, a < s.heap.size → ¬ k_A E a → U.heap[a]? = s.heap[a]? := fun a _ _ => by rw [hH]
  refine ⟨h1.moved hal, fun j hj => ?_, (h3.moved hal).kept hk, (h4.moved hal).kept hk, ⟨ts, tv, e1, e2, e3.same hv, (e4.moved hal).kept hk, (e5.moved hal).kept hk, (e6.moved hal).kept hk, (e7.moved hal).kept hk⟩, (h6.moved hal).kept hk, (h7.moved hal).kept hk, h8, fun q hq => va_Nw.same rfl hv.symm (h9 q hq), h10.moved hal⟩
  obtain ⟨t, a, b⟩ := h2 j hj
  exact ⟨t, a, (b.moved hal).kept hk⟩
def k_lr (E : kEnv) (nL : Nat) (L : kLs) (ls : Array Slot) : Prop := ls.size = nL ∧ L.length = nL ∧ lv_wf ls ∧ ∀ (i : Nat) (v : kV), L[i]? = some (some v) → ls[i]? = some (.val (k_rv E v)) ∧ k_ok v
/-- a return, at pc, with the stack S, of r -/
def k_rt (M : kMd) (pc : Nat) (S : List kV) (r : Option kV) : Prop :=
  (∃ (z : Int) (ty : FieldType), S = [kI z] ∧ r = some (kI z) ∧ decode M.2.1 pc = .ok (.ireturn, 1) ∧ M.2.2.2 = some ty ∧ narrow ty (.int (Int32.ofInt z)) = .int (Int32.ofInt z)) ∨
  (S = [] ∧ r = none ∧ decode M.2.1 pc = .ok (.return_, 1) ∧ M.2.2.2 = none)
def k_cx (E : kEnv) (M : kMd) (d : Nat) (p : Program) (R : Room) (s : State) (mm : MethodId) (args : Array Value) (meth : Method) (c : Code) : Prop :=
  p.tables.exec = Jvm.exec ∧ c.code = M.2.1 ∧ c.maxLocals = M.2.2.1 ∧ s.vm.findClass M.1.cls = some mm.cls ∧ (∀ w ∈ k_KT, w.before args s = true) ∧ (M.1.name = "<init>" → meth.name = "<init>") ∧ k_stat E s ∧ d ≤ R.frames ∧ 45 * d ≤ R.locals ∧ kb E ≤ s.heap.size
/-- where a walk stands that ends in a return of r with the cells h2, for which Q holds, and makes at most mc cells of ms slots -/
def kW (E : kEnv) (d mc ms : Nat) (M : kMd) (pc : Nat) (L : kLs) (S : List kV) (h : kH) (Q : Option kV → kH → Prop) : Prop :=
  ∀ (p : Program) (e : Env) (R : Room) (s : State) (mm : MethodId) (args : Array Value) (below : List Frame) (meth : Method) (c : Code) (H : Heap) (ls : Array Slot) (locs : List Loc) (cells slots : Nat) (QQ : State → Prop),
    k_cx E M d p R s mm args meth c → cells + mc ≤ R.cells → slots + ms ≤ R.slots → k_lr E M.2.2.1 L ls → (∀ v ∈ S, k_ok v) → k_okH (kX E) h → k_rel E h H → va_S (k_A E) s.heap H locs →
    (∀ (ls2 : Array Slot) (S2 : List kV) (pc2 : Nat) (h2 : kH) (H2 : Heap) (locs2 : List Loc) (cells2 slots2 : Nat) (r : Option kV), k_rt M pc2 S2 r → Q r h2 → (∀ v ∈ S2, k_ok v) → k_okH (kX E) h2 → k_rel E h2 H2 → va_S (k_A E) s.heap H2 locs2 → cells2 ≤ cells + mc → slots2 ≤ slots + ms →
      W p (kl E) e R s mm args below meth c H2 locs2 cells2 slots2 QQ (F0 mm pc2 ls2 (S2.map (k_rv E)))) →
    W p (kl E) e R s mm args below meth c H locs cells slots QQ (F0 mm pc ls (S.map (k_rv E)))
