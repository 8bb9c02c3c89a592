section
-- ===== PART A: goes FIRST, ahead of the names: the tables' words, and 'selects' of the private methods out of them =====
/-- a private method of a class that the tables say can be made, by its rows of tables_1 -/
def lw_okq (q : MethodName × Nat) : Prop := (q.1.cls ≠ "java/lang/invoke/MethodHandle" ∧ q.1.cls ≠ "java/lang/invoke/VarHandle") ∧ Cond.instantiable q.1.cls q.2 ∈ tables_1 ∧ Cond.privateMethod q.1 ∈ tables_1 ∧ Cond.instanceMethod q.1 ∈ tables_1
theorem lw_p0 : lw_okq (⟨"HookOrCrook$Text", "figuresAt", "(I)I"⟩, 3) := ⟨⟨by decide +kernel, by decide +kernel⟩, List.mem_of_getElem? (i := 25) (by decide +kernel), List.mem_of_getElem? (i := 256) (by decide +kernel), List.mem_of_getElem? (i := 257) (by decide +kernel)⟩
theorem lw_p1 : lw_okq (⟨"HookOrCrook$Text", "readNumber", "(IIII)Z"⟩, 3) := ⟨⟨by decide +kernel, by decide +kernel⟩, List.mem_of_getElem? (i := 25) (by decide +kernel), List.mem_of_getElem? (i := 263) (by decide +kernel), List.mem_of_getElem? (i := 264) (by decide +kernel)⟩
theorem lw_p2 : lw_okq (⟨"HookOrCrook$Forest", "put", "(CLHookOrCrook$Text;LHookOrCrook$State;)V"⟩, 10) := ⟨⟨by decide +kernel, by decide +kernel⟩, List.mem_of_getElem? (i := 45) (by decide +kernel), List.mem_of_getElem? (i := 275) (by decide +kernel), List.mem_of_getElem? (i := 276) (by decide +kernel)⟩
theorem lw_p3 : lw_okq (⟨"HookOrCrook$Forest", "putBough", "(LHookOrCrook$Text;LHookOrCrook$State;)V"⟩, 10) := ⟨⟨by decide +kernel, by decide +kernel⟩, List.mem_of_getElem? (i := 45) (by decide +kernel), List.mem_of_getElem? (i := 279) (by decide +kernel), List.mem_of_getElem? (i := 280) (by decide +kernel)⟩
theorem lw_p4 : lw_okq (⟨"HookOrCrook$Forest", "putTenant", "(LHookOrCrook$Text;LHookOrCrook$State;)V"⟩, 10) := ⟨⟨by decide +kernel, by decide +kernel⟩, List.mem_of_getElem? (i := 45) (by decide +kernel), List.mem_of_getElem? (i := 291) (by decide +kernel), List.mem_of_getElem? (i := 292) (by decide +kernel)⟩
theorem lw_p5 : lw_okq (⟨"HookOrCrook$Text", "has", "(C)Z"⟩, 3) := ⟨⟨by decide +kernel, by decide +kernel⟩, List.mem_of_getElem? (i := 25) (by decide +kernel), List.mem_of_getElem? (i := 354) (by decide +kernel), List.mem_of_getElem? (i := 355) (by decide +kernel)⟩
theorem lw_p6 : lw_okq (⟨"HookOrCrook$Forest", "isInReach", "(LHookOrCrook$State;II)Z"⟩, 10) := ⟨⟨by decide +kernel, by decide +kernel⟩, List.mem_of_getElem? (i := 45) (by decide +kernel), List.mem_of_getElem? (i := 454) (by decide +kernel), List.mem_of_getElem? (i := 455) (by decide +kernel)⟩
theorem lw_p7 : lw_okq (⟨"HookOrCrook$Pile", "dropOldest", "()V"⟩, 2) := ⟨⟨by decide +kernel, by decide +kernel⟩, List.mem_of_getElem? (i := 112) (by decide +kernel), List.mem_of_getElem? (i := 477) (by decide +kernel), List.mem_of_getElem? (i := 478) (by decide +kernel)⟩
theorem lw_p8 : lw_okq (⟨"HookOrCrook$Course", "isOver", "()Z"⟩, 2) := ⟨⟨by decide +kernel, by decide +kernel⟩, List.mem_of_getElem? (i := 132) (by decide +kernel), List.mem_of_getElem? (i := 535) (by decide +kernel), List.mem_of_getElem? (i := 536) (by decide +kernel)⟩
theorem lw_p9 : lw_okq (⟨"HookOrCrook$Course", "gatherToday", "()V"⟩, 2) := ⟨⟨by decide +kernel, by decide +kernel⟩, List.mem_of_getElem? (i := 132) (by decide +kernel), List.mem_of_getElem? (i := 548) (by decide +kernel), List.mem_of_getElem? (i := 549) (by decide +kernel)⟩
theorem lw_p10 : lw_okq (⟨"HookOrCrook$Dealing", "takersOf", "(LHookOrCrook$State;I)I"⟩, 7) := ⟨⟨by decide +kernel, by decide +kernel⟩, List.mem_of_getElem? (i := 148) (by decide +kernel), List.mem_of_getElem? (i := 578) (by decide +kernel), List.mem_of_getElem? (i := 579) (by decide +kernel)⟩
theorem lw_p11 : lw_okq (⟨"HookOrCrook$Dealing", "keepIfBetter", "(I)V"⟩, 7) := ⟨⟨by decide +kernel, by decide +kernel⟩, List.mem_of_getElem? (i := 148) (by decide +kernel), List.mem_of_getElem? (i := 587) (by decide +kernel), List.mem_of_getElem? (i := 588) (by decide +kernel)⟩
theorem lw_p12 : lw_okq (⟨"HookOrCrook$Course", "blow", "(I)V"⟩, 2) := ⟨⟨by decide +kernel, by decide +kernel⟩, List.mem_of_getElem? (i := 132) (by decide +kernel), List.mem_of_getElem? (i := 672) (by decide +kernel), List.mem_of_getElem? (i := 673) (by decide +kernel)⟩
theorem lw_p13 : lw_okq (⟨"HookOrCrookModel", "begins", "()V"⟩, 14) := ⟨⟨by decide +kernel, by decide +kernel⟩, List.mem_of_getElem? (i := 697) (by decide +kernel), List.mem_of_getElem? (i := 703) (by decide +kernel), List.mem_of_getElem? (i := 704) (by decide +kernel)⟩
theorem lw_p14 : lw_okq (⟨"HookOrCrookModel", "boughOf", "(IIII)V"⟩, 14) := ⟨⟨by decide +kernel, by decide +kernel⟩, List.mem_of_getElem? (i := 697) (by decide +kernel), List.mem_of_getElem? (i := 707) (by decide +kernel), List.mem_of_getElem? (i := 708) (by decide +kernel)⟩
theorem lw_p15 : lw_okq (⟨"HookOrCrookModel", "tenantOf", "(III)V"⟩, 14) := ⟨⟨by decide +kernel, by decide +kernel⟩, List.mem_of_getElem? (i := 697) (by decide +kernel), List.mem_of_getElem? (i := 711) (by decide +kernel), List.mem_of_getElem? (i := 712) (by decide +kernel)⟩
def lw_privs_1 : List (MethodName × Nat) := [(⟨"HookOrCrook$Text", "figuresAt", "(I)I"⟩, 3), (⟨"HookOrCrook$Text", "readNumber", "(IIII)Z"⟩, 3), (⟨"HookOrCrook$Forest", "put", "(CLHookOrCrook$Text;LHookOrCrook$State;)V"⟩, 10), (⟨"HookOrCrook$Forest", "putBough", "(LHookOrCrook$Text;LHookOrCrook$State;)V"⟩, 10), (⟨"HookOrCrook$Forest", "putTenant", "(LHookOrCrook$Text;LHookOrCrook$State;)V"⟩, 10), (⟨"HookOrCrook$Text", "has", "(C)Z"⟩, 3), (⟨"HookOrCrook$Forest", "isInReach", "(LHookOrCrook$State;II)Z"⟩, 10), (⟨"HookOrCrook$Pile", "dropOldest", "()V"⟩, 2), (⟨"HookOrCrook$Course", "isOver", "()Z"⟩, 2), (⟨"HookOrCrook$Course", "gatherToday", "()V"⟩, 2), (⟨"HookOrCrook$Dealing", "takersOf", "(LHookOrCrook$State;I)I"⟩, 7), (⟨"HookOrCrook$Dealing", "keepIfBetter", "(I)V"⟩, 7), (⟨"HookOrCrook$Course", "blow", "(I)V"⟩, 2), (⟨"HookOrCrookModel", "begins", "()V"⟩, 14), (⟨"HookOrCrookModel", "boughOf", "(IIII)V"⟩, 14), (⟨"HookOrCrookModel", "tenantOf", "(III)V"⟩, 14)]
theorem lw_r1 : ∀ q ∈ lw_privs_1, lw_okq q := List.forall_mem_cons.mpr ⟨lw_p0, List.forall_mem_cons.mpr ⟨lw_p1, List.forall_mem_cons.mpr ⟨lw_p2, List.forall_mem_cons.mpr ⟨lw_p3, List.forall_mem_cons.mpr ⟨lw_p4, List.forall_mem_cons.mpr ⟨lw_p5, List.forall_mem_cons.mpr ⟨lw_p6, List.forall_mem_cons.mpr ⟨lw_p7, List.forall_mem_cons.mpr ⟨lw_p8, List.forall_mem_cons.mpr ⟨lw_p9, List.forall_mem_cons.mpr ⟨lw_p10, List.forall_mem_cons.mpr ⟨lw_p11, List.forall_mem_cons.mpr ⟨lw_p12, List.forall_mem_cons.mpr ⟨lw_p13, List.forall_mem_cons.mpr ⟨lw_p14, List.forall_mem_cons.mpr ⟨lw_p15, fun _ h => absurd h List.not_mem_nil⟩⟩⟩⟩⟩⟩⟩⟩⟩⟩⟩⟩⟩⟩⟩⟩
theorem lw_p16 : lw_okq (⟨"HookOrCrookModel", "lays", "()V"⟩, 14) := ⟨⟨by decide +kernel, by decide +kernel⟩, List.mem_of_getElem? (i := 697) (by decide +kernel), List.mem_of_getElem? (i := 715) (by decide +kernel), List.mem_of_getElem? (i := 716) (by decide +kernel)⟩
theorem lw_p17 : lw_okq (⟨"HookOrCrookModel", "readsAll", "()I"⟩, 14) := ⟨⟨by decide +kernel, by decide +kernel⟩, List.mem_of_getElem? (i := 697) (by decide +kernel), List.mem_of_getElem? (i := 777) (by decide +kernel), List.mem_of_getElem? (i := 778) (by decide +kernel)⟩
theorem lw_p18 : lw_okq (⟨"HookOrCrookModel", "readsItem", "(I)Z"⟩, 14) := ⟨⟨by decide +kernel, by decide +kernel⟩, List.mem_of_getElem? (i := 697) (by decide +kernel), List.mem_of_getElem? (i := 781) (by decide +kernel), List.mem_of_getElem? (i := 782) (by decide +kernel)⟩
theorem lw_p19 : lw_okq (⟨"HookOrCrookModel", "number", "(III)I"⟩, 14) := ⟨⟨by decide +kernel, by decide +kernel⟩, List.mem_of_getElem? (i := 697) (by decide +kernel), List.mem_of_getElem? (i := 785) (by decide +kernel), List.mem_of_getElem? (i := 786) (by decide +kernel)⟩
theorem lw_p20 : lw_okq (⟨"HookOrCrookModel", "letterAt", "(I)I"⟩, 14) := ⟨⟨by decide +kernel, by decide +kernel⟩, List.mem_of_getElem? (i := 697) (by decide +kernel), List.mem_of_getElem? (i := 789) (by decide +kernel), List.mem_of_getElem? (i := 790) (by decide +kernel)⟩
theorem lw_p21 : lw_okq (⟨"HookOrCrookModel", "isBough", "(I)Z"⟩, 14) := ⟨⟨by decide +kernel, by decide +kernel⟩, List.mem_of_getElem? (i := 697) (by decide +kernel), List.mem_of_getElem? (i := 804) (by decide +kernel), List.mem_of_getElem? (i := 805) (by decide +kernel)⟩
theorem lw_p22 : lw_okq (⟨"HookOrCrookModel", "isDead", "(II)Z"⟩, 14) := ⟨⟨by decide +kernel, by decide +kernel⟩, List.mem_of_getElem? (i := 697) (by decide +kernel), List.mem_of_getElem? (i := 808) (by decide +kernel), List.mem_of_getElem? (i := 809) (by decide +kernel)⟩
theorem lw_p23 : lw_okq (⟨"HookOrCrookModel", "isFallen", "(II)Z"⟩, 14) := ⟨⟨by decide +kernel, by decide +kernel⟩, List.mem_of_getElem? (i := 697) (by decide +kernel), List.mem_of_getElem? (i := 812) (by decide +kernel), List.mem_of_getElem? (i := 813) (by decide +kernel)⟩
theorem lw_p24 : lw_okq (⟨"HookOrCrookModel", "isTenant", "(I)Z"⟩, 14) := ⟨⟨by decide +kernel, by decide +kernel⟩, List.mem_of_getElem? (i := 697) (by decide +kernel), List.mem_of_getElem? (i := 820) (by decide +kernel), List.mem_of_getElem? (i := 821) (by decide +kernel)⟩
theorem lw_p25 : lw_okq (⟨"HookOrCrookModel", "isWarm", "(I)Z"⟩, 14) := ⟨⟨by decide +kernel, by decide +kernel⟩, List.mem_of_getElem? (i := 697) (by decide +kernel), List.mem_of_getElem? (i := 824) (by decide +kernel), List.mem_of_getElem? (i := 825) (by decide +kernel)⟩
theorem lw_p26 : lw_okq (⟨"HookOrCrookModel", "canNow", "(II)Z"⟩, 14) := ⟨⟨by decide +kernel, by decide +kernel⟩, List.mem_of_getElem? (i := 697) (by decide +kernel), List.mem_of_getElem? (i := 832) (by decide +kernel), List.mem_of_getElem? (i := 833) (by decide +kernel)⟩
theorem lw_p27 : lw_okq (⟨"HookOrCrookModel", "could", "(IIII)Z"⟩, 14) := ⟨⟨by decide +kernel, by decide +kernel⟩, List.mem_of_getElem? (i := 697) (by decide +kernel), List.mem_of_getElem? (i := 836) (by decide +kernel), List.mem_of_getElem? (i := 837) (by decide +kernel)⟩
theorem lw_p28 : lw_okq (⟨"HookOrCrookModel", "keeps", "()V"⟩, 14) := ⟨⟨by decide +kernel, by decide +kernel⟩, List.mem_of_getElem? (i := 697) (by decide +kernel), List.mem_of_getElem? (i := 844) (by decide +kernel), List.mem_of_getElem? (i := 845) (by decide +kernel)⟩
theorem lw_p29 : lw_okq (⟨"HookOrCrookModel", "takes", "(II)V"⟩, 14) := ⟨⟨by decide +kernel, by decide +kernel⟩, List.mem_of_getElem? (i := 697) (by decide +kernel), List.mem_of_getElem? (i := 848) (by decide +kernel), List.mem_of_getElem? (i := 849) (by decide +kernel)⟩
theorem lw_p30 : lw_okq (⟨"HookOrCrookModel", "passes", "()V"⟩, 14) := ⟨⟨by decide +kernel, by decide +kernel⟩, List.mem_of_getElem? (i := 697) (by decide +kernel), List.mem_of_getElem? (i := 856) (by decide +kernel), List.mem_of_getElem? (i := 857) (by decide +kernel)⟩
theorem lw_p31 : lw_okq (⟨"HookOrCrookModel", "holds", "()V"⟩, 14) := ⟨⟨by decide +kernel, by decide +kernel⟩, List.mem_of_getElem? (i := 697) (by decide +kernel), List.mem_of_getElem? (i := 876) (by decide +kernel), List.mem_of_getElem? (i := 877) (by decide +kernel)⟩
def lw_privs_2 : List (MethodName × Nat) := [(⟨"HookOrCrookModel", "lays", "()V"⟩, 14), (⟨"HookOrCrookModel", "readsAll", "()I"⟩, 14), (⟨"HookOrCrookModel", "readsItem", "(I)Z"⟩, 14), (⟨"HookOrCrookModel", "number", "(III)I"⟩, 14), (⟨"HookOrCrookModel", "letterAt", "(I)I"⟩, 14), (⟨"HookOrCrookModel", "isBough", "(I)Z"⟩, 14), (⟨"HookOrCrookModel", "isDead", "(II)Z"⟩, 14), (⟨"HookOrCrookModel", "isFallen", "(II)Z"⟩, 14), (⟨"HookOrCrookModel", "isTenant", "(I)Z"⟩, 14), (⟨"HookOrCrookModel", "isWarm", "(I)Z"⟩, 14), (⟨"HookOrCrookModel", "canNow", "(II)Z"⟩, 14), (⟨"HookOrCrookModel", "could", "(IIII)Z"⟩, 14), (⟨"HookOrCrookModel", "keeps", "()V"⟩, 14), (⟨"HookOrCrookModel", "takes", "(II)V"⟩, 14), (⟨"HookOrCrookModel", "passes", "()V"⟩, 14), (⟨"HookOrCrookModel", "holds", "()V"⟩, 14)]
theorem lw_r2 : ∀ q ∈ lw_privs_2, lw_okq q := List.forall_mem_cons.mpr ⟨lw_p16, List.forall_mem_cons.mpr ⟨lw_p17, List.forall_mem_cons.mpr ⟨lw_p18, List.forall_mem_cons.mpr ⟨lw_p19, List.forall_mem_cons.mpr ⟨lw_p20, List.forall_mem_cons.mpr ⟨lw_p21, List.forall_mem_cons.mpr ⟨lw_p22, List.forall_mem_cons.mpr ⟨lw_p23, List.forall_mem_cons.mpr ⟨lw_p24, List.forall_mem_cons.mpr ⟨lw_p25, List.forall_mem_cons.mpr ⟨lw_p26, List.forall_mem_cons.mpr ⟨lw_p27, List.forall_mem_cons.mpr ⟨lw_p28, List.forall_mem_cons.mpr ⟨lw_p29, List.forall_mem_cons.mpr ⟨lw_p30, List.forall_mem_cons.mpr ⟨lw_p31, fun _ h => absurd h List.not_mem_nil⟩⟩⟩⟩⟩⟩⟩⟩⟩⟩⟩⟩⟩⟩⟩⟩
theorem lw_p32 : lw_okq (⟨"HookOrCrookModel", "warmAt", "(I)I"⟩, 14) := ⟨⟨by decide +kernel, by decide +kernel⟩, List.mem_of_getElem? (i := 697) (by decide +kernel), List.mem_of_getElem? (i := 880) (by decide +kernel), List.mem_of_getElem? (i := 881) (by decide +kernel)⟩
theorem lw_p33 : lw_okq (⟨"HookOrCrookModel", "eachTakes", "()V"⟩, 14) := ⟨⟨by decide +kernel, by decide +kernel⟩, List.mem_of_getElem? (i := 697) (by decide +kernel), List.mem_of_getElem? (i := 884) (by decide +kernel), List.mem_of_getElem? (i := 885) (by decide +kernel)⟩
theorem lw_p34 : lw_okq (⟨"HookOrCrookModel", "warm", "()I"⟩, 14) := ⟨⟨by decide +kernel, by decide +kernel⟩, List.mem_of_getElem? (i := 697) (by decide +kernel), List.mem_of_getElem? (i := 888) (by decide +kernel), List.mem_of_getElem? (i := 889) (by decide +kernel)⟩
theorem lw_p35 : lw_okq (⟨"HookOrCrookModel", "lets", "()V"⟩, 14) := ⟨⟨by decide +kernel, by decide +kernel⟩, List.mem_of_getElem? (i := 697) (by decide +kernel), List.mem_of_getElem? (i := 892) (by decide +kernel), List.mem_of_getElem? (i := 893) (by decide +kernel)⟩
theorem lw_p36 : lw_okq (⟨"HookOrCrookModel", "firstOf", "(II)I"⟩, 14) := ⟨⟨by decide +kernel, by decide +kernel⟩, List.mem_of_getElem? (i := 697) (by decide +kernel), List.mem_of_getElem? (i := 916) (by decide +kernel), List.mem_of_getElem? (i := 917) (by decide +kernel)⟩
theorem lw_p37 : lw_okq (⟨"HookOrCrookModel", "weighs", "()I"⟩, 14) := ⟨⟨by decide +kernel, by decide +kernel⟩, List.mem_of_getElem? (i := 697) (by decide +kernel), List.mem_of_getElem? (i := 944) (by decide +kernel), List.mem_of_getElem? (i := 945) (by decide +kernel)⟩
def lw_privs_3 : List (MethodName × Nat) := [(⟨"HookOrCrookModel", "warmAt", "(I)I"⟩, 14), (⟨"HookOrCrookModel", "eachTakes", "()V"⟩, 14), (⟨"HookOrCrookModel", "warm", "()I"⟩, 14), (⟨"HookOrCrookModel", "lets", "()V"⟩, 14), (⟨"HookOrCrookModel", "firstOf", "(II)I"⟩, 14), (⟨"HookOrCrookModel", "weighs", "()I"⟩, 14)]
theorem lw_r3 : ∀ q ∈ lw_privs_3, lw_okq q := List.forall_mem_cons.mpr ⟨lw_p32, List.forall_mem_cons.mpr ⟨lw_p33, List.forall_mem_cons.mpr ⟨lw_p34, List.forall_mem_cons.mpr ⟨lw_p35, List.forall_mem_cons.mpr ⟨lw_p36, List.forall_mem_cons.mpr ⟨lw_p37, fun _ h => absurd h List.not_mem_nil⟩⟩⟩⟩⟩⟩
def lw_privs : List (MethodName × Nat) := lw_privs_1 ++ (lw_privs_2 ++ (lw_privs_3))
def lw_tbl : List Cond := k2_sels lw_privs ++ tables_1
theorem lw_privs_ok : ∀ q ∈ lw_privs, lw_okq q := by
  show ∀ q ∈ lw_privs_1 ++ (lw_privs_2 ++ (lw_privs_3)), lw_okq q
  exact List.forall_mem_append.mpr ⟨lw_r1, List.forall_mem_append.mpr ⟨lw_r2, lw_r3⟩⟩
def RX0 : String := "HookOrCrook$Course"
def TX0 : u_T := fun k => match k with
  | 0 => ("HookOrCrook$Course", "forest", "LHookOrCrook$Forest;", true)
  | _ => ("HookOrCrook$Course", "state", "LHookOrCrook$State;", true)
def tyX0 : Nat → FieldType := fun k => match k with
  | 0 => .object "HookOrCrook$Forest"
  | _ => .object "HookOrCrook$State"
abbrev wsX00 : List Cond := u_ws RX0 TX0 2
theorem nmX0 : ∀ a, a < 2 → ∀ b, b < 2 → a ≠ b → (TX0 a).2.1 ≠ (TX0 b).2.1 := by decide +kernel
theorem tyX0_ok : ∀ k, k < 2 → parseFieldDescriptor (TX0 k).2.2.1 = some (tyX0 k) := by decide +kernel
abbrev cX0_init : ByteArray := prog_2_method_1_code
def yX0_init : MethodName := ⟨RX0, "<init>", "(LHookOrCrook$Forest;)V"⟩
abbrev cX0_begin : ByteArray := prog_2_method_2_code
def yX0_begin : MethodName := ⟨RX0, "begin", "(LHookOrCrook$State;)V"⟩
abbrev cX0_shortenHooks : ByteArray := prog_2_method_3_code
def yX0_shortenHooks : MethodName := ⟨RX0, "shortenHooks", "(I)V"⟩
abbrev cX0_goTo : ByteArray := prog_2_method_4_code
def yX0_goTo : MethodName := ⟨RX0, "goTo", "(I)V"⟩
abbrev cX0_isOver : ByteArray := prog_2_method_5_code
def yX0_isOver : MethodName := ⟨RX0, "isOver", "()Z"⟩
abbrev cX0_firstDayAllWarm : ByteArray := prog_2_method_6_code
def yX0_firstDayAllWarm : MethodName := ⟨RX0, "firstDayAllWarm", "()I"⟩
abbrev cX0_goThroughStorm : ByteArray := prog_2_method_7_code
def yX0_goThroughStorm : MethodName := ⟨RX0, "goThroughStorm", "(II)V"⟩
abbrev cX0_draw : ByteArray := prog_2_method_8_code
def yX0_draw : MethodName := ⟨RX0, "draw", "(II)I"⟩
abbrev cX0_blow : ByteArray := prog_2_method_9_code
def yX0_blow : MethodName := ⟨RX0, "blow", "(I)V"⟩
abbrev cX0_gatherToday : ByteArray := prog_2_method_10_code
def yX0_gatherToday : MethodName := ⟨RX0, "gatherToday", "()V"⟩
def RX1 : String := "HookOrCrook$Dealing"
def TX1 : u_T := fun k => match k with
  | 0 => ("HookOrCrook$Dealing", "forest", "LHookOrCrook$Forest;", true)
  | 1 => ("HookOrCrook$Dealing", "takers", "[I", true)
  | 2 => ("HookOrCrook$Dealing", "rest", "[I", true)
  | 3 => ("HookOrCrook$Dealing", "free", "[I", true)
  | 4 => ("HookOrCrook$Dealing", "owners", "[I", true)
  | 5 => ("HookOrCrook$Dealing", "bestOwners", "[I", true)
  | _ => ("HookOrCrook$Dealing", "most", "I", false)
def tyX1 : Nat → FieldType := fun k => match k with
  | 0 => .object "HookOrCrook$Forest"
  | 1 => .array .int
  | 2 => .array .int
  | 3 => .array .int
  | 4 => .array .int
  | 5 => .array .int
  | _ => .int
abbrev wsX10 : List Cond := u_ws RX1 TX1 7
theorem nmX1 : ∀ a, a < 7 → ∀ b, b < 7 → a ≠ b → (TX1 a).2.1 ≠ (TX1 b).2.1 := by decide +kernel
theorem tyX1_ok : ∀ k, k < 7 → parseFieldDescriptor (TX1 k).2.2.1 = some (tyX1 k) := by decide +kernel
abbrev cX1_init : ByteArray := prog_3_method_1_code
def yX1_init : MethodName := ⟨RX1, "<init>", "(LHookOrCrook$Forest;)V"⟩
abbrev cX1_whoHas : ByteArray := prog_3_method_2_code
def yX1_whoHas : MethodName := ⟨RX1, "whoHas", "(I)I"⟩
abbrev cX1_find : ByteArray := prog_3_method_3_code
def yX1_find : MethodName := ⟨RX1, "find", "(LHookOrCrook$State;)V"⟩
abbrev cX1_takersOf : ByteArray := prog_3_method_4_code
def yX1_takersOf : MethodName := ⟨RX1, "takersOf", "(LHookOrCrook$State;I)I"⟩
abbrev cX1_deal : ByteArray := prog_3_method_5_code
def yX1_deal : MethodName := ⟨RX1, "deal", "(LHookOrCrook$Dealing;III)V"⟩
abbrev cX1_keepIfBetter : ByteArray := prog_3_method_6_code
def yX1_keepIfBetter : MethodName := ⟨RX1, "keepIfBetter", "(I)V"⟩
def RX2 : String := "HookOrCrook$Forest"
def TX2 : u_T := fun k => match k with
  | 0 => ("HookOrCrook$Forest", "kinds", "[I", true)
  | 1 => ("HookOrCrook$Forest", "heights", "[I", true)
  | 2 => ("HookOrCrook$Forest", "weights", "[I", true)
  | 3 => ("HookOrCrook$Forest", "strengths", "[I", true)
  | 4 => ("HookOrCrook$Forest", "hearths", "[I", true)
  | 5 => ("HookOrCrook$Forest", "boughs", "I", false)
  | 6 => ("HookOrCrook$Forest", "tenants", "I", false)
  | 7 => ("HookOrCrook$Forest", "longest", "I", false)
  | 8 => ("HookOrCrook$Forest", "round", "I", false)
  | _ => ("HookOrCrook$Forest", "falls", "I", false)
def tyX2 : Nat → FieldType := fun k => match k with
  | 0 => .array .int
  | 1 => .array .int
  | 2 => .array .int
  | 3 => .array .int
  | 4 => .array .int
  | 5 => .int
  | 6 => .int
  | 7 => .int
  | 8 => .int
  | _ => .int
abbrev wsX20 : List Cond := u_ws RX2 TX2 10
theorem nmX2 : ∀ a, a < 10 → ∀ b, b < 10 → a ≠ b → (TX2 a).2.1 ≠ (TX2 b).2.1 := by decide +kernel
theorem tyX2_ok : ∀ k, k < 10 → parseFieldDescriptor (TX2 k).2.2.1 = some (tyX2 k) := by decide +kernel
abbrev cX2_init : ByteArray := prog_4_method_1_code
def yX2_init : MethodName := ⟨RX2, "<init>", "()V"⟩
abbrev cX2_read : ByteArray := prog_4_method_2_code
def yX2_read : MethodName := ⟨RX2, "read", "(LHookOrCrook$Text;LHookOrCrook$State;)V"⟩
abbrev cX2_put : ByteArray := prog_4_method_3_code
def yX2_put : MethodName := ⟨RX2, "put", "(CLHookOrCrook$Text;LHookOrCrook$State;)V"⟩
abbrev cX2_putBough : ByteArray := prog_4_method_4_code
def yX2_putBough : MethodName := ⟨RX2, "putBough", "(LHookOrCrook$Text;LHookOrCrook$State;)V"⟩
abbrev cX2_putTenant : ByteArray := prog_4_method_5_code
def yX2_putTenant : MethodName := ⟨RX2, "putTenant", "(LHookOrCrook$Text;LHookOrCrook$State;)V"⟩
abbrev cX2_hasBough : ByteArray := prog_4_method_6_code
def yX2_hasBough : MethodName := ⟨RX2, "hasBough", "(I)Z"⟩
abbrev cX2_hasTenant : ByteArray := prog_4_method_7_code
def yX2_hasTenant : MethodName := ⟨RX2, "hasTenant", "(I)Z"⟩
abbrev cX2_kind : ByteArray := prog_4_method_8_code
def yX2_kind : MethodName := ⟨RX2, "kind", "(I)I"⟩
abbrev cX2_height : ByteArray := prog_4_method_9_code
def yX2_height : MethodName := ⟨RX2, "height", "(I)I"⟩
abbrev cX2_weight : ByteArray := prog_4_method_10_code
def yX2_weight : MethodName := ⟨RX2, "weight", "(I)I"⟩
abbrev cX2_strength : ByteArray := prog_4_method_11_code
def yX2_strength : MethodName := ⟨RX2, "strength", "(I)I"⟩
abbrev cX2_hearth : ByteArray := prog_4_method_12_code
def yX2_hearth : MethodName := ⟨RX2, "hearth", "(I)I"⟩
abbrev cX2_weightOf : ByteArray := prog_4_method_13_code
def yX2_weightOf : MethodName := ⟨RX2, "weightOf", "(I)I"⟩
abbrev cX2_isDead : ByteArray := prog_4_method_14_code
def yX2_isDead : MethodName := ⟨RX2, "isDead", "(LHookOrCrook$State;II)Z"⟩
abbrev cX2_hasFallen : ByteArray := prog_4_method_15_code
def yX2_hasFallen : MethodName := ⟨RX2, "hasFallen", "(LHookOrCrook$State;II)Z"⟩
abbrev cX2_isInReach : ByteArray := prog_4_method_16_code
def yX2_isInReach : MethodName := ⟨RX2, "isInReach", "(LHookOrCrook$State;II)Z"⟩
abbrev cX2_couldTake : ByteArray := prog_4_method_17_code
def yX2_couldTake : MethodName := ⟨RX2, "couldTake", "(LHookOrCrook$State;IIII)Z"⟩
abbrev cX2_canTake : ByteArray := prog_4_method_18_code
def yX2_canTake : MethodName := ⟨RX2, "canTake", "(LHookOrCrook$State;II)Z"⟩
abbrev cX2_isCaught : ByteArray := prog_4_method_19_code
def yX2_isCaught : MethodName := ⟨RX2, "isCaught", "(LHookOrCrook$State;II)Z"⟩
abbrev cX2_isWarm : ByteArray := prog_4_method_20_code
def yX2_isWarm : MethodName := ⟨RX2, "isWarm", "(LHookOrCrook$State;I)Z"⟩
abbrev cX2_warmOnes : ByteArray := prog_4_method_21_code
def yX2_warmOnes : MethodName := ⟨RX2, "warmOnes", "(LHookOrCrook$State;)I"⟩
abbrev cX2_areAllWarm : ByteArray := prog_4_method_22_code
def yX2_areAllWarm : MethodName := ⟨RX2, "areAllWarm", "(LHookOrCrook$State;)Z"⟩
abbrev cX2_firstDayFor : ByteArray := prog_4_method_23_code
def yX2_firstDayFor : MethodName := ⟨RX2, "firstDayFor", "(LHookOrCrook$State;II)I"⟩
abbrev cX2_nobodyEverTakes : ByteArray := prog_4_method_24_code
def yX2_nobodyEverTakes : MethodName := ⟨RX2, "nobodyEverTakes", "(LHookOrCrook$State;I)Z"⟩
def RX3 : String := "HookOrCrook$Pile"
def TX3 : u_T := fun k => match k with
  | 0 => ("HookOrCrook$Pile", "states", "[LHookOrCrook$State;", true)
  | _ => ("HookOrCrook$Pile", "many", "I", false)
def tyX3 : Nat → FieldType := fun k => match k with
  | 0 => .array (.object "HookOrCrook$State")
  | _ => .int
abbrev wsX30 : List Cond := u_ws RX3 TX3 2
theorem nmX3 : ∀ a, a < 2 → ∀ b, b < 2 → a ≠ b → (TX3 a).2.1 ≠ (TX3 b).2.1 := by decide +kernel
theorem tyX3_ok : ∀ k, k < 2 → parseFieldDescriptor (TX3 k).2.2.1 = some (tyX3 k) := by decide +kernel
abbrev cX3_init : ByteArray := prog_5_method_1_code
def yX3_init : MethodName := ⟨RX3, "<init>", "(I)V"⟩
abbrev cX3_isFull : ByteArray := prog_5_method_2_code
def yX3_isFull : MethodName := ⟨RX3, "isFull", "()Z"⟩
abbrev cX3_clear : ByteArray := prog_5_method_3_code
def yX3_clear : MethodName := ⟨RX3, "clear", "()V"⟩
abbrev cX3_add : ByteArray := prog_5_method_4_code
def yX3_add : MethodName := ⟨RX3, "add", "(LHookOrCrook$State;)V"⟩
abbrev cX3_moveLastTo : ByteArray := prog_5_method_5_code
def yX3_moveLastTo : MethodName := ⟨RX3, "moveLastTo", "(LHookOrCrook$State;)V"⟩
abbrev cX3_dropOldest : ByteArray := prog_5_method_6_code
def yX3_dropOldest : MethodName := ⟨RX3, "dropOldest", "()V"⟩
def RX4 : String := "HookOrCrook$State"
def TX4 : u_T := fun k => match k with
  | 0 => ("HookOrCrook$State", "cells", "[I", true)
  | 1 => ("HookOrCrook$State", "day", "I", false)
  | _ => ("HookOrCrook$State", "gone", "I", false)
def tyX4 : Nat → FieldType := fun k => match k with
  | 0 => .array .int
  | 1 => .int
  | _ => .int
abbrev wsX40 : List Cond := u_ws RX4 TX4 3
theorem nmX4 : ∀ a, a < 3 → ∀ b, b < 3 → a ≠ b → (TX4 a).2.1 ≠ (TX4 b).2.1 := by decide +kernel
theorem tyX4_ok : ∀ k, k < 3 → parseFieldDescriptor (TX4 k).2.2.1 = some (tyX4 k) := by decide +kernel
abbrev cX4_init : ByteArray := prog_6_method_1_code
def yX4_init : MethodName := ⟨RX4, "<init>", "()V"⟩
abbrev cX4_become : ByteArray := prog_6_method_2_code
def yX4_become : MethodName := ⟨RX4, "become", "(LHookOrCrook$State;)V"⟩
abbrev cX4_clear : ByteArray := prog_6_method_3_code
def yX4_clear : MethodName := ⟨RX4, "clear", "()V"⟩
abbrev cX4_deadFrom : ByteArray := prog_6_method_4_code
def yX4_deadFrom : MethodName := ⟨RX4, "deadFrom", "(I)I"⟩
abbrev cX4_setDeadFrom : ByteArray := prog_6_method_5_code
def yX4_setDeadFrom : MethodName := ⟨RX4, "setDeadFrom", "(II)V"⟩
abbrev cX4_isGone : ByteArray := prog_6_method_6_code
def yX4_isGone : MethodName := ⟨RX4, "isGone", "(I)Z"⟩
abbrev cX4_stack : ByteArray := prog_6_method_7_code
def yX4_stack : MethodName := ⟨RX4, "stack", "(I)I"⟩
abbrev cX4_reach : ByteArray := prog_6_method_8_code
def yX4_reach : MethodName := ⟨RX4, "reach", "(I)I"⟩
abbrev cX4_setReach : ByteArray := prog_6_method_9_code
def yX4_setReach : MethodName := ⟨RX4, "setReach", "(II)V"⟩
abbrev cX4_carried : ByteArray := prog_6_method_10_code
def yX4_carried : MethodName := ⟨RX4, "carried", "(I)I"⟩
abbrev cX4_pick : ByteArray := prog_6_method_11_code
def yX4_pick : MethodName := ⟨RX4, "pick", "(III)V"⟩
abbrev cX4_loseStack : ByteArray := prog_6_method_12_code
def yX4_loseStack : MethodName := ⟨RX4, "loseStack", "(I)V"⟩
abbrev cX4_goBy : ByteArray := prog_6_method_13_code
def yX4_goBy : MethodName := ⟨RX4, "goBy", "(I)V"⟩
def RX5 : String := "HookOrCrook$Text"
def TX5 : u_T := fun k => match k with
  | 0 => ("HookOrCrook$Text", "letters", "[C", true)
  | 1 => ("HookOrCrook$Text", "numbers", "[I", true)
  | _ => ("HookOrCrook$Text", "length", "I", false)
def tyX5 : Nat → FieldType := fun k => match k with
  | 0 => .array .char
  | 1 => .array .int
  | _ => .int
abbrev wsX50 : List Cond := u_ws RX5 TX5 3
theorem nmX5 : ∀ a, a < 3 → ∀ b, b < 3 → a ≠ b → (TX5 a).2.1 ≠ (TX5 b).2.1 := by decide +kernel
theorem tyX5_ok : ∀ k, k < 3 → parseFieldDescriptor (TX5 k).2.2.1 = some (tyX5 k) := by decide +kernel
abbrev cX5_init : ByteArray := prog_7_method_1_code
def yX5_init : MethodName := ⟨RX5, "<init>", "()V"⟩
abbrev cX5_isFull : ByteArray := prog_7_method_2_code
def yX5_isFull : MethodName := ⟨RX5, "isFull", "()Z"⟩
abbrev cX5_add : ByteArray := prog_7_method_3_code
def yX5_add : MethodName := ⟨RX5, "add", "(C)V"⟩
abbrev cX5_become : ByteArray := prog_7_method_4_code
def yX5_become : MethodName := ⟨RX5, "become", "(Ljava/lang/String;)V"⟩
abbrev cX5_letter : ByteArray := prog_7_method_5_code
def yX5_letter : MethodName := ⟨RX5, "letter", "(I)C"⟩
abbrev cX5_number : ByteArray := prog_7_method_6_code
def yX5_number : MethodName := ⟨RX5, "number", "(I)I"⟩
abbrev cX5_firstFault : ByteArray := prog_7_method_7_code
def yX5_firstFault : MethodName := ⟨RX5, "firstFault", "()I"⟩
abbrev cX5_canBeLaid : ByteArray := prog_7_method_8_code
def yX5_canBeLaid : MethodName := ⟨RX5, "canBeLaid", "()Z"⟩
abbrev cX5_has : ByteArray := prog_7_method_9_code
def yX5_has : MethodName := ⟨RX5, "has", "(C)Z"⟩
abbrev cX5_readItem : ByteArray := prog_7_method_10_code
def yX5_readItem : MethodName := ⟨RX5, "readItem", "(I)I"⟩
abbrev cX5_readNumber : ByteArray := prog_7_method_11_code
def yX5_readNumber : MethodName := ⟨RX5, "readNumber", "(IIII)Z"⟩
abbrev cX5_figuresAt : ByteArray := prog_7_method_12_code
def yX5_figuresAt : MethodName := ⟨RX5, "figuresAt", "(I)I"⟩
abbrev cX5_isFigure : ByteArray := prog_7_method_13_code
def yX5_isFigure : MethodName := ⟨RX5, "isFigure", "(C)Z"⟩
abbrev cX5_howManyNumbers : ByteArray := prog_7_method_14_code
def yX5_howManyNumbers : MethodName := ⟨RX5, "howManyNumbers", "(C)I"⟩
abbrev cX5_firstLimit : ByteArray := prog_7_method_15_code
def yX5_firstLimit : MethodName := ⟨RX5, "firstLimit", "(C)I"⟩
def RX6 : String := "HookOrCrook"
def TX6 : u_T := fun k => match k with
  | 0 => ("HookOrCrook", "text", "LHookOrCrook$Text;", true)
  | 1 => ("HookOrCrook", "forest", "LHookOrCrook$Forest;", true)
  | 2 => ("HookOrCrook", "now", "LHookOrCrook$State;", true)
  | 3 => ("HookOrCrook", "past", "LHookOrCrook$Pile;", true)
  | 4 => ("HookOrCrook", "kept", "LHookOrCrook$Pile;", true)
  | 5 => ("HookOrCrook", "course", "LHookOrCrook$Course;", true)
  | _ => ("HookOrCrook", "dealing", "LHookOrCrook$Dealing;", true)
def tyX6 : Nat → FieldType := fun k => match k with
  | 0 => .object "HookOrCrook$Text"
  | 1 => .object "HookOrCrook$Forest"
  | 2 => .object "HookOrCrook$State"
  | 3 => .object "HookOrCrook$Pile"
  | 4 => .object "HookOrCrook$Pile"
  | 5 => .object "HookOrCrook$Course"
  | _ => .object "HookOrCrook$Dealing"
abbrev wsX60 : List Cond := u_ws RX6 TX6 7
theorem nmX6 : ∀ a, a < 7 → ∀ b, b < 7 → a ≠ b → (TX6 a).2.1 ≠ (TX6 b).2.1 := by decide +kernel
theorem tyX6_ok : ∀ k, k < 7 → parseFieldDescriptor (TX6 k).2.2.1 = some (tyX6 k) := by decide +kernel
abbrev cX6_init : ByteArray := prog_1_method_1_code
def yX6_init : MethodName := ⟨RX6, "<init>", "()V"⟩
abbrev cX6_write : ByteArray := prog_1_method_2_code
def yX6_write : MethodName := ⟨RX6, "write", "(I)I"⟩
abbrev cX6_wipe : ByteArray := prog_1_method_3_code
def yX6_wipe : MethodName := ⟨RX6, "wipe", "()I"⟩
abbrev cX6_fault : ByteArray := prog_1_method_4_code
def yX6_fault : MethodName := ⟨RX6, "fault", "()I"⟩
abbrev cX6_lay : ByteArray := prog_1_method_5_code
def yX6_lay : MethodName := ⟨RX6, "lay", "()I"⟩
abbrev cX6_bough : ByteArray := prog_1_method_6_code
def yX6_bough : MethodName := ⟨RX6, "bough", "(II)I"⟩
abbrev cX6_tenant : ByteArray := prog_1_method_7_code
def yX6_tenant : MethodName := ⟨RX6, "tenant", "(II)I"⟩
abbrev cX6_can : ByteArray := prog_1_method_8_code
def yX6_can : MethodName := ⟨RX6, "can", "(II)I"⟩
abbrev cX6_take : ByteArray := prog_1_method_9_code
def yX6_take : MethodName := ⟨RX6, "take", "(II)I"⟩
abbrev cX6_pass : ByteArray := prog_1_method_10_code
def yX6_pass : MethodName := ⟨RX6, "pass", "(I)I"⟩
abbrev cX6_hook : ByteArray := prog_1_method_11_code
def yX6_hook : MethodName := ⟨RX6, "hook", "(II)I"⟩
abbrev cX6_ring : ByteArray := prog_1_method_12_code
def yX6_ring : MethodName := ⟨RX6, "ring", "(I)I"⟩
abbrev cX6_undo : ByteArray := prog_1_method_13_code
def yX6_undo : MethodName := ⟨RX6, "undo", "()I"⟩
abbrev cX6_warmBy : ByteArray := prog_1_method_14_code
def yX6_warmBy : MethodName := ⟨RX6, "warmBy", "(I)I"⟩
abbrev cX6_allWarm : ByteArray := prog_1_method_15_code
def yX6_allWarm : MethodName := ⟨RX6, "allWarm", "()I"⟩
abbrev cX6_share : ByteArray := prog_1_method_16_code
def yX6_share : MethodName := ⟨RX6, "share", "(I)I"⟩
abbrev cX6_leastHook : ByteArray := prog_1_method_17_code
def yX6_leastHook : MethodName := ⟨RX6, "leastHook", "(I)I"⟩
abbrev cX6_pole : ByteArray := prog_1_method_18_code
def yX6_pole : MethodName := ⟨RX6, "pole", "()I"⟩
abbrev cX6_firstDay : ByteArray := prog_1_method_19_code
def yX6_firstDay : MethodName := ⟨RX6, "firstDay", "(II)I"⟩
abbrev cX6_sticks : ByteArray := prog_1_method_20_code
def yX6_sticks : MethodName := ⟨RX6, "sticks", "(II)I"⟩
abbrev cX6_whose : ByteArray := prog_1_method_21_code
def yX6_whose : MethodName := ⟨RX6, "whose", "(II)I"⟩
abbrev cX6_sure : ByteArray := prog_1_method_22_code
def yX6_sure : MethodName := ⟨RX6, "sure", "(IIII)I"⟩
abbrev cX6_waste : ByteArray := prog_1_method_23_code
def yX6_waste : MethodName := ⟨RX6, "waste", "()I"⟩
abbrev cX6_needs : ByteArray := prog_1_method_24_code
def yX6_needs : MethodName := ⟨RX6, "needs", "()I"⟩
abbrev cX6_storm : ByteArray := prog_1_method_25_code
def yX6_storm : MethodName := ⟨RX6, "storm", "(III)I"⟩
abbrev cX6_keep : ByteArray := prog_1_method_26_code
def yX6_keep : MethodName := ⟨RX6, "keep", "()I"⟩
abbrev cX6_back : ByteArray := prog_1_method_27_code
def yX6_back : MethodName := ⟨RX6, "back", "()I"⟩
abbrev cX6_count : ByteArray := prog_1_method_28_code
def yX6_count : MethodName := ⟨RX6, "count", "(I)I"⟩
abbrev cX6_isWithin : ByteArray := prog_1_method_29_code
def yX6_isWithin : MethodName := ⟨RX6, "isWithin", "(III)Z"⟩
abbrev cX6_bit : ByteArray := prog_1_method_30_code
def yX6_bit : MethodName := ⟨RX6, "bit", "(Z)I"⟩
abbrev cX6_commonWithTen : ByteArray := prog_1_method_31_code
def yX6_commonWithTen : MethodName := ⟨RX6, "commonWithTen", "(I)I"⟩
def RX7 : String := "HookOrCrookModel"
def TX7 : u_T := fun k => match k with
  | 0 => ("HookOrCrookModel", "text", "[I", true)
  | 1 => ("HookOrCrookModel", "typed", "I", false)
  | 2 => ("HookOrCrookModel", "told", "[I", true)
  | 3 => ("HookOrCrookModel", "draft", "[I", true)
  | 4 => ("HookOrCrookModel", "begun", "[I", true)
  | 5 => ("HookOrCrookModel", "s", "[I", true)
  | 6 => ("HookOrCrookModel", "past", "[I", true)
  | 7 => ("HookOrCrookModel", "known", "I", false)
  | 8 => ("HookOrCrookModel", "images", "[I", true)
  | 9 => ("HookOrCrookModel", "kept", "I", false)
  | 10 => ("HookOrCrookModel", "at", "I", false)
  | 11 => ("HookOrCrookModel", "held", "[I", true)
  | 12 => ("HookOrCrookModel", "load", "[I", true)
  | _ => ("HookOrCrookModel", "shared", "[I", true)
def tyX7 : Nat → FieldType := fun k => match k with
  | 0 => .array .int
  | 1 => .int
  | 2 => .array .int
  | 3 => .array .int
  | 4 => .array .int
  | 5 => .array .int
  | 6 => .array .int
  | 7 => .int
  | 8 => .array .int
  | 9 => .int
  | 10 => .int
  | 11 => .array .int
  | 12 => .array .int
  | _ => .array .int
abbrev wsX70 : List Cond := u_ws RX7 TX7 14
theorem nmX7 : ∀ a, a < 14 → ∀ b, b < 14 → a ≠ b → (TX7 a).2.1 ≠ (TX7 b).2.1 := by decide +kernel
theorem tyX7_ok : ∀ k, k < 14 → parseFieldDescriptor (TX7 k).2.2.1 = some (tyX7 k) := by decide +kernel
abbrev cX7_init : ByteArray := prog_9_method_1_code
def yX7_init : MethodName := ⟨RX7, "<init>", "()V"⟩
abbrev cX7_in : ByteArray := prog_9_method_3_code
def yX7_in : MethodName := ⟨RX7, "in", "(III)Z"⟩
abbrev cX7_isBough : ByteArray := prog_9_method_4_code
def yX7_isBough : MethodName := ⟨RX7, "isBough", "(I)Z"⟩
abbrev cX7_isTenant : ByteArray := prog_9_method_5_code
def yX7_isTenant : MethodName := ⟨RX7, "isTenant", "(I)Z"⟩
abbrev cX7_write : ByteArray := prog_9_method_6_code
def yX7_write : MethodName := ⟨RX7, "write", "(I)I"⟩
abbrev cX7_wipe : ByteArray := prog_9_method_7_code
def yX7_wipe : MethodName := ⟨RX7, "wipe", "()I"⟩
abbrev cX7_letterAt : ByteArray := prog_9_method_8_code
def yX7_letterAt : MethodName := ⟨RX7, "letterAt", "(I)I"⟩
abbrev cX7_isFigure : ByteArray := prog_9_method_9_code
def yX7_isFigure : MethodName := ⟨RX7, "isFigure", "(I)Z"⟩
abbrev cX7_number : ByteArray := prog_9_method_10_code
def yX7_number : MethodName := ⟨RX7, "number", "(III)I"⟩
abbrev cX7_begins : ByteArray := prog_9_method_11_code
def yX7_begins : MethodName := ⟨RX7, "begins", "()V"⟩
abbrev cX7_boughOf : ByteArray := prog_9_method_12_code
def yX7_boughOf : MethodName := ⟨RX7, "boughOf", "(IIII)V"⟩
abbrev cX7_tenantOf : ByteArray := prog_9_method_13_code
def yX7_tenantOf : MethodName := ⟨RX7, "tenantOf", "(III)V"⟩
abbrev cX7_readsItem : ByteArray := prog_9_method_14_code
def yX7_readsItem : MethodName := ⟨RX7, "readsItem", "(I)Z"⟩
abbrev cX7_readsAll : ByteArray := prog_9_method_15_code
def yX7_readsAll : MethodName := ⟨RX7, "readsAll", "()I"⟩
abbrev cX7_fault : ByteArray := prog_9_method_16_code
def yX7_fault : MethodName := ⟨RX7, "fault", "()I"⟩
abbrev cX7_lays : ByteArray := prog_9_method_17_code
def yX7_lays : MethodName := ⟨RX7, "lays", "()V"⟩
abbrev cX7_lay : ByteArray := prog_9_method_18_code
def yX7_lay : MethodName := ⟨RX7, "lay", "()I"⟩
abbrev cX7_isDead : ByteArray := prog_9_method_19_code
def yX7_isDead : MethodName := ⟨RX7, "isDead", "(II)Z"⟩
abbrev cX7_isFallen : ByteArray := prog_9_method_20_code
def yX7_isFallen : MethodName := ⟨RX7, "isFallen", "(II)Z"⟩
abbrev cX7_bough : ByteArray := prog_9_method_21_code
def yX7_bough : MethodName := ⟨RX7, "bough", "(II)I"⟩
abbrev cX7_isWarm : ByteArray := prog_9_method_22_code
def yX7_isWarm : MethodName := ⟨RX7, "isWarm", "(I)Z"⟩
abbrev cX7_tenant : ByteArray := prog_9_method_23_code
def yX7_tenant : MethodName := ⟨RX7, "tenant", "(II)I"⟩
abbrev cX7_could : ByteArray := prog_9_method_24_code
def yX7_could : MethodName := ⟨RX7, "could", "(IIII)Z"⟩
abbrev cX7_canNow : ByteArray := prog_9_method_25_code
def yX7_canNow : MethodName := ⟨RX7, "canNow", "(II)Z"⟩
abbrev cX7_keeps : ByteArray := prog_9_method_26_code
def yX7_keeps : MethodName := ⟨RX7, "keeps", "()V"⟩
abbrev cX7_can : ByteArray := prog_9_method_27_code
def yX7_can : MethodName := ⟨RX7, "can", "(II)I"⟩
abbrev cX7_takes : ByteArray := prog_9_method_28_code
def yX7_takes : MethodName := ⟨RX7, "takes", "(II)V"⟩
abbrev cX7_take : ByteArray := prog_9_method_29_code
def yX7_take : MethodName := ⟨RX7, "take", "(II)I"⟩
abbrev cX7_passes : ByteArray := prog_9_method_30_code
def yX7_passes : MethodName := ⟨RX7, "passes", "()V"⟩
abbrev cX7_pass : ByteArray := prog_9_method_31_code
def yX7_pass : MethodName := ⟨RX7, "pass", "(I)I"⟩
abbrev cX7_hook : ByteArray := prog_9_method_32_code
def yX7_hook : MethodName := ⟨RX7, "hook", "(II)I"⟩
abbrev cX7_ring : ByteArray := prog_9_method_33_code
def yX7_ring : MethodName := ⟨RX7, "ring", "(I)I"⟩
abbrev cX7_undo : ByteArray := prog_9_method_34_code
def yX7_undo : MethodName := ⟨RX7, "undo", "()I"⟩
abbrev cX7_holds : ByteArray := prog_9_method_35_code
def yX7_holds : MethodName := ⟨RX7, "holds", "()V"⟩
abbrev cX7_lets : ByteArray := prog_9_method_36_code
def yX7_lets : MethodName := ⟨RX7, "lets", "()V"⟩
abbrev cX7_eachTakes : ByteArray := prog_9_method_37_code
def yX7_eachTakes : MethodName := ⟨RX7, "eachTakes", "()V"⟩
abbrev cX7_warm : ByteArray := prog_9_method_38_code
def yX7_warm : MethodName := ⟨RX7, "warm", "()I"⟩
abbrev cX7_warmAt : ByteArray := prog_9_method_39_code
def yX7_warmAt : MethodName := ⟨RX7, "warmAt", "(I)I"⟩
abbrev cX7_warmBy : ByteArray := prog_9_method_40_code
def yX7_warmBy : MethodName := ⟨RX7, "warmBy", "(I)I"⟩
abbrev cX7_allWarm : ByteArray := prog_9_method_41_code
def yX7_allWarm : MethodName := ⟨RX7, "allWarm", "()I"⟩
abbrev cX7_share : ByteArray := prog_9_method_42_code
def yX7_share : MethodName := ⟨RX7, "share", "(I)I"⟩
abbrev cX7_leastHook : ByteArray := prog_9_method_43_code
def yX7_leastHook : MethodName := ⟨RX7, "leastHook", "(I)I"⟩
abbrev cX7_pole : ByteArray := prog_9_method_44_code
def yX7_pole : MethodName := ⟨RX7, "pole", "()I"⟩
abbrev cX7_firstOf : ByteArray := prog_9_method_45_code
def yX7_firstOf : MethodName := ⟨RX7, "firstOf", "(II)I"⟩
abbrev cX7_firstDay : ByteArray := prog_9_method_46_code
def yX7_firstDay : MethodName := ⟨RX7, "firstDay", "(II)I"⟩
abbrev cX7_sticks : ByteArray := prog_9_method_47_code
def yX7_sticks : MethodName := ⟨RX7, "sticks", "(II)I"⟩
abbrev cX7_whose : ByteArray := prog_9_method_48_code
def yX7_whose : MethodName := ⟨RX7, "whose", "(II)I"⟩
abbrev cX7_sure : ByteArray := prog_9_method_49_code
def yX7_sure : MethodName := ⟨RX7, "sure", "(IIII)I"⟩
abbrev cX7_waste : ByteArray := prog_9_method_50_code
def yX7_waste : MethodName := ⟨RX7, "waste", "()I"⟩
abbrev cX7_needs : ByteArray := prog_9_method_51_code
def yX7_needs : MethodName := ⟨RX7, "needs", "()I"⟩
abbrev cX7_weighs : ByteArray := prog_9_method_52_code
def yX7_weighs : MethodName := ⟨RX7, "weighs", "()I"⟩
abbrev cX7_storm : ByteArray := prog_9_method_53_code
def yX7_storm : MethodName := ⟨RX7, "storm", "(III)I"⟩
abbrev cX7_keep : ByteArray := prog_9_method_54_code
def yX7_keep : MethodName := ⟨RX7, "keep", "()I"⟩
abbrev cX7_back : ByteArray := prog_9_method_55_code
def yX7_back : MethodName := ⟨RX7, "back", "()I"⟩
abbrev cX7_count : ByteArray := prog_9_method_56_code
def yX7_count : MethodName := ⟨RX7, "count", "(I)I"⟩
def RJ6 : String := "java/lang/Integer"
abbrev cJ6_bitCount_0f7a4 : ByteArray := prog_10_method_49_code
def yJ6_bitCount_0f7a4 : MethodName := ⟨RJ6, "bitCount", "(I)I"⟩
def RJ9 : String := "java/lang/Math"
abbrev cJ9_max_7cf53 : ByteArray := prog_11_method_65_code
def yJ9_max_7cf53 : MethodName := ⟨RJ9, "max", "(II)I"⟩
abbrev cJ9_min_7cf53 : ByteArray := prog_11_method_69_code
def yJ9_min_7cf53 : MethodName := ⟨RJ9, "min", "(II)I"⟩
def RJ0 : String := "java/lang/String"
abbrev cJ0_length_8abf5 : ByteArray := prog_12_method_54_code
def yJ0_length_8abf5 : MethodName := ⟨RJ0, "length", "()I"⟩
abbrev cJ0_charAt_5068e : ByteArray := prog_12_method_56_code
def yJ0_charAt_5068e : MethodName := ⟨RJ0, "charAt", "(I)C"⟩
abbrev cJ0_coder_7d493 : ByteArray := prog_12_method_152_code
def yJ0_coder_7d493 : MethodName := ⟨RJ0, "coder", "()B"⟩
abbrev cJ0_isLatin1_aae02 : ByteArray := prog_12_method_154_code
def yJ0_isLatin1_aae02 : MethodName := ⟨RJ0, "isLatin1", "()Z"⟩
abbrev cJ0_checkIndex_df160 : ByteArray := prog_12_method_155_code
def yJ0_checkIndex_df160 : MethodName := ⟨RJ0, "checkIndex", "(II)V"⟩
def RJ1 : String := "java/lang/StringLatin1"
abbrev cJ1_charAt_3b067 : ByteArray := prog_13_method_2_code
def yJ1_charAt_3b067 : MethodName := ⟨RJ1, "charAt", "([BI)C"⟩
def RJ2 : String := "java/lang/StringUTF16"
abbrev cJ2_getChar_3b067 : ByteArray := prog_14_method_5_code
def yJ2_getChar_3b067 : MethodName := ⟨RJ2, "getChar", "([BI)C"⟩
abbrev cJ2_length_9d52b : ByteArray := prog_14_method_6_code
def yJ2_length_9d52b : MethodName := ⟨RJ2, "length", "([B)I"⟩
abbrev cJ2_charAt_3b067 : ByteArray := prog_14_method_83_code
def yJ2_charAt_3b067 : MethodName := ⟨RJ2, "charAt", "([BI)C"⟩
abbrev cJ2_checkIndex_2214a : ByteArray := prog_14_method_91_code
def yJ2_checkIndex_2214a : MethodName := ⟨RJ2, "checkIndex", "(I[B)V"⟩
def RJ10 : String := "java/lang/System"
def RJ3 : String := "jdk/internal/util/Preconditions"
abbrev cJ3_checkIndex_8e157 : ByteArray := prog_16_method_11_code
def yJ3_checkIndex_8e157 : MethodName := ⟨RJ3, "checkIndex", "(IILjava/util/function/BiFunction;)I"⟩
def RL : String := "HookOrCrookLaw"
abbrev cL_law : ByteArray := code
def yL_law : MethodName := ⟨RL, "law", "([I)Z"⟩
def wsL_law_r1 : List Cond := [Cond.classLink RL 7 RX6, Cond.instantiable RX6 7, Cond.initialized RX6, Cond.classLink RL 10 RX7, Cond.instantiable RX7 14, Cond.initialized RX7, Cond.methodLink RL 9 yX6_init, Cond.instanceMethod yX6_init, Cond.code yX6_init cX6_init 1 none, Cond.methodLink RX6 1 objectInit, Cond.instanceMethod objectInit, Cond.code objectInit ⟨#[0xb1]⟩ 1 none, Cond.classLink RX6 7 RX5, Cond.instantiable RX5 3, Cond.initialized RX5, Cond.fieldLink RX6 10 "HookOrCrook" "text" "LHookOrCrook$Text;", Cond.classLink RX6 16 RX2, Cond.instantiable RX2 10, Cond.initialized RX2, Cond.fieldLink RX6 19 "HookOrCrook" "forest" "LHookOrCrook$Forest;", Cond.classLink RX6 23 RX4, Cond.instantiable RX4 3, Cond.initialized RX4, Cond.fieldLink RX6 26 "HookOrCrook" "now" "LHookOrCrook$State;"]
def wsL_law_r2 : List Cond := [Cond.classLink RX6 30 RX3, Cond.instantiable RX3 2, Cond.initialized RX3, Cond.fieldLink RX6 35 "HookOrCrook" "past" "LHookOrCrook$Pile;", Cond.fieldLink RX6 39 "HookOrCrook" "kept" "LHookOrCrook$Pile;", Cond.classLink RX6 42 RX0, Cond.instantiable RX0 2, Cond.initialized RX0, Cond.fieldLink RX6 47 "HookOrCrook" "course" "LHookOrCrook$Course;", Cond.classLink RX6 51 RX1, Cond.instantiable RX1 7, Cond.initialized RX1, Cond.fieldLink RX6 54 "HookOrCrook" "dealing" "LHookOrCrook$Dealing;", Cond.fieldLink RX6 68 "HookOrCrook$Text" "length" "I", Cond.instanceMethod yX5_init, Cond.code yX5_init cX5_init 1 none, Cond.methodLink RX5 3 objectInit, Cond.arrayClass .char, Cond.fieldLink RX5 11 "HookOrCrook$Text" "letters" "[C", Cond.arrayClass .int, Cond.fieldLink RX5 15 "HookOrCrook$Text" "numbers" "[I", Cond.instanceMethod yX2_init, Cond.code yX2_init cX2_init 1 none, Cond.methodLink RX2 3 objectInit]
def wsL_law_r3 : List Cond := [Cond.fieldLink RX2 9 "HookOrCrook$Forest" "kinds" "[I", Cond.fieldLink RX2 15 "HookOrCrook$Forest" "heights" "[I", Cond.fieldLink RX2 18 "HookOrCrook$Forest" "weights" "[I", Cond.fieldLink RX2 21 "HookOrCrook$Forest" "strengths" "[I", Cond.fieldLink RX2 24 "HookOrCrook$Forest" "hearths" "[I", Cond.instanceMethod yX4_init, Cond.code yX4_init cX4_init 1 none, Cond.methodLink RX4 5 objectInit, Cond.fieldLink RX4 11 "HookOrCrook$State" "cells" "[I", Cond.methodLink RX6 32 yX3_init, Cond.instanceMethod yX3_init, Cond.code yX3_init cX3_init 3 none, Cond.methodLink RX3 1 objectInit, Cond.methodLink RX3 7 Lib.Math.max.name, Cond.static Lib.Math.max.name, Cond.initialized "java/lang/Math", Cond.code Lib.Math.max.name Lib.Math.max.code 2 (some .int), Cond.classLink RX3 13 RX4, Cond.fieldLink RX3 15 "HookOrCrook$Pile" "states" "[LHookOrCrook$State;", Cond.methodLink RX6 44 yX0_init, Cond.instanceMethod yX0_init, Cond.code yX0_init cX0_init 2 none, Cond.methodLink RX0 3 objectInit, Cond.classLink RX0 9 RX4]
def wsL_law_r4 : List Cond := [Cond.fieldLink RX0 12 "HookOrCrook$Course" "state" "LHookOrCrook$State;", Cond.fieldLink RX0 18 "HookOrCrook$Course" "forest" "LHookOrCrook$Forest;", Cond.methodLink RX6 53 yX1_init, Cond.instanceMethod yX1_init, Cond.code yX1_init cX1_init 2 none, Cond.methodLink RX1 3 objectInit, Cond.fieldLink RX1 9 "HookOrCrook$Dealing" "takers" "[I", Cond.fieldLink RX1 15 "HookOrCrook$Dealing" "rest" "[I", Cond.fieldLink RX1 18 "HookOrCrook$Dealing" "free" "[I", Cond.fieldLink RX1 21 "HookOrCrook$Dealing" "owners" "[I", Cond.fieldLink RX1 24 "HookOrCrook$Dealing" "bestOwners" "[I", Cond.fieldLink RX1 27 "HookOrCrook$Dealing" "forest" "LHookOrCrook$Forest;", Cond.methodLink RX6 60 yX5_become, Cond.instanceMethod yX5_become, Cond.selects RX5 yX5_become yX5_become, Cond.code yX5_become cX5_become 3 none, Cond.fieldLink RX5 19 "HookOrCrook$Text" "length" "I", Cond.methodLink RX5 23 yJ0_length_8abf5, Cond.instanceMethod yJ0_length_8abf5, Cond.selects RJ0 yJ0_length_8abf5 yJ0_length_8abf5, Cond.initialized RJ0, Cond.code yJ0_length_8abf5 cJ0_length_8abf5 1 (some .int), Cond.fieldLink RJ0 9 "java/lang/String" "value" "[B", Cond.methodLink RJ0 335 yJ0_coder_7d493]
def wsL_law_r5 : List Cond := [Cond.instanceMethod yJ0_coder_7d493, Cond.selects RJ0 yJ0_coder_7d493 yJ0_coder_7d493, Cond.code yJ0_coder_7d493 cJ0_coder_7d493 1 (some .byte), Cond.fieldLink RJ0 38 "java/lang/String" "COMPACT_STRINGS" "Z", Cond.fieldLink RJ0 15 "java/lang/String" "coder" "B", Cond.methodLink RX5 28 yJ0_charAt_5068e, Cond.instanceMethod yJ0_charAt_5068e, Cond.selects RJ0 yJ0_charAt_5068e yJ0_charAt_5068e, Cond.code yJ0_charAt_5068e cJ0_charAt_5068e 2 (some .char), Cond.methodLink RJ0 492 yJ0_isLatin1_aae02, Cond.instanceMethod yJ0_isLatin1_aae02, Cond.selects RJ0 yJ0_isLatin1_aae02 yJ0_isLatin1_aae02, Cond.code yJ0_isLatin1_aae02 cJ0_isLatin1_aae02 1 (some .boolean), Cond.methodLink RJ0 495 yJ1_charAt_3b067, Cond.static yJ1_charAt_3b067, Cond.initialized RJ1, Cond.code yJ1_charAt_3b067 cJ1_charAt_3b067 2 (some .char), Cond.methodLink RJ1 9 yJ0_checkIndex_df160, Cond.static yJ0_checkIndex_df160, Cond.code yJ0_checkIndex_df160 cJ0_checkIndex_df160 2 none, Cond.fieldLink RJ0 1053 "jdk/internal/util/Preconditions" "SIOOBE_FORMATTER" "Ljava/util/function/BiFunction;", Cond.methodLink RJ0 1059 yJ3_checkIndex_8e157, Cond.static yJ3_checkIndex_8e157, Cond.initialized RJ3]
def wsL_law_r6 : List Cond := [Cond.code yJ3_checkIndex_8e157 cJ3_checkIndex_8e157 3 (some .int), Cond.methodLink RJ0 498 yJ2_charAt_3b067, Cond.static yJ2_charAt_3b067, Cond.initialized RJ2, Cond.code yJ2_charAt_3b067 cJ2_charAt_3b067 2 (some .char), Cond.methodLink RJ2 67 yJ2_checkIndex_2214a, Cond.static yJ2_checkIndex_2214a, Cond.code yJ2_checkIndex_2214a cJ2_checkIndex_2214a 2 none, Cond.methodLink RJ2 48 yJ2_length_9d52b, Cond.static yJ2_length_9d52b, Cond.code yJ2_length_9d52b cJ2_length_9d52b 1 (some .int), Cond.methodLink RJ2 414 yJ0_checkIndex_df160, Cond.methodLink RJ2 71 yJ2_getChar_3b067, Cond.static yJ2_getChar_3b067, Cond.code yJ2_getChar_3b067 cJ2_getChar_3b067 2 (some .char), Cond.fieldLink RJ2 44 "java/lang/StringUTF16" "$assertionsDisabled" "Z", Cond.fieldLink RJ2 59 "java/lang/StringUTF16" "HI_BYTE_SHIFT" "I", Cond.fieldLink RJ2 63 "java/lang/StringUTF16" "LO_BYTE_SHIFT" "I", Cond.methodLink RX5 32 yX5_add, Cond.instanceMethod yX5_add, Cond.selects RX5 yX5_add yX5_add, Cond.code yX5_add cX5_add 2 none, Cond.methodLink RX6 64 yX2_read, Cond.instanceMethod yX2_read]
def wsL_law_r7 : List Cond := [Cond.selects RX2 yX2_read yX2_read, Cond.code yX2_read cX2_read 6 none, Cond.fieldLink RX2 27 "HookOrCrook$Forest" "boughs" "I", Cond.fieldLink RX2 31 "HookOrCrook$Forest" "tenants" "I", Cond.fieldLink RX2 34 "HookOrCrook$Forest" "longest" "I", Cond.fieldLink RX2 37 "HookOrCrook$Forest" "round" "I", Cond.fieldLink RX2 40 "HookOrCrook$Forest" "falls" "I", Cond.fieldLink RX2 50 "HookOrCrook$Text" "length" "I", Cond.methodLink RX2 43 yX4_clear, Cond.instanceMethod yX4_clear, Cond.selects RX4 yX4_clear yX4_clear, Cond.code yX4_clear cX4_clear 2 none, Cond.fieldLink RX4 15 "HookOrCrook$State" "day" "I", Cond.fieldLink RX4 19 "HookOrCrook$State" "gone" "I", Cond.methodLink RX2 53 yX5_readItem, Cond.instanceMethod yX5_readItem, Cond.selects RX5 yX5_readItem yX5_readItem, Cond.code yX5_readItem cX5_readItem 7 (some .int), Cond.methodLink RX5 40 yX5_letter, Cond.instanceMethod yX5_letter, Cond.selects RX5 yX5_letter yX5_letter, Cond.code yX5_letter cX5_letter 2 (some .char), Cond.methodLink RX5 50 yX5_firstLimit, Cond.static yX5_firstLimit]
def wsL_law_r8 : List Cond := [Cond.code yX5_firstLimit cX5_firstLimit 1 (some .int), Cond.methodLink RX5 54 yX5_howManyNumbers, Cond.static yX5_howManyNumbers, Cond.code yX5_howManyNumbers cX5_howManyNumbers 1 (some .int), Cond.methodLink RX5 57 yX5_figuresAt, Cond.instanceMethod yX5_figuresAt, Cond.selects RX5 yX5_figuresAt yX5_figuresAt, Cond.code yX5_figuresAt cX5_figuresAt 2 (some .int), Cond.methodLink RX5 74 yX5_isFigure, Cond.static yX5_isFigure, Cond.code yX5_isFigure cX5_isFigure 1 (some .boolean), Cond.methodLink RX5 60 yX5_readNumber, Cond.instanceMethod yX5_readNumber, Cond.selects RX5 yX5_readNumber yX5_readNumber, Cond.code yX5_readNumber cX5_readNumber 6 (some .boolean), Cond.fieldLink RX5 64 "HookOrCrook$Text" "LEAST" "[I", Cond.fieldLink RX5 67 "HookOrCrook$Text" "MOST" "[I", Cond.static yX6_isWithin, Cond.code yX6_isWithin cX6_isWithin 3 (some .boolean), Cond.methodLink RX2 57 yX5_letter, Cond.methodLink RX2 61 yX2_put, Cond.instanceMethod yX2_put, Cond.selects RX2 yX2_put yX2_put, Cond.code yX2_put cX2_put 4 none]
def wsL_law_r9 : List Cond := [Cond.methodLink RX2 65 yX2_putBough, Cond.instanceMethod yX2_putBough, Cond.selects RX2 yX2_putBough yX2_putBough, Cond.code yX2_putBough cX2_putBough 3 none, Cond.methodLink RX2 72 yX5_number, Cond.instanceMethod yX5_number, Cond.selects RX5 yX5_number yX5_number, Cond.code yX5_number cX5_number 2 (some .int), Cond.methodLink RX2 75 yX4_setDeadFrom, Cond.instanceMethod yX4_setDeadFrom, Cond.selects RX4 yX4_setDeadFrom yX4_setDeadFrom, Cond.code yX4_setDeadFrom cX4_setDeadFrom 3 none, Cond.methodLink RX2 69 yX2_putTenant, Cond.instanceMethod yX2_putTenant, Cond.selects RX2 yX2_putTenant yX2_putTenant, Cond.code yX2_putTenant cX2_putTenant 3 none, Cond.methodLink RX2 79 yX4_setReach, Cond.instanceMethod yX4_setReach, Cond.selects RX4 yX4_setReach yX4_setReach, Cond.code yX4_setReach cX4_setReach 3 none, Cond.methodLink RL 12 yX7_init, Cond.instanceMethod yX7_init, Cond.code yX7_init cX7_init 1 none, Cond.methodLink RX7 1 objectInit]
def wsL_law_r10 : List Cond := [Cond.fieldLink RX7 7 "HookOrCrookModel" "text" "[I", Cond.fieldLink RX7 13 "HookOrCrookModel" "told" "[I", Cond.fieldLink RX7 16 "HookOrCrookModel" "draft" "[I", Cond.fieldLink RX7 19 "HookOrCrookModel" "begun" "[I", Cond.fieldLink RX7 22 "HookOrCrookModel" "s" "[I", Cond.fieldLink RX7 25 "HookOrCrookModel" "past" "[I", Cond.fieldLink RX7 28 "HookOrCrookModel" "images" "[I", Cond.fieldLink RX7 31 "HookOrCrookModel" "held" "[I", Cond.fieldLink RX7 34 "HookOrCrookModel" "load" "[I", Cond.fieldLink RX7 37 "HookOrCrookModel" "shared" "[I", Cond.methodLink RX7 40 yX7_begins, Cond.instanceMethod yX7_begins, Cond.selects RX7 yX7_begins yX7_begins, Cond.code yX7_begins cX7_begins 2 none, Cond.methodLink RX7 43 yX7_boughOf, Cond.instanceMethod yX7_boughOf, Cond.selects RX7 yX7_boughOf yX7_boughOf, Cond.code yX7_boughOf cX7_boughOf 6 none, Cond.methodLink RX7 47 yX7_tenantOf, Cond.instanceMethod yX7_tenantOf, Cond.selects RX7 yX7_tenantOf yX7_tenantOf, Cond.code yX7_tenantOf cX7_tenantOf 5 none, Cond.methodLink RX7 51 yX7_lays, Cond.instanceMethod yX7_lays]
def wsL_law_r11 : List Cond := [Cond.selects RX7 yX7_lays yX7_lays, Cond.code yX7_lays cX7_lays 2 none, Cond.fieldLink RX7 84 "HookOrCrookModel" "known" "I", Cond.fieldLink RX7 87 "HookOrCrookModel" "kept" "I", Cond.methodLink RL 13 yX6_write, Cond.instanceMethod yX6_write, Cond.selects RX6 yX6_write yX6_write, Cond.code yX6_write cX6_write 2 (some .int), Cond.methodLink RX6 72 yX6_isWithin, Cond.methodLink RX6 76 yX5_isFull, Cond.instanceMethod yX5_isFull, Cond.selects RX5 yX5_isFull yX5_isFull, Cond.code yX5_isFull cX5_isFull 1 (some .boolean), Cond.methodLink RX6 80 yX5_add, Cond.methodLink RL 17 yX7_write, Cond.instanceMethod yX7_write, Cond.selects RX7 yX7_write yX7_write, Cond.code yX7_write cX7_write 2 (some .int), Cond.fieldLink RX7 58 "HookOrCrookModel" "typed" "I", Cond.methodLink RX7 54 yX7_in, Cond.static yX7_in, Cond.code yX7_in cX7_in 3 (some .boolean), Cond.methodLink RL 18 yX6_wipe, Cond.instanceMethod yX6_wipe]
def wsL_law_r12 : List Cond := [Cond.selects RX6 yX6_wipe yX6_wipe, Cond.code yX6_wipe cX6_wipe 2 (some .int), Cond.methodLink RL 22 yX7_wipe, Cond.instanceMethod yX7_wipe, Cond.selects RX7 yX7_wipe yX7_wipe, Cond.code yX7_wipe cX7_wipe 2 (some .int), Cond.methodLink RL 23 yX6_fault, Cond.instanceMethod yX6_fault, Cond.selects RX6 yX6_fault yX6_fault, Cond.code yX6_fault cX6_fault 1 (some .int), Cond.methodLink RX6 84 yX5_firstFault, Cond.instanceMethod yX5_firstFault, Cond.selects RX5 yX5_firstFault yX5_firstFault, Cond.code yX5_firstFault cX5_firstFault 6 (some .int), Cond.methodLink RX5 36 yX5_readItem, Cond.methodLink RL 26 yX7_fault, Cond.instanceMethod yX7_fault, Cond.selects RX7 yX7_fault yX7_fault, Cond.code yX7_fault cX7_fault 1 (some .int), Cond.methodLink RX7 80 yX7_readsAll, Cond.instanceMethod yX7_readsAll, Cond.selects RX7 yX7_readsAll yX7_readsAll, Cond.code yX7_readsAll cX7_readsAll 2 (some .int), Cond.fieldLink RX7 62 "HookOrCrookModel" "at" "I"]
def wsL_law_r13 : List Cond := [Cond.methodLink RX7 77 yX7_readsItem, Cond.instanceMethod yX7_readsItem, Cond.selects RX7 yX7_readsItem yX7_readsItem, Cond.code yX7_readsItem cX7_readsItem 6 (some .boolean), Cond.methodLink RX7 73 yX7_number, Cond.instanceMethod yX7_number, Cond.selects RX7 yX7_number yX7_number, Cond.code yX7_number cX7_number 6 (some .int), Cond.methodLink RX7 65 yX7_letterAt, Cond.instanceMethod yX7_letterAt, Cond.selects RX7 yX7_letterAt yX7_letterAt, Cond.code yX7_letterAt cX7_letterAt 2 (some .int), Cond.methodLink RX7 69 yX7_isFigure, Cond.static yX7_isFigure, Cond.code yX7_isFigure cX7_isFigure 1 (some .boolean), Cond.methodLink RL 27 yX6_lay, Cond.instanceMethod yX6_lay, Cond.selects RX6 yX6_lay yX6_lay, Cond.code yX6_lay cX6_lay 1 (some .int), Cond.fieldLink RX6 94 "HookOrCrook$Forest" "boughs" "I", Cond.methodLink RX6 88 yX5_canBeLaid, Cond.instanceMethod yX5_canBeLaid, Cond.selects RX5 yX5_canBeLaid yX5_canBeLaid, Cond.code yX5_canBeLaid cX5_canBeLaid 1 (some .boolean)]
def wsL_law_r14 : List Cond := [Cond.methodLink RX5 43 yX5_firstFault, Cond.methodLink RX5 46 yX5_has, Cond.instanceMethod yX5_has, Cond.selects RX5 yX5_has yX5_has, Cond.code yX5_has cX5_has 3 (some .boolean), Cond.methodLink RX6 91 yX3_clear, Cond.instanceMethod yX3_clear, Cond.selects RX3 yX3_clear yX3_clear, Cond.code yX3_clear cX3_clear 1 none, Cond.fieldLink RX3 22 "HookOrCrook$Pile" "many" "I", Cond.methodLink RL 30 yX7_lay, Cond.instanceMethod yX7_lay, Cond.selects RX7 yX7_lay yX7_lay, Cond.code yX7_lay cX7_lay 1 (some .int), Cond.methodLink RL 31 yX6_bough, Cond.instanceMethod yX6_bough, Cond.selects RX6 yX6_bough yX6_bough, Cond.code yX6_bough cX6_bough 3 (some .int), Cond.fieldLink RX6 114 "HookOrCrook$State" "day" "I", Cond.methodLink RX6 97 yX2_hasBough, Cond.instanceMethod yX2_hasBough, Cond.selects RX2 yX2_hasBough yX2_hasBough, Cond.code yX2_hasBough cX2_hasBough 2 (some .boolean), Cond.methodLink RX6 101 yX2_kind]
def wsL_law_r15 : List Cond := [Cond.instanceMethod yX2_kind, Cond.selects RX2 yX2_kind yX2_kind, Cond.code yX2_kind cX2_kind 2 (some .int), Cond.methodLink RX6 105 yX2_height, Cond.instanceMethod yX2_height, Cond.selects RX2 yX2_height yX2_height, Cond.code yX2_height cX2_height 2 (some .int), Cond.methodLink RX6 108 yX2_weight, Cond.instanceMethod yX2_weight, Cond.selects RX2 yX2_weight yX2_weight, Cond.code yX2_weight cX2_weight 2 (some .int), Cond.methodLink RX6 111 yX4_deadFrom, Cond.instanceMethod yX4_deadFrom, Cond.selects RX4 yX4_deadFrom yX4_deadFrom, Cond.code yX4_deadFrom cX4_deadFrom 2 (some .int), Cond.methodLink RX6 117 yX2_isDead, Cond.instanceMethod yX2_isDead, Cond.selects RX2 yX2_isDead yX2_isDead, Cond.code yX2_isDead cX2_isDead 4 (some .boolean), Cond.methodLink RX2 85 yX4_deadFrom, Cond.methodLink RX6 121 yX6_bit, Cond.static yX6_bit, Cond.code yX6_bit cX6_bit 1 (some .int), Cond.methodLink RX6 125 yX2_hasFallen]
def wsL_law_r16 : List Cond := [Cond.instanceMethod yX2_hasFallen, Cond.selects RX2 yX2_hasFallen yX2_hasFallen, Cond.code yX2_hasFallen cX2_hasFallen 4 (some .boolean), Cond.methodLink RX6 128 yX4_isGone, Cond.instanceMethod yX4_isGone, Cond.selects RX4 yX4_isGone yX4_isGone, Cond.code yX4_isGone cX4_isGone 2 (some .boolean), Cond.methodLink RL 35 yX7_bough, Cond.instanceMethod yX7_bough, Cond.selects RX7 yX7_bough yX7_bough, Cond.code yX7_bough cX7_bough 3 (some .int), Cond.methodLink RX7 90 yX7_isBough, Cond.instanceMethod yX7_isBough, Cond.selects RX7 yX7_isBough yX7_isBough, Cond.code yX7_isBough cX7_isBough 2 (some .boolean), Cond.methodLink RX7 93 yX7_isDead, Cond.instanceMethod yX7_isDead, Cond.selects RX7 yX7_isDead yX7_isDead, Cond.code yX7_isDead cX7_isDead 3 (some .boolean), Cond.methodLink RX7 97 yX7_isFallen, Cond.instanceMethod yX7_isFallen, Cond.selects RX7 yX7_isFallen yX7_isFallen, Cond.code yX7_isFallen cX7_isFallen 3 (some .boolean), Cond.methodLink RL 36 yX6_tenant]
def wsL_law_r17 : List Cond := [Cond.instanceMethod yX6_tenant, Cond.selects RX6 yX6_tenant yX6_tenant, Cond.code yX6_tenant cX6_tenant 3 (some .int), Cond.methodLink RX6 131 yX2_hasTenant, Cond.instanceMethod yX2_hasTenant, Cond.selects RX2 yX2_hasTenant yX2_hasTenant, Cond.code yX2_hasTenant cX2_hasTenant 2 (some .boolean), Cond.methodLink RX6 134 yX4_reach, Cond.instanceMethod yX4_reach, Cond.selects RX4 yX4_reach yX4_reach, Cond.code yX4_reach cX4_reach 2 (some .int), Cond.methodLink RX6 137 yX2_strength, Cond.instanceMethod yX2_strength, Cond.selects RX2 yX2_strength yX2_strength, Cond.code yX2_strength cX2_strength 2 (some .int), Cond.methodLink RX6 140 yX2_hearth, Cond.instanceMethod yX2_hearth, Cond.selects RX2 yX2_hearth yX2_hearth, Cond.code yX2_hearth cX2_hearth 2 (some .int), Cond.methodLink RX6 143 yX4_stack, Cond.instanceMethod yX4_stack, Cond.selects RX4 yX4_stack yX4_stack, Cond.code yX4_stack cX4_stack 2 (some .int), Cond.methodLink RX6 146 yX4_carried]
def wsL_law_r18 : List Cond := [Cond.instanceMethod yX4_carried, Cond.selects RX4 yX4_carried yX4_carried, Cond.code yX4_carried cX4_carried 2 (some .int), Cond.methodLink RX6 149 yX2_isWarm, Cond.instanceMethod yX2_isWarm, Cond.selects RX2 yX2_isWarm yX2_isWarm, Cond.code yX2_isWarm cX2_isWarm 3 (some .boolean), Cond.methodLink RX2 124 yX4_stack, Cond.methodLink RX2 127 yX2_hearth, Cond.methodLink RL 39 yX7_tenant, Cond.instanceMethod yX7_tenant, Cond.selects RX7 yX7_tenant yX7_tenant, Cond.code yX7_tenant cX7_tenant 3 (some .int), Cond.methodLink RX7 100 yX7_isTenant, Cond.instanceMethod yX7_isTenant, Cond.selects RX7 yX7_isTenant yX7_isTenant, Cond.code yX7_isTenant cX7_isTenant 2 (some .boolean), Cond.methodLink RX7 103 yX7_isWarm, Cond.instanceMethod yX7_isWarm, Cond.selects RX7 yX7_isWarm yX7_isWarm, Cond.code yX7_isWarm cX7_isWarm 2 (some .boolean), Cond.methodLink RL 40 yX6_can, Cond.instanceMethod yX6_can, Cond.selects RX6 yX6_can yX6_can]
def wsL_law_r19 : List Cond := [Cond.code yX6_can cX6_can 3 (some .int), Cond.methodLink RX6 153 yX2_canTake, Cond.instanceMethod yX2_canTake, Cond.selects RX2 yX2_canTake yX2_canTake, Cond.code yX2_canTake cX2_canTake 4 (some .boolean), Cond.fieldLink RX2 114 "HookOrCrook$State" "day" "I", Cond.methodLink RX2 110 yX4_isGone, Cond.methodLink RX2 117 yX4_carried, Cond.methodLink RX2 120 yX2_couldTake, Cond.instanceMethod yX2_couldTake, Cond.selects RX2 yX2_couldTake yX2_couldTake, Cond.code yX2_couldTake cX2_couldTake 6 (some .boolean), Cond.methodLink RX2 97 yX2_isDead, Cond.methodLink RX2 82 yX2_weight, Cond.methodLink RX2 101 yX2_strength, Cond.methodLink RX2 104 yX2_hasFallen, Cond.methodLink RX2 107 yX2_isInReach, Cond.instanceMethod yX2_isInReach, Cond.selects RX2 yX2_isInReach yX2_isInReach, Cond.code yX2_isInReach cX2_isInReach 4 (some .boolean), Cond.methodLink RX2 88 yX2_kind, Cond.methodLink RX2 91 yX2_height, Cond.methodLink RX2 94 yX4_reach, Cond.methodLink RL 43 yX7_can]
def wsL_law_r20 : List Cond := [Cond.instanceMethod yX7_can, Cond.selects RX7 yX7_can yX7_can, Cond.code yX7_can cX7_can 3 (some .int), Cond.methodLink RX7 110 yX7_canNow, Cond.instanceMethod yX7_canNow, Cond.selects RX7 yX7_canNow yX7_canNow, Cond.code yX7_canNow cX7_canNow 3 (some .boolean), Cond.methodLink RX7 106 yX7_could, Cond.instanceMethod yX7_could, Cond.selects RX7 yX7_could yX7_could, Cond.code yX7_could cX7_could 9 (some .boolean), Cond.methodLink RL 44 yX6_take, Cond.instanceMethod yX6_take, Cond.selects RX6 yX6_take yX6_take, Cond.code yX6_take cX6_take 4 (some .int), Cond.methodLink RX6 156 yX2_isCaught, Cond.instanceMethod yX2_isCaught, Cond.selects RX2 yX2_isCaught yX2_isCaught, Cond.code yX2_isCaught cX2_isCaught 4 (some .boolean), Cond.methodLink RX6 159 yX3_add, Cond.instanceMethod yX3_add, Cond.selects RX3 yX3_add yX3_add, Cond.code yX3_add cX3_add 2 none, Cond.methodLink RX3 26 yX3_isFull]
def wsL_law_r21 : List Cond := [Cond.instanceMethod yX3_isFull, Cond.selects RX3 yX3_isFull yX3_isFull, Cond.code yX3_isFull cX3_isFull 1 (some .boolean), Cond.methodLink RX3 30 yX3_dropOldest, Cond.instanceMethod yX3_dropOldest, Cond.selects RX3 yX3_dropOldest yX3_dropOldest, Cond.code yX3_dropOldest cX3_dropOldest 3 none, Cond.methodLink RX3 33 yX4_become, Cond.instanceMethod yX4_become, Cond.selects RX4 yX4_become yX4_become, Cond.code yX4_become cX4_become 2 none, Cond.methodLink RX4 22 arraycopyName, Cond.native arraycopyName, Cond.static arraycopyName, Cond.initialized "java/lang/System", Cond.methodLink RX6 162 yX4_pick, Cond.instanceMethod yX4_pick, Cond.selects RX4 yX4_pick yX4_pick, Cond.code yX4_pick cX4_pick 4 none, Cond.methodLink RX6 166 yX4_loseStack, Cond.instanceMethod yX4_loseStack, Cond.selects RX4 yX4_loseStack yX4_loseStack, Cond.code yX4_loseStack cX4_loseStack 2 none, Cond.methodLink RL 47 yX7_take]
def wsL_law_r22 : List Cond := [Cond.instanceMethod yX7_take, Cond.selects RX7 yX7_take yX7_take, Cond.code yX7_take cX7_take 4 (some .int), Cond.methodLink RX7 113 yX7_keeps, Cond.instanceMethod yX7_keeps, Cond.selects RX7 yX7_keeps yX7_keeps, Cond.code yX7_keeps cX7_keeps 2 none, Cond.methodLink RX7 116 yX7_takes, Cond.instanceMethod yX7_takes, Cond.selects RX7 yX7_takes yX7_takes, Cond.code yX7_takes cX7_takes 3 none, Cond.methodLink RL 48 yX6_pass, Cond.instanceMethod yX6_pass, Cond.selects RX6 yX6_pass yX6_pass, Cond.code yX6_pass cX6_pass 2 (some .int), Cond.methodLink RX6 169 yX4_goBy, Cond.instanceMethod yX4_goBy, Cond.selects RX4 yX4_goBy yX4_goBy, Cond.code yX4_goBy cX4_goBy 3 none, Cond.methodLink RL 51 yX7_pass, Cond.instanceMethod yX7_pass, Cond.selects RX7 yX7_pass yX7_pass, Cond.code yX7_pass cX7_pass 3 (some .int), Cond.methodLink RX7 120 yX7_passes]
def wsL_law_r23 : List Cond := [Cond.instanceMethod yX7_passes, Cond.selects RX7 yX7_passes yX7_passes, Cond.code yX7_passes cX7_passes 2 none, Cond.methodLink RL 52 yX6_hook, Cond.instanceMethod yX6_hook, Cond.selects RX6 yX6_hook yX6_hook, Cond.code yX6_hook cX6_hook 4 (some .int), Cond.methodLink RX6 172 yX4_setReach, Cond.methodLink RL 55 yX7_hook, Cond.instanceMethod yX7_hook, Cond.selects RX7 yX7_hook yX7_hook, Cond.code yX7_hook cX7_hook 4 (some .int), Cond.methodLink RL 56 yX6_ring, Cond.instanceMethod yX6_ring, Cond.selects RX6 yX6_ring yX6_ring, Cond.code yX6_ring cX6_ring 3 (some .int), Cond.methodLink RX6 176 yX4_setDeadFrom, Cond.methodLink RL 59 yX7_ring, Cond.instanceMethod yX7_ring, Cond.selects RX7 yX7_ring yX7_ring, Cond.code yX7_ring cX7_ring 3 (some .int), Cond.methodLink RL 60 yX6_undo, Cond.instanceMethod yX6_undo, Cond.selects RX6 yX6_undo yX6_undo]
def wsL_law_r24 : List Cond := [Cond.code yX6_undo cX6_undo 1 (some .int), Cond.fieldLink RX6 179 "HookOrCrook$Pile" "many" "I", Cond.methodLink RX6 182 yX3_moveLastTo, Cond.instanceMethod yX3_moveLastTo, Cond.selects RX3 yX3_moveLastTo yX3_moveLastTo, Cond.code yX3_moveLastTo cX3_moveLastTo 2 none, Cond.methodLink RL 63 yX7_undo, Cond.instanceMethod yX7_undo, Cond.selects RX7 yX7_undo yX7_undo, Cond.code yX7_undo cX7_undo 2 (some .int), Cond.methodLink RL 64 yX6_warmBy, Cond.instanceMethod yX6_warmBy, Cond.selects RX6 yX6_warmBy yX6_warmBy, Cond.code yX6_warmBy cX6_warmBy 2 (some .int), Cond.fieldLink RX6 191 "HookOrCrook$Course" "state" "LHookOrCrook$State;", Cond.methodLink RX6 185 yX0_begin, Cond.instanceMethod yX0_begin, Cond.selects RX0 yX0_begin yX0_begin, Cond.code yX0_begin cX0_begin 2 none, Cond.methodLink RX0 22 yX4_become, Cond.methodLink RX6 188 yX0_goTo, Cond.instanceMethod yX0_goTo, Cond.selects RX0 yX0_goTo yX0_goTo, Cond.code yX0_goTo cX0_goTo 3 none]
def wsL_law_r25 : List Cond := [Cond.fieldLink RX0 53 "HookOrCrook$State" "day" "I", Cond.methodLink RX0 46 yX0_isOver, Cond.instanceMethod yX0_isOver, Cond.selects RX0 yX0_isOver yX0_isOver, Cond.code yX0_isOver cX0_isOver 1 (some .boolean), Cond.fieldLink RX0 60 "HookOrCrook$State" "gone" "I", Cond.fieldLink RX0 63 "HookOrCrook$Forest" "boughs" "I", Cond.methodLink RX0 66 yX2_areAllWarm, Cond.instanceMethod yX2_areAllWarm, Cond.selects RX2 yX2_areAllWarm yX2_areAllWarm, Cond.code yX2_areAllWarm cX2_areAllWarm 2 (some .boolean), Cond.methodLink RX2 134 yX2_warmOnes, Cond.instanceMethod yX2_warmOnes, Cond.selects RX2 yX2_warmOnes yX2_warmOnes, Cond.code yX2_warmOnes cX2_warmOnes 4 (some .int), Cond.methodLink RX2 130 yX2_isWarm, Cond.methodLink RX0 50 yX0_gatherToday, Cond.instanceMethod yX0_gatherToday, Cond.selects RX0 yX0_gatherToday yX0_gatherToday, Cond.code yX0_gatherToday cX0_gatherToday 3 none, Cond.fieldLink RX0 26 "HookOrCrook$Forest" "tenants" "I", Cond.methodLink RX0 93 yX2_isWarm, Cond.methodLink RX0 97 yX2_canTake, Cond.methodLink RX0 101 yX2_weight]
def wsL_law_r26 : List Cond := [Cond.methodLink RX0 104 yX4_pick, Cond.methodLink RX0 56 yX4_goBy, Cond.methodLink RX6 194 yX2_warmOnes, Cond.methodLink RL 67 yX7_warmBy, Cond.instanceMethod yX7_warmBy, Cond.selects RX7 yX7_warmBy yX7_warmBy, Cond.code yX7_warmBy cX7_warmBy 3 (some .int), Cond.methodLink RX7 129 yX7_holds, Cond.instanceMethod yX7_holds, Cond.selects RX7 yX7_holds yX7_holds, Cond.code yX7_holds cX7_holds 2 none, Cond.methodLink RX7 132 yX7_warmAt, Cond.instanceMethod yX7_warmAt, Cond.selects RX7 yX7_warmAt yX7_warmAt, Cond.code yX7_warmAt cX7_warmAt 2 (some .int), Cond.methodLink RX7 123 yX7_eachTakes, Cond.instanceMethod yX7_eachTakes, Cond.selects RX7 yX7_eachTakes yX7_eachTakes, Cond.code yX7_eachTakes cX7_eachTakes 3 none, Cond.methodLink RX7 126 yX7_warm, Cond.instanceMethod yX7_warm, Cond.selects RX7 yX7_warm yX7_warm, Cond.code yX7_warm cX7_warm 3 (some .int), Cond.methodLink RX7 135 yX7_lets]
def wsL_law_r27 : List Cond := [Cond.instanceMethod yX7_lets, Cond.selects RX7 yX7_lets yX7_lets, Cond.code yX7_lets cX7_lets 2 none, Cond.methodLink RL 68 yX6_allWarm, Cond.instanceMethod yX6_allWarm, Cond.selects RX6 yX6_allWarm yX6_allWarm, Cond.code yX6_allWarm cX6_allWarm 1 (some .int), Cond.methodLink RX6 198 yX0_firstDayAllWarm, Cond.instanceMethod yX0_firstDayAllWarm, Cond.selects RX0 yX0_firstDayAllWarm yX0_firstDayAllWarm, Cond.code yX0_firstDayAllWarm cX0_firstDayAllWarm 2 (some .int), Cond.methodLink RL 71 yX7_allWarm, Cond.instanceMethod yX7_allWarm, Cond.selects RX7 yX7_allWarm yX7_allWarm, Cond.code yX7_allWarm cX7_allWarm 2 (some .int), Cond.methodLink RL 72 yX6_share, Cond.instanceMethod yX6_share, Cond.selects RX6 yX6_share yX6_share, Cond.code yX6_share cX6_share 2 (some .int), Cond.fieldLink RX6 204 "HookOrCrook$Dealing" "most" "I", Cond.methodLink RX6 201 yX1_find, Cond.instanceMethod yX1_find, Cond.selects RX1 yX1_find yX1_find, Cond.code yX1_find cX1_find 4 none]
def wsL_law_r28 : List Cond := [Cond.fieldLink RX1 56 "HookOrCrook$Dealing" "most" "I", Cond.methodLink RX1 31 yX2_hasTenant, Cond.methodLink RX1 37 yX2_strength, Cond.methodLink RX1 41 yX4_carried, Cond.methodLink RX1 46 yX2_hasBough, Cond.methodLink RX1 49 yX1_takersOf, Cond.instanceMethod yX1_takersOf, Cond.selects RX1 yX1_takersOf yX1_takersOf, Cond.code yX1_takersOf cX1_takersOf 5 (some .int), Cond.fieldLink RX1 64 "HookOrCrook$Forest" "tenants" "I", Cond.methodLink RX1 67 yX2_canTake, Cond.methodLink RX1 53 yX2_weight, Cond.methodLink RX1 60 yX1_deal, Cond.static yX1_deal, Cond.code yX1_deal cX1_deal 6 none, Cond.methodLink RX1 75 Lib.Math.min.name, Cond.static Lib.Math.min.name, Cond.code Lib.Math.min.name Lib.Math.min.code 2 (some .int), Cond.methodLink RX1 71 yX1_keepIfBetter, Cond.instanceMethod yX1_keepIfBetter, Cond.selects RX1 yX1_keepIfBetter yX1_keepIfBetter, Cond.code yX1_keepIfBetter cX1_keepIfBetter 2 none, Cond.methodLink RX1 81 arraycopyName, Cond.methodLink RX6 207 yX1_whoHas]
def wsL_law_r29 : List Cond := [Cond.instanceMethod yX1_whoHas, Cond.selects RX1 yX1_whoHas yX1_whoHas, Cond.code yX1_whoHas cX1_whoHas 2 (some .int), Cond.methodLink RL 75 yX7_share, Cond.instanceMethod yX7_share, Cond.selects RX7 yX7_share yX7_share, Cond.code yX7_share cX7_share 13 (some .int), Cond.methodLink RL 76 yX6_leastHook, Cond.instanceMethod yX6_leastHook, Cond.selects RX6 yX6_leastHook yX6_leastHook, Cond.code yX6_leastHook cX6_leastHook 3 (some .int), Cond.methodLink RL 79 yX7_leastHook, Cond.instanceMethod yX7_leastHook, Cond.selects RX7 yX7_leastHook yX7_leastHook, Cond.code yX7_leastHook cX7_leastHook 4 (some .int), Cond.methodLink RL 80 yX6_pole, Cond.instanceMethod yX6_pole, Cond.selects RX6 yX6_pole yX6_pole, Cond.code yX6_pole cX6_pole 2 (some .int), Cond.methodLink RX6 210 yX0_shortenHooks, Cond.instanceMethod yX0_shortenHooks, Cond.selects RX0 yX0_shortenHooks yX0_shortenHooks, Cond.code yX0_shortenHooks cX0_shortenHooks 3 none, Cond.methodLink RX0 36 Lib.Math.min.name]
def wsL_law_r30 : List Cond := [Cond.methodLink RX0 32 yX4_reach, Cond.methodLink RX0 42 yX4_setReach, Cond.methodLink RX6 213 yX2_areAllWarm, Cond.methodLink RL 83 yX7_pole, Cond.instanceMethod yX7_pole, Cond.selects RX7 yX7_pole yX7_pole, Cond.code yX7_pole cX7_pole 4 (some .int), Cond.methodLink RL 84 yX6_firstDay, Cond.instanceMethod yX6_firstDay, Cond.selects RX6 yX6_firstDay yX6_firstDay, Cond.code yX6_firstDay cX6_firstDay 3 (some .int), Cond.methodLink RX6 217 yX2_firstDayFor, Cond.instanceMethod yX2_firstDayFor, Cond.selects RX2 yX2_firstDayFor yX2_firstDayFor, Cond.code yX2_firstDayFor cX2_firstDayFor 5 (some .int), Cond.methodLink RL 87 yX7_firstDay, Cond.instanceMethod yX7_firstDay, Cond.selects RX7 yX7_firstDay yX7_firstDay, Cond.code yX7_firstDay cX7_firstDay 3 (some .int), Cond.methodLink RX7 138 yX7_firstOf, Cond.instanceMethod yX7_firstOf, Cond.selects RX7 yX7_firstOf yX7_firstOf, Cond.code yX7_firstOf cX7_firstOf 5 (some .int), Cond.methodLink RL 88 yX6_sticks]
def wsL_law_r31 : List Cond := [Cond.instanceMethod yX6_sticks, Cond.selects RX6 yX6_sticks yX6_sticks, Cond.code yX6_sticks cX6_sticks 6 (some .int), Cond.fieldLink RX6 221 "HookOrCrook$State" "gone" "I", Cond.methodLink RX6 224 yX2_weightOf, Cond.instanceMethod yX2_weightOf, Cond.selects RX2 yX2_weightOf yX2_weightOf, Cond.code yX2_weightOf cX2_weightOf 4 (some .int), Cond.methodLink RL 91 yX7_sticks, Cond.instanceMethod yX7_sticks, Cond.selects RX7 yX7_sticks yX7_sticks, Cond.code yX7_sticks cX7_sticks 10 (some .int), Cond.methodLink RL 92 yX6_whose, Cond.instanceMethod yX6_whose, Cond.selects RX6 yX6_whose yX6_whose, Cond.code yX6_whose cX6_whose 5 (some .int), Cond.fieldLink RX6 227 "HookOrCrook$Forest" "tenants" "I", Cond.methodLink RX6 230 yX2_couldTake, Cond.methodLink RL 95 yX7_whose, Cond.instanceMethod yX7_whose, Cond.selects RX7 yX7_whose yX7_whose, Cond.code yX7_whose cX7_whose 5 (some .int), Cond.methodLink RL 96 yX6_sure, Cond.instanceMethod yX6_sure]
def wsL_law_r32 : List Cond := [Cond.selects RX6 yX6_sure yX6_sure, Cond.code yX6_sure cX6_sure 9 (some .int), Cond.fieldLink RX6 234 "HookOrCrook$Forest" "longest" "I", Cond.methodLink RX6 237 yX6_commonWithTen, Cond.static yX6_commonWithTen, Cond.code yX6_commonWithTen cX6_commonWithTen 2 (some .int), Cond.methodLink RL 100 yX7_sure, Cond.instanceMethod yX7_sure, Cond.selects RX7 yX7_sure yX7_sure, Cond.code yX7_sure cX7_sure 10 (some .int), Cond.methodLink RL 101 yX6_waste, Cond.instanceMethod yX6_waste, Cond.selects RX6 yX6_waste yX6_waste, Cond.code yX6_waste cX6_waste 3 (some .int), Cond.methodLink RX6 240 yX2_nobodyEverTakes, Cond.instanceMethod yX2_nobodyEverTakes, Cond.selects RX2 yX2_nobodyEverTakes yX2_nobodyEverTakes, Cond.code yX2_nobodyEverTakes cX2_nobodyEverTakes 4 (some .boolean), Cond.methodLink RX2 138 yX2_firstDayFor, Cond.methodLink RL 104 yX7_waste, Cond.instanceMethod yX7_waste, Cond.selects RX7 yX7_waste yX7_waste, Cond.code yX7_waste cX7_waste 5 (some .int), Cond.methodLink RL 105 yX6_needs]
def wsL_law_r33 : List Cond := [Cond.instanceMethod yX6_needs, Cond.selects RX6 yX6_needs yX6_needs, Cond.code yX6_needs cX6_needs 3 (some .int), Cond.methodLink RX6 243 Lib.Math.max.name, Cond.methodLink RL 108 yX7_needs, Cond.instanceMethod yX7_needs, Cond.selects RX7 yX7_needs yX7_needs, Cond.code yX7_needs cX7_needs 3 (some .int), Cond.methodLink RL 109 yX6_storm, Cond.instanceMethod yX6_storm, Cond.selects RX6 yX6_storm yX6_storm, Cond.code yX6_storm cX6_storm 4 (some .int), Cond.methodLink RX6 249 yX0_goThroughStorm, Cond.instanceMethod yX0_goThroughStorm, Cond.selects RX0 yX0_goThroughStorm yX0_goThroughStorm, Cond.code yX0_goThroughStorm cX0_goThroughStorm 4 none, Cond.methodLink RX0 70 yX0_draw, Cond.static yX0_draw, Cond.code yX0_draw cX0_draw 4 (some .int), Cond.constantLong RX0 76 (7919), Cond.constantLong RX0 78 (6151), Cond.constantLong RX0 80 (65521), Cond.constantLong RX0 82 (2), Cond.methodLink RX0 73 yX0_blow]
def wsL_law_r34 : List Cond := [Cond.instanceMethod yX0_blow, Cond.selects RX0 yX0_blow yX0_blow, Cond.code yX0_blow cX0_blow 3 none, Cond.fieldLink RX0 87 "HookOrCrook$Forest" "falls" "I", Cond.methodLink RX0 84 yX4_deadFrom, Cond.methodLink RX0 90 yX4_setDeadFrom, Cond.methodLink RL 113 yX7_storm, Cond.instanceMethod yX7_storm, Cond.selects RX7 yX7_storm yX7_storm, Cond.code yX7_storm cX7_storm 11 (some .int), Cond.constantLong RX7 145 (7919), Cond.constantLong RX7 147 (6151), Cond.constantLong RX7 149 (65521), Cond.methodLink RX7 142 yX7_weighs, Cond.instanceMethod yX7_weighs, Cond.selects RX7 yX7_weighs yX7_weighs, Cond.code yX7_weighs cX7_weighs 3 (some .int), Cond.methodLink RL 114 yX6_keep, Cond.instanceMethod yX6_keep, Cond.selects RX6 yX6_keep yX6_keep, Cond.code yX6_keep cX6_keep 1 (some .int), Cond.methodLink RX6 252 yX3_isFull, Cond.methodLink RL 117 yX7_keep, Cond.instanceMethod yX7_keep]
def wsL_law_r35 : List Cond := [Cond.selects RX7 yX7_keep yX7_keep, Cond.code yX7_keep cX7_keep 2 (some .int), Cond.methodLink RL 118 yX6_back, Cond.instanceMethod yX6_back, Cond.selects RX6 yX6_back yX6_back, Cond.code yX6_back cX6_back 1 (some .int), Cond.methodLink RL 121 yX7_back, Cond.instanceMethod yX7_back, Cond.selects RX7 yX7_back yX7_back, Cond.code yX7_back cX7_back 2 (some .int), Cond.methodLink RL 122 yX6_count, Cond.instanceMethod yX6_count, Cond.selects RX6 yX6_count yX6_count, Cond.code yX6_count cX6_count 2 (some .int), Cond.fieldLink RX6 253 "HookOrCrook$Forest" "round" "I", Cond.fieldLink RX6 256 "HookOrCrook$Forest" "falls" "I", Cond.methodLink RX6 259 yJ6_bitCount_0f7a4, Cond.static yJ6_bitCount_0f7a4, Cond.initialized RJ6, Cond.code yJ6_bitCount_0f7a4 cJ6_bitCount_0f7a4 1 (some .int), Cond.constant RJ6 265 (1431655765), Cond.constant RJ6 266 (858993459), Cond.constant RJ6 267 (252645135), Cond.methodLink RL 125 yX7_count]
def wsL_law_r36 : List Cond := [Cond.instanceMethod yX7_count, Cond.selects RX7 yX7_count yX7_count, Cond.code yX7_count cX7_count 4 (some .int)]
def wsL_law : List Cond := (wsL_law_r1 ++ (wsL_law_r2 ++ (wsL_law_r3 ++ (wsL_law_r4 ++ (wsL_law_r5 ++ (wsL_law_r6 ++ (wsL_law_r7 ++ (wsL_law_r8 ++ (wsL_law_r9 ++ (wsL_law_r10 ++ (wsL_law_r11 ++ (wsL_law_r12 ++ (wsL_law_r13 ++ (wsL_law_r14 ++ (wsL_law_r15 ++ (wsL_law_r16 ++ (wsL_law_r17 ++ (wsL_law_r18 ++ (wsL_law_r19 ++ (wsL_law_r20 ++ (wsL_law_r21 ++ (wsL_law_r22 ++ (wsL_law_r23 ++ (wsL_law_r24 ++ (wsL_law_r25 ++ (wsL_law_r26 ++ (wsL_law_r27 ++ (wsL_law_r28 ++ (wsL_law_r29 ++ (wsL_law_r30 ++ (wsL_law_r31 ++ (wsL_law_r32 ++ (wsL_law_r33 ++ (wsL_law_r34 ++ (wsL_law_r35 ++ wsL_law_r36))))))))))))))))))))))))))))))))))) ++ wsX60 ++ wsX70 ++ wsX50 ++ wsX20 ++ wsX40 ++ wsX30 ++ wsX00 ++ wsX10 ++ ([] : List Cond)
set_option maxRecDepth 20000 in
theorem wsL_law_in : ∀ w ∈ wsL_law, w ∈ lw_tbl := fun w h => (goodIn_p wsL_law [58, 61, 66, 86, 132, 153, 157, 173, 189, 218, 222, 226, 232, 236, 239, 242, 247, 250, 253, 256, 260, 270, 274, 278, 282, 286, 289, 292, 296, 299, 303, 310, 315, 319, 323, 327, 331, 335, 738, 743, 747, 751, 755, 362, 367, 802, 805, 372, 809, 376, 380, 813, 817, 821, 825, 829, 832, 385, 389, 394, 398, 836, 402, 406, 410, 414, 418, 422, 426, 430, 434, 438, 840, 844, 848, 852, 442, 446, 450, 454, 458, 462, 466, 470, 856, 860, 864, 476, 480, 486, 494, 868, 872, 876, 501, 505, 509, 513, 517, 521, 528, 532, 880, 884, 888, 536, 540, 892, 896, 544, 900, 549, 904, 554, 558, 908, 562, 566, 571, 575, 579, 583, 588, 912, 916, 920, 924, 928, 932, 598, 602, 936, 606, 610, 618, 623, 631, 627, 635, 940, 639, 944, 643, 647, 948, 655, 659, 952, 956, 663, 667, 960, 671, 964, 676, 679, 968, 683, 687, 972, 692, 976, 697, 701, 704, 712, 980, 984, 718, 991, 723, 995, 727, 730, 999] (by decide +kernel) (by decide +kernel) w h).1
theorem inlX0 : ∀ w ∈ wsX00, w ∈ wsL_law := fun _ h => List.mem_append_left _ (List.mem_append_left _ (List.mem_append_right _ h))
theorem inX0 : ∀ w ∈ wsX00, w ∈ lw_tbl := fun w h => wsL_law_in w (inlX0 w h)
theorem inlX1 : ∀ w ∈ wsX10, w ∈ wsL_law := fun _ h => List.mem_append_left _ (List.mem_append_right _ h)
theorem inX1 : ∀ w ∈ wsX10, w ∈ lw_tbl := fun w h => wsL_law_in w (inlX1 w h)
theorem inlX2 : ∀ w ∈ wsX20, w ∈ wsL_law := fun _ h => List.mem_append_left _ (List.mem_append_left _ (List.mem_append_left _ (List.mem_append_left _ (List.mem_append_left _ (List.mem_append_right _ h)))))
theorem inX2 : ∀ w ∈ wsX20, w ∈ lw_tbl := fun w h => wsL_law_in w (inlX2 w h)
theorem inlX3 : ∀ w ∈ wsX30, w ∈ wsL_law := fun _ h => List.mem_append_left _ (List.mem_append_left _ (List.mem_append_left _ (List.mem_append_right _ h)))
theorem inX3 : ∀ w ∈ wsX30, w ∈ lw_tbl := fun w h => wsL_law_in w (inlX3 w h)
theorem inlX4 : ∀ w ∈ wsX40, w ∈ wsL_law := fun _ h => List.mem_append_left _ (List.mem_append_left _ (List.mem_append_left _ (List.mem_append_left _ (List.mem_append_right _ h))))
theorem inX4 : ∀ w ∈ wsX40, w ∈ lw_tbl := fun w h => wsL_law_in w (inlX4 w h)
theorem inlX5 : ∀ w ∈ wsX50, w ∈ wsL_law := fun _ h => List.mem_append_left _ (List.mem_append_left _ (List.mem_append_left _ (List.mem_append_left _ (List.mem_append_left _ (List.mem_append_left _ (List.mem_append_right _ h))))))
theorem inX5 : ∀ w ∈ wsX50, w ∈ lw_tbl := fun w h => wsL_law_in w (inlX5 w h)
theorem inlX6 : ∀ w ∈ wsX60, w ∈ wsL_law := fun _ h => List.mem_append_left _ (List.mem_append_left _ (List.mem_append_left _ (List.mem_append_left _ (List.mem_append_left _ (List.mem_append_left _ (List.mem_append_left _ (List.mem_append_left _ (List.mem_append_right _ h))))))))
theorem inX6 : ∀ w ∈ wsX60, w ∈ lw_tbl := fun w h => wsL_law_in w (inlX6 w h)
theorem inlX7 : ∀ w ∈ wsX70, w ∈ wsL_law := fun _ h => List.mem_append_left _ (List.mem_append_left _ (List.mem_append_left _ (List.mem_append_left _ (List.mem_append_left _ (List.mem_append_left _ (List.mem_append_left _ (List.mem_append_right _ h)))))))
theorem inX7 : ∀ w ∈ wsX70, w ∈ lw_tbl := fun w h => wsL_law_in w (inlX7 w h)
end
section
theorem dX0_init_0 : decode cX0_init 0 = .ok (.aload_n 0, 1) := by decide +kernel
theorem dX0_init_1 : decode cX0_init 1 = .ok (.invokespecial 3, 3) := by decide +kernel
theorem dX0_init_4 : decode cX0_init 4 = .ok (.aload_n 0, 1) := by decide +kernel
theorem dX0_init_5 : decode cX0_init 5 = .ok (.new 9, 3) := by decide +kernel
theorem dX0_init_8 : decode cX0_init 8 = .ok (.dup, 1) := by decide +kernel
theorem dX0_init_9 : decode cX0_init 9 = .ok (.invokespecial 11, 3) := by decide +kernel
theorem dX0_init_12 : decode cX0_init 12 = .ok (.putfield 12, 3) := by decide +kernel
theorem dX0_init_15 : decode cX0_init 15 = .ok (.aload_n 0, 1) := by decide +kernel
theorem dX0_init_16 : decode cX0_init 16 = .ok (.aload_n 1, 1) := by decide +kernel
theorem dX0_init_17 : decode cX0_init 17 = .ok (.putfield 18, 3) := by decide +kernel
theorem dX0_init_20 : decode cX0_init 20 = .ok (.return_, 1) := by decide +kernel
theorem dX0_begin_0 : decode cX0_begin 0 = .ok (.aload_n 0, 1) := by decide +kernel
theorem dX0_begin_1 : decode cX0_begin 1 = .ok (.getfield 12, 3) := by decide +kernel
theorem dX0_begin_4 : decode cX0_begin 4 = .ok (.aload_n 1, 1) := by decide +kernel
theorem dX0_begin_5 : decode cX0_begin 5 = .ok (.invokevirtual 22, 3) := by decide +kernel
theorem dX0_begin_8 : decode cX0_begin 8 = .ok (.return_, 1) := by decide +kernel
theorem dX0_shortenHooks_0 : decode cX0_shortenHooks 0 = .ok (.iconst 0, 1) := by decide +kernel
theorem dX0_shortenHooks_1 : decode cX0_shortenHooks 1 = .ok (.istore_n 2, 1) := by decide +kernel
theorem dX0_shortenHooks_2 : decode cX0_shortenHooks 2 = .ok (.iload_n 2, 1) := by decide +kernel
theorem dX0_shortenHooks_3 : decode cX0_shortenHooks 3 = .ok (.aload_n 0, 1) := by decide +kernel
theorem dX0_shortenHooks_4 : decode cX0_shortenHooks 4 = .ok (.getfield 18, 3) := by decide +kernel
theorem dX0_shortenHooks_7 : decode cX0_shortenHooks 7 = .ok (.getfield 26, 3) := by decide +kernel
theorem dX0_shortenHooks_10 : decode cX0_shortenHooks 10 = .ok (.if_icmp .ge 29, 3) := by decide +kernel
theorem dX0_shortenHooks_13 : decode cX0_shortenHooks 13 = .ok (.aload_n 0, 1) := by decide +kernel
theorem dX0_shortenHooks_14 : decode cX0_shortenHooks 14 = .ok (.getfield 12, 3) := by decide +kernel
theorem dX0_shortenHooks_17 : decode cX0_shortenHooks 17 = .ok (.iload_n 2, 1) := by decide +kernel
theorem dX0_shortenHooks_18 : decode cX0_shortenHooks 18 = .ok (.aload_n 0, 1) := by decide +kernel
theorem dX0_shortenHooks_19 : decode cX0_shortenHooks 19 = .ok (.getfield 12, 3) := by decide +kernel
theorem dX0_shortenHooks_22 : decode cX0_shortenHooks 22 = .ok (.iload_n 2, 1) := by decide +kernel
theorem dX0_shortenHooks_23 : decode cX0_shortenHooks 23 = .ok (.invokevirtual 32, 3) := by decide +kernel
theorem dX0_shortenHooks_26 : decode cX0_shortenHooks 26 = .ok (.iload_n 1, 1) := by decide +kernel
theorem dX0_shortenHooks_27 : decode cX0_shortenHooks 27 = .ok (.invokestatic 36, 3) := by decide +kernel
theorem dX0_shortenHooks_30 : decode cX0_shortenHooks 30 = .ok (.invokevirtual 42, 3) := by decide +kernel
theorem dX0_shortenHooks_33 : decode cX0_shortenHooks 33 = .ok (.iinc 2 1, 3) := by decide +kernel
theorem dX0_shortenHooks_36 : decode cX0_shortenHooks 36 = .ok (.goto (-34), 3) := by decide +kernel
theorem dX0_shortenHooks_39 : decode cX0_shortenHooks 39 = .ok (.return_, 1) := by decide +kernel
theorem dX0_goTo_0 : decode cX0_goTo 0 = .ok (.iconst 0, 1) := by decide +kernel
theorem dX0_goTo_1 : decode cX0_goTo 1 = .ok (.istore_n 2, 1) := by decide +kernel
theorem dX0_goTo_2 : decode cX0_goTo 2 = .ok (.iload_n 2, 1) := by decide +kernel
theorem dX0_goTo_3 : decode cX0_goTo 3 = .ok (.bipush 99, 2) := by decide +kernel
theorem dX0_goTo_5 : decode cX0_goTo 5 = .ok (.if_icmp .gt 40, 3) := by decide +kernel
theorem dX0_goTo_8 : decode cX0_goTo 8 = .ok (.aload_n 0, 1) := by decide +kernel
theorem dX0_goTo_9 : decode cX0_goTo 9 = .ok (.invokevirtual 46, 3) := by decide +kernel
theorem dX0_goTo_12 : decode cX0_goTo 12 = .ok (.ifCond .ne 33, 3) := by decide +kernel
theorem dX0_goTo_15 : decode cX0_goTo 15 = .ok (.aload_n 0, 1) := by decide +kernel
theorem dX0_goTo_16 : decode cX0_goTo 16 = .ok (.invokevirtual 50, 3) := by decide +kernel
theorem dX0_goTo_19 : decode cX0_goTo 19 = .ok (.aload_n 0, 1) := by decide +kernel
theorem dX0_goTo_20 : decode cX0_goTo 20 = .ok (.getfield 12, 3) := by decide +kernel
theorem dX0_goTo_23 : decode cX0_goTo 23 = .ok (.getfield 53, 3) := by decide +kernel
theorem dX0_goTo_26 : decode cX0_goTo 26 = .ok (.iload_n 1, 1) := by decide +kernel
theorem dX0_goTo_27 : decode cX0_goTo 27 = .ok (.if_icmp .lt 4, 3) := by decide +kernel
theorem dX0_goTo_30 : decode cX0_goTo 30 = .ok (.return_, 1) := by decide +kernel
theorem dX0_goTo_31 : decode cX0_goTo 31 = .ok (.aload_n 0, 1) := by decide +kernel
theorem dX0_goTo_32 : decode cX0_goTo 32 = .ok (.getfield 12, 3) := by decide +kernel
theorem dX0_goTo_35 : decode cX0_goTo 35 = .ok (.iconst 1, 1) := by decide +kernel
theorem dX0_goTo_36 : decode cX0_goTo 36 = .ok (.invokevirtual 56, 3) := by decide +kernel
theorem dX0_goTo_39 : decode cX0_goTo 39 = .ok (.iinc 2 1, 3) := by decide +kernel
theorem dX0_goTo_42 : decode cX0_goTo 42 = .ok (.goto (-40), 3) := by decide +kernel
theorem dX0_goTo_45 : decode cX0_goTo 45 = .ok (.return_, 1) := by decide +kernel
theorem dX0_isOver_0 : decode cX0_isOver 0 = .ok (.aload_n 0, 1) := by decide +kernel
theorem dX0_isOver_1 : decode cX0_isOver 1 = .ok (.getfield 12, 3) := by decide +kernel
theorem dX0_isOver_4 : decode cX0_isOver 4 = .ok (.getfield 60, 3) := by decide +kernel
theorem dX0_isOver_7 : decode cX0_isOver 7 = .ok (.iconst 1, 1) := by decide +kernel
theorem dX0_isOver_8 : decode cX0_isOver 8 = .ok (.aload_n 0, 1) := by decide +kernel
theorem dX0_isOver_9 : decode cX0_isOver 9 = .ok (.getfield 18, 3) := by decide +kernel
theorem dX0_isOver_12 : decode cX0_isOver 12 = .ok (.getfield 63, 3) := by decide +kernel
theorem dX0_isOver_15 : decode cX0_isOver 15 = .ok (.ishl, 1) := by decide +kernel
theorem dX0_isOver_16 : decode cX0_isOver 16 = .ok (.iconst 1, 1) := by decide +kernel
theorem dX0_isOver_17 : decode cX0_isOver 17 = .ok (.isub, 1) := by decide +kernel
theorem dX0_isOver_18 : decode cX0_isOver 18 = .ok (.if_icmp .eq 17, 3) := by decide +kernel
theorem dX0_isOver_21 : decode cX0_isOver 21 = .ok (.aload_n 0, 1) := by decide +kernel
theorem dX0_isOver_22 : decode cX0_isOver 22 = .ok (.getfield 18, 3) := by decide +kernel
theorem dX0_isOver_25 : decode cX0_isOver 25 = .ok (.aload_n 0, 1) := by decide +kernel
theorem dX0_isOver_26 : decode cX0_isOver 26 = .ok (.getfield 12, 3) := by decide +kernel
theorem dX0_isOver_29 : decode cX0_isOver 29 = .ok (.invokevirtual 66, 3) := by decide +kernel
theorem dX0_isOver_32 : decode cX0_isOver 32 = .ok (.ifCond .eq 7, 3) := by decide +kernel
theorem dX0_isOver_35 : decode cX0_isOver 35 = .ok (.iconst 1, 1) := by decide +kernel
theorem dX0_isOver_36 : decode cX0_isOver 36 = .ok (.goto 4, 3) := by decide +kernel
theorem dX0_isOver_39 : decode cX0_isOver 39 = .ok (.iconst 0, 1) := by decide +kernel
theorem dX0_isOver_40 : decode cX0_isOver 40 = .ok (.ireturn, 1) := by decide +kernel
theorem dX0_firstDayAllWarm_0 : decode cX0_firstDayAllWarm 0 = .ok (.iconst 0, 1) := by decide +kernel
theorem dX0_firstDayAllWarm_1 : decode cX0_firstDayAllWarm 1 = .ok (.istore_n 1, 1) := by decide +kernel
theorem dX0_firstDayAllWarm_2 : decode cX0_firstDayAllWarm 2 = .ok (.iload_n 1, 1) := by decide +kernel
theorem dX0_firstDayAllWarm_3 : decode cX0_firstDayAllWarm 3 = .ok (.bipush 99, 2) := by decide +kernel
theorem dX0_firstDayAllWarm_5 : decode cX0_firstDayAllWarm 5 = .ok (.if_icmp .gt 58, 3) := by decide +kernel
theorem dX0_firstDayAllWarm_8 : decode cX0_firstDayAllWarm 8 = .ok (.aload_n 0, 1) := by decide +kernel
theorem dX0_firstDayAllWarm_9 : decode cX0_firstDayAllWarm 9 = .ok (.invokevirtual 50, 3) := by decide +kernel
theorem dX0_firstDayAllWarm_12 : decode cX0_firstDayAllWarm 12 = .ok (.aload_n 0, 1) := by decide +kernel
theorem dX0_firstDayAllWarm_13 : decode cX0_firstDayAllWarm 13 = .ok (.getfield 18, 3) := by decide +kernel
theorem dX0_firstDayAllWarm_16 : decode cX0_firstDayAllWarm 16 = .ok (.aload_n 0, 1) := by decide +kernel
theorem dX0_firstDayAllWarm_17 : decode cX0_firstDayAllWarm 17 = .ok (.getfield 12, 3) := by decide +kernel
theorem dX0_firstDayAllWarm_20 : decode cX0_firstDayAllWarm 20 = .ok (.invokevirtual 66, 3) := by decide +kernel
theorem dX0_firstDayAllWarm_23 : decode cX0_firstDayAllWarm 23 = .ok (.ifCond .eq 11, 3) := by decide +kernel
theorem dX0_firstDayAllWarm_26 : decode cX0_firstDayAllWarm 26 = .ok (.aload_n 0, 1) := by decide +kernel
theorem dX0_firstDayAllWarm_27 : decode cX0_firstDayAllWarm 27 = .ok (.getfield 12, 3) := by decide +kernel
theorem dX0_firstDayAllWarm_30 : decode cX0_firstDayAllWarm 30 = .ok (.getfield 53, 3) := by decide +kernel
theorem dX0_firstDayAllWarm_33 : decode cX0_firstDayAllWarm 33 = .ok (.ireturn, 1) := by decide +kernel
theorem dX0_firstDayAllWarm_34 : decode cX0_firstDayAllWarm 34 = .ok (.aload_n 0, 1) := by decide +kernel
theorem dX0_firstDayAllWarm_35 : decode cX0_firstDayAllWarm 35 = .ok (.getfield 12, 3) := by decide +kernel
theorem dX0_firstDayAllWarm_38 : decode cX0_firstDayAllWarm 38 = .ok (.getfield 53, 3) := by decide +kernel
theorem dX0_firstDayAllWarm_41 : decode cX0_firstDayAllWarm 41 = .ok (.bipush 99, 2) := by decide +kernel
theorem dX0_firstDayAllWarm_43 : decode cX0_firstDayAllWarm 43 = .ok (.if_icmp .lt 6, 3) := by decide +kernel
theorem dX0_firstDayAllWarm_46 : decode cX0_firstDayAllWarm 46 = .ok (.bipush (-4), 2) := by decide +kernel
theorem dX0_firstDayAllWarm_48 : decode cX0_firstDayAllWarm 48 = .ok (.ireturn, 1) := by decide +kernel
theorem dX0_firstDayAllWarm_49 : decode cX0_firstDayAllWarm 49 = .ok (.aload_n 0, 1) := by decide +kernel
theorem dX0_firstDayAllWarm_50 : decode cX0_firstDayAllWarm 50 = .ok (.getfield 12, 3) := by decide +kernel
theorem dX0_firstDayAllWarm_53 : decode cX0_firstDayAllWarm 53 = .ok (.iconst 1, 1) := by decide +kernel
theorem dX0_firstDayAllWarm_54 : decode cX0_firstDayAllWarm 54 = .ok (.invokevirtual 56, 3) := by decide +kernel
theorem dX0_firstDayAllWarm_57 : decode cX0_firstDayAllWarm 57 = .ok (.iinc 1 1, 3) := by decide +kernel
theorem dX0_firstDayAllWarm_60 : decode cX0_firstDayAllWarm 60 = .ok (.goto (-58), 3) := by decide +kernel
theorem dX0_firstDayAllWarm_63 : decode cX0_firstDayAllWarm 63 = .ok (.bipush (-4), 2) := by decide +kernel
theorem dX0_firstDayAllWarm_65 : decode cX0_firstDayAllWarm 65 = .ok (.ireturn, 1) := by decide +kernel
theorem dX0_goThroughStorm_0 : decode cX0_goThroughStorm 0 = .ok (.iconst 0, 1) := by decide +kernel
theorem dX0_goThroughStorm_1 : decode cX0_goThroughStorm 1 = .ok (.istore_n 3, 1) := by decide +kernel
theorem dX0_goThroughStorm_2 : decode cX0_goThroughStorm 2 = .ok (.iload_n 3, 1) := by decide +kernel
theorem dX0_goThroughStorm_3 : decode cX0_goThroughStorm 3 = .ok (.iload_n 2, 1) := by decide +kernel
theorem dX0_goThroughStorm_4 : decode cX0_goThroughStorm 4 = .ok (.if_icmp .ge 34, 3) := by decide +kernel
theorem dX0_goThroughStorm_7 : decode cX0_goThroughStorm 7 = .ok (.iload_n 3, 1) := by decide +kernel
theorem dX0_goThroughStorm_8 : decode cX0_goThroughStorm 8 = .ok (.ifCond .le 11, 3) := by decide +kernel
theorem dX0_goThroughStorm_11 : decode cX0_goThroughStorm 11 = .ok (.aload_n 0, 1) := by decide +kernel
theorem dX0_goThroughStorm_12 : decode cX0_goThroughStorm 12 = .ok (.getfield 12, 3) := by decide +kernel
theorem dX0_goThroughStorm_15 : decode cX0_goThroughStorm 15 = .ok (.iconst 1, 1) := by decide +kernel
theorem dX0_goThroughStorm_16 : decode cX0_goThroughStorm 16 = .ok (.invokevirtual 56, 3) := by decide +kernel
theorem dX0_goThroughStorm_19 : decode cX0_goThroughStorm 19 = .ok (.aload_n 0, 1) := by decide +kernel
theorem dX0_goThroughStorm_20 : decode cX0_goThroughStorm 20 = .ok (.iload_n 1, 1) := by decide +kernel
theorem dX0_goThroughStorm_21 : decode cX0_goThroughStorm 21 = .ok (.iload_n 3, 1) := by decide +kernel
theorem dX0_goThroughStorm_22 : decode cX0_goThroughStorm 22 = .ok (.invokestatic 70, 3) := by decide +kernel
theorem dX0_goThroughStorm_25 : decode cX0_goThroughStorm 25 = .ok (.invokevirtual 73, 3) := by decide +kernel
theorem dX0_goThroughStorm_28 : decode cX0_goThroughStorm 28 = .ok (.aload_n 0, 1) := by decide +kernel
theorem dX0_goThroughStorm_29 : decode cX0_goThroughStorm 29 = .ok (.invokevirtual 50, 3) := by decide +kernel
theorem dX0_goThroughStorm_32 : decode cX0_goThroughStorm 32 = .ok (.iinc 3 1, 3) := by decide +kernel
theorem dX0_goThroughStorm_35 : decode cX0_goThroughStorm 35 = .ok (.goto (-33), 3) := by decide +kernel
theorem dX0_goThroughStorm_38 : decode cX0_goThroughStorm 38 = .ok (.return_, 1) := by decide +kernel
theorem dX0_draw_0 : decode cX0_draw 0 = .ok (.ldc2_w 76, 3) := by decide +kernel
theorem dX0_draw_3 : decode cX0_draw 3 = .ok (.iload_n 0, 1) := by decide +kernel
theorem dX0_draw_4 : decode cX0_draw 4 = .ok (.i2l, 1) := by decide +kernel
theorem dX0_draw_5 : decode cX0_draw 5 = .ok (.lmul, 1) := by decide +kernel
theorem dX0_draw_6 : decode cX0_draw 6 = .ok (.ldc2_w 78, 3) := by decide +kernel
theorem dX0_draw_9 : decode cX0_draw 9 = .ok (.iload_n 1, 1) := by decide +kernel
theorem dX0_draw_10 : decode cX0_draw 10 = .ok (.i2l, 1) := by decide +kernel
theorem dX0_draw_11 : decode cX0_draw 11 = .ok (.lmul, 1) := by decide +kernel
theorem dX0_draw_12 : decode cX0_draw 12 = .ok (.ladd, 1) := by decide +kernel
theorem dX0_draw_13 : decode cX0_draw 13 = .ok (.lconst 1, 1) := by decide +kernel
theorem dX0_draw_14 : decode cX0_draw 14 = .ok (.ladd, 1) := by decide +kernel
theorem dX0_draw_15 : decode cX0_draw 15 = .ok (.lstore_n 2, 1) := by decide +kernel
theorem dX0_draw_16 : decode cX0_draw 16 = .ok (.lload_n 2, 1) := by decide +kernel
theorem dX0_draw_17 : decode cX0_draw 17 = .ok (.lload_n 2, 1) := by decide +kernel
theorem dX0_draw_18 : decode cX0_draw 18 = .ok (.lmul, 1) := by decide +kernel
theorem dX0_draw_19 : decode cX0_draw 19 = .ok (.ldc2_w 80, 3) := by decide +kernel
theorem dX0_draw_22 : decode cX0_draw 22 = .ok (.lrem, 1) := by decide +kernel
theorem dX0_draw_23 : decode cX0_draw 23 = .ok (.ldc2_w 82, 3) := by decide +kernel
theorem dX0_draw_26 : decode cX0_draw 26 = .ok (.ldiv, 1) := by decide +kernel
theorem dX0_draw_27 : decode cX0_draw 27 = .ok (.l2i, 1) := by decide +kernel
theorem dX0_draw_28 : decode cX0_draw 28 = .ok (.ireturn, 1) := by decide +kernel
theorem dX0_blow_0 : decode cX0_blow 0 = .ok (.iload_n 1, 1) := by decide +kernel
theorem dX0_blow_1 : decode cX0_blow 1 = .ok (.bipush 8, 2) := by decide +kernel
theorem dX0_blow_3 : decode cX0_blow 3 = .ok (.idiv, 1) := by decide +kernel
theorem dX0_blow_4 : decode cX0_blow 4 = .ok (.iconst 3, 1) := by decide +kernel
theorem dX0_blow_5 : decode cX0_blow 5 = .ok (.irem, 1) := by decide +kernel
theorem dX0_blow_6 : decode cX0_blow 6 = .ok (.ifCond .ne 57, 3) := by decide +kernel
theorem dX0_blow_9 : decode cX0_blow 9 = .ok (.aload_n 0, 1) := by decide +kernel
theorem dX0_blow_10 : decode cX0_blow 10 = .ok (.getfield 18, 3) := by decide +kernel
theorem dX0_blow_13 : decode cX0_blow 13 = .ok (.getfield 63, 3) := by decide +kernel
theorem dX0_blow_16 : decode cX0_blow 16 = .ok (.ifCond .le 47, 3) := by decide +kernel
theorem dX0_blow_19 : decode cX0_blow 19 = .ok (.iload_n 1, 1) := by decide +kernel
theorem dX0_blow_20 : decode cX0_blow 20 = .ok (.aload_n 0, 1) := by decide +kernel
theorem dX0_blow_21 : decode cX0_blow 21 = .ok (.getfield 18, 3) := by decide +kernel
theorem dX0_blow_24 : decode cX0_blow 24 = .ok (.getfield 63, 3) := by decide +kernel
theorem dX0_blow_27 : decode cX0_blow 27 = .ok (.irem, 1) := by decide +kernel
theorem dX0_blow_28 : decode cX0_blow 28 = .ok (.istore_n 2, 1) := by decide +kernel
theorem dX0_blow_29 : decode cX0_blow 29 = .ok (.aload_n 0, 1) := by decide +kernel
theorem dX0_blow_30 : decode cX0_blow 30 = .ok (.getfield 12, 3) := by decide +kernel
theorem dX0_blow_33 : decode cX0_blow 33 = .ok (.iload_n 2, 1) := by decide +kernel
theorem dX0_blow_34 : decode cX0_blow 34 = .ok (.aload_n 0, 1) := by decide +kernel
theorem dX0_blow_35 : decode cX0_blow 35 = .ok (.getfield 12, 3) := by decide +kernel
theorem dX0_blow_38 : decode cX0_blow 38 = .ok (.iload_n 2, 1) := by decide +kernel
theorem dX0_blow_39 : decode cX0_blow 39 = .ok (.invokevirtual 84, 3) := by decide +kernel
theorem dX0_blow_42 : decode cX0_blow 42 = .ok (.aload_n 0, 1) := by decide +kernel
theorem dX0_blow_43 : decode cX0_blow 43 = .ok (.getfield 12, 3) := by decide +kernel
theorem dX0_blow_46 : decode cX0_blow 46 = .ok (.getfield 53, 3) := by decide +kernel
theorem dX0_blow_49 : decode cX0_blow 49 = .ok (.aload_n 0, 1) := by decide +kernel
theorem dX0_blow_50 : decode cX0_blow 50 = .ok (.getfield 18, 3) := by decide +kernel
theorem dX0_blow_53 : decode cX0_blow 53 = .ok (.getfield 87, 3) := by decide +kernel
theorem dX0_blow_56 : decode cX0_blow 56 = .ok (.isub, 1) := by decide +kernel
theorem dX0_blow_57 : decode cX0_blow 57 = .ok (.invokestatic 36, 3) := by decide +kernel
theorem dX0_blow_60 : decode cX0_blow 60 = .ok (.invokevirtual 90, 3) := by decide +kernel
theorem dX0_blow_63 : decode cX0_blow 63 = .ok (.return_, 1) := by decide +kernel
theorem dX0_gatherToday_0 : decode cX0_gatherToday 0 = .ok (.iconst 0, 1) := by decide +kernel
theorem dX0_gatherToday_1 : decode cX0_gatherToday 1 = .ok (.istore_n 1, 1) := by decide +kernel
theorem dX0_gatherToday_2 : decode cX0_gatherToday 2 = .ok (.iload_n 1, 1) := by decide +kernel
theorem dX0_gatherToday_3 : decode cX0_gatherToday 3 = .ok (.aload_n 0, 1) := by decide +kernel
theorem dX0_gatherToday_4 : decode cX0_gatherToday 4 = .ok (.getfield 18, 3) := by decide +kernel
theorem dX0_gatherToday_7 : decode cX0_gatherToday 7 = .ok (.getfield 26, 3) := by decide +kernel
theorem dX0_gatherToday_10 : decode cX0_gatherToday 10 = .ok (.if_icmp .ge 76, 3) := by decide +kernel
theorem dX0_gatherToday_13 : decode cX0_gatherToday 13 = .ok (.iconst 0, 1) := by decide +kernel
theorem dX0_gatherToday_14 : decode cX0_gatherToday 14 = .ok (.istore_n 2, 1) := by decide +kernel
theorem dX0_gatherToday_15 : decode cX0_gatherToday 15 = .ok (.iload_n 2, 1) := by decide +kernel
theorem dX0_gatherToday_16 : decode cX0_gatherToday 16 = .ok (.aload_n 0, 1) := by decide +kernel
theorem dX0_gatherToday_17 : decode cX0_gatherToday 17 = .ok (.getfield 18, 3) := by decide +kernel
theorem dX0_gatherToday_20 : decode cX0_gatherToday 20 = .ok (.getfield 63, 3) := by decide +kernel
theorem dX0_gatherToday_23 : decode cX0_gatherToday 23 = .ok (.if_icmp .ge 57, 3) := by decide +kernel
theorem dX0_gatherToday_26 : decode cX0_gatherToday 26 = .ok (.aload_n 0, 1) := by decide +kernel
theorem dX0_gatherToday_27 : decode cX0_gatherToday 27 = .ok (.getfield 18, 3) := by decide +kernel
theorem dX0_gatherToday_30 : decode cX0_gatherToday 30 = .ok (.aload_n 0, 1) := by decide +kernel
theorem dX0_gatherToday_31 : decode cX0_gatherToday 31 = .ok (.getfield 12, 3) := by decide +kernel
theorem dX0_gatherToday_34 : decode cX0_gatherToday 34 = .ok (.iload_n 1, 1) := by decide +kernel
theorem dX0_gatherToday_35 : decode cX0_gatherToday 35 = .ok (.invokevirtual 93, 3) := by decide +kernel
theorem dX0_gatherToday_38 : decode cX0_gatherToday 38 = .ok (.ifCond .ne 42, 3) := by decide +kernel
theorem dX0_gatherToday_41 : decode cX0_gatherToday 41 = .ok (.aload_n 0, 1) := by decide +kernel
theorem dX0_gatherToday_42 : decode cX0_gatherToday 42 = .ok (.getfield 18, 3) := by decide +kernel
theorem dX0_gatherToday_45 : decode cX0_gatherToday 45 = .ok (.aload_n 0, 1) := by decide +kernel
theorem dX0_gatherToday_46 : decode cX0_gatherToday 46 = .ok (.getfield 12, 3) := by decide +kernel
theorem dX0_gatherToday_49 : decode cX0_gatherToday 49 = .ok (.iload_n 1, 1) := by decide +kernel
theorem dX0_gatherToday_50 : decode cX0_gatherToday 50 = .ok (.iload_n 2, 1) := by decide +kernel
theorem dX0_gatherToday_51 : decode cX0_gatherToday 51 = .ok (.invokevirtual 97, 3) := by decide +kernel
theorem dX0_gatherToday_54 : decode cX0_gatherToday 54 = .ok (.ifCond .eq 20, 3) := by decide +kernel
theorem dX0_gatherToday_57 : decode cX0_gatherToday 57 = .ok (.aload_n 0, 1) := by decide +kernel
theorem dX0_gatherToday_58 : decode cX0_gatherToday 58 = .ok (.getfield 12, 3) := by decide +kernel
theorem dX0_gatherToday_61 : decode cX0_gatherToday 61 = .ok (.iload_n 1, 1) := by decide +kernel
theorem dX0_gatherToday_62 : decode cX0_gatherToday 62 = .ok (.iload_n 2, 1) := by decide +kernel
theorem dX0_gatherToday_63 : decode cX0_gatherToday 63 = .ok (.aload_n 0, 1) := by decide +kernel
theorem dX0_gatherToday_64 : decode cX0_gatherToday 64 = .ok (.getfield 18, 3) := by decide +kernel
theorem dX0_gatherToday_67 : decode cX0_gatherToday 67 = .ok (.iload_n 2, 1) := by decide +kernel
theorem dX0_gatherToday_68 : decode cX0_gatherToday 68 = .ok (.invokevirtual 101, 3) := by decide +kernel
theorem dX0_gatherToday_71 : decode cX0_gatherToday 71 = .ok (.invokevirtual 104, 3) := by decide +kernel
theorem dX0_gatherToday_74 : decode cX0_gatherToday 74 = .ok (.iinc 2 1, 3) := by decide +kernel
theorem dX0_gatherToday_77 : decode cX0_gatherToday 77 = .ok (.goto (-62), 3) := by decide +kernel
theorem dX0_gatherToday_80 : decode cX0_gatherToday 80 = .ok (.iinc 1 1, 3) := by decide +kernel
theorem dX0_gatherToday_83 : decode cX0_gatherToday 83 = .ok (.goto (-81), 3) := by decide +kernel
theorem dX0_gatherToday_86 : decode cX0_gatherToday 86 = .ok (.return_, 1) := by decide +kernel
theorem dX1_init_0 : decode cX1_init 0 = .ok (.aload_n 0, 1) := by decide +kernel
theorem dX1_init_1 : decode cX1_init 1 = .ok (.invokespecial 3, 3) := by decide +kernel
theorem dX1_init_4 : decode cX1_init 4 = .ok (.aload_n 0, 1) := by decide +kernel
theorem dX1_init_5 : decode cX1_init 5 = .ok (.bipush 8, 2) := by decide +kernel
theorem dX1_init_7 : decode cX1_init 7 = .ok (.newarray .int, 2) := by decide +kernel
theorem dX1_init_9 : decode cX1_init 9 = .ok (.putfield 9, 3) := by decide +kernel
theorem dX1_init_12 : decode cX1_init 12 = .ok (.aload_n 0, 1) := by decide +kernel
theorem dX1_init_13 : decode cX1_init 13 = .ok (.bipush 9, 2) := by decide +kernel
theorem dX1_init_15 : decode cX1_init 15 = .ok (.newarray .int, 2) := by decide +kernel
theorem dX1_init_17 : decode cX1_init 17 = .ok (.putfield 15, 3) := by decide +kernel
theorem dX1_init_20 : decode cX1_init 20 = .ok (.aload_n 0, 1) := by decide +kernel
theorem dX1_init_21 : decode cX1_init 21 = .ok (.iconst 4, 1) := by decide +kernel
theorem dX1_init_22 : decode cX1_init 22 = .ok (.newarray .int, 2) := by decide +kernel
theorem dX1_init_24 : decode cX1_init 24 = .ok (.putfield 18, 3) := by decide +kernel
theorem dX1_init_27 : decode cX1_init 27 = .ok (.aload_n 0, 1) := by decide +kernel
theorem dX1_init_28 : decode cX1_init 28 = .ok (.bipush 8, 2) := by decide +kernel
theorem dX1_init_30 : decode cX1_init 30 = .ok (.newarray .int, 2) := by decide +kernel
theorem dX1_init_32 : decode cX1_init 32 = .ok (.putfield 21, 3) := by decide +kernel
theorem dX1_init_35 : decode cX1_init 35 = .ok (.aload_n 0, 1) := by decide +kernel
theorem dX1_init_36 : decode cX1_init 36 = .ok (.bipush 8, 2) := by decide +kernel
theorem dX1_init_38 : decode cX1_init 38 = .ok (.newarray .int, 2) := by decide +kernel
theorem dX1_init_40 : decode cX1_init 40 = .ok (.putfield 24, 3) := by decide +kernel
theorem dX1_init_43 : decode cX1_init 43 = .ok (.aload_n 0, 1) := by decide +kernel
theorem dX1_init_44 : decode cX1_init 44 = .ok (.aload_n 1, 1) := by decide +kernel
theorem dX1_init_45 : decode cX1_init 45 = .ok (.putfield 27, 3) := by decide +kernel
theorem dX1_init_48 : decode cX1_init 48 = .ok (.return_, 1) := by decide +kernel
theorem dX1_whoHas_0 : decode cX1_whoHas 0 = .ok (.iload_n 1, 1) := by decide +kernel
theorem dX1_whoHas_1 : decode cX1_whoHas 1 = .ok (.ifCond .lt 21, 3) := by decide +kernel
theorem dX1_whoHas_4 : decode cX1_whoHas 4 = .ok (.iload_n 1, 1) := by decide +kernel
theorem dX1_whoHas_5 : decode cX1_whoHas 5 = .ok (.aload_n 0, 1) := by decide +kernel
theorem dX1_whoHas_6 : decode cX1_whoHas 6 = .ok (.getfield 24, 3) := by decide +kernel
theorem dX1_whoHas_9 : decode cX1_whoHas 9 = .ok (.arraylength, 1) := by decide +kernel
theorem dX1_whoHas_10 : decode cX1_whoHas 10 = .ok (.if_icmp .ge 12, 3) := by decide +kernel
theorem dX1_whoHas_13 : decode cX1_whoHas 13 = .ok (.aload_n 0, 1) := by decide +kernel
theorem dX1_whoHas_14 : decode cX1_whoHas 14 = .ok (.getfield 24, 3) := by decide +kernel
theorem dX1_whoHas_17 : decode cX1_whoHas 17 = .ok (.iload_n 1, 1) := by decide +kernel
theorem dX1_whoHas_18 : decode cX1_whoHas 18 = .ok (.iaload, 1) := by decide +kernel
theorem dX1_whoHas_19 : decode cX1_whoHas 19 = .ok (.goto 5, 3) := by decide +kernel
theorem dX1_whoHas_22 : decode cX1_whoHas 22 = .ok (.bipush (-4), 2) := by decide +kernel
theorem dX1_whoHas_24 : decode cX1_whoHas 24 = .ok (.ireturn, 1) := by decide +kernel
theorem dX1_find_0 : decode cX1_find 0 = .ok (.iconst 0, 1) := by decide +kernel
theorem dX1_find_1 : decode cX1_find 1 = .ok (.istore_n 2, 1) := by decide +kernel
theorem dX1_find_2 : decode cX1_find 2 = .ok (.iconst 0, 1) := by decide +kernel
theorem dX1_find_3 : decode cX1_find 3 = .ok (.istore_n 3, 1) := by decide +kernel
theorem dX1_find_4 : decode cX1_find 4 = .ok (.iload_n 3, 1) := by decide +kernel
theorem dX1_find_5 : decode cX1_find 5 = .ok (.iconst 4, 1) := by decide +kernel
theorem dX1_find_6 : decode cX1_find 6 = .ok (.if_icmp .ge 53, 3) := by decide +kernel
theorem dX1_find_9 : decode cX1_find 9 = .ok (.aload_n 0, 1) := by decide +kernel
theorem dX1_find_10 : decode cX1_find 10 = .ok (.getfield 18, 3) := by decide +kernel
theorem dX1_find_13 : decode cX1_find 13 = .ok (.iload_n 3, 1) := by decide +kernel
theorem dX1_find_14 : decode cX1_find 14 = .ok (.aload_n 0, 1) := by decide +kernel
theorem dX1_find_15 : decode cX1_find 15 = .ok (.getfield 27, 3) := by decide +kernel
theorem dX1_find_18 : decode cX1_find 18 = .ok (.iload_n 3, 1) := by decide +kernel
theorem dX1_find_19 : decode cX1_find 19 = .ok (.invokevirtual 31, 3) := by decide +kernel
theorem dX1_find_22 : decode cX1_find 22 = .ok (.ifCond .eq 20, 3) := by decide +kernel
theorem dX1_find_25 : decode cX1_find 25 = .ok (.aload_n 0, 1) := by decide +kernel
theorem dX1_find_26 : decode cX1_find 26 = .ok (.getfield 27, 3) := by decide +kernel
theorem dX1_find_29 : decode cX1_find 29 = .ok (.iload_n 3, 1) := by decide +kernel
theorem dX1_find_30 : decode cX1_find 30 = .ok (.invokevirtual 37, 3) := by decide +kernel
theorem dX1_find_33 : decode cX1_find 33 = .ok (.aload_n 1, 1) := by decide +kernel
theorem dX1_find_34 : decode cX1_find 34 = .ok (.iload_n 3, 1) := by decide +kernel
theorem dX1_find_35 : decode cX1_find 35 = .ok (.invokevirtual 41, 3) := by decide +kernel
theorem dX1_find_38 : decode cX1_find 38 = .ok (.isub, 1) := by decide +kernel
theorem dX1_find_39 : decode cX1_find 39 = .ok (.goto 4, 3) := by decide +kernel
theorem dX1_find_42 : decode cX1_find 42 = .ok (.iconst 0, 1) := by decide +kernel
theorem dX1_find_43 : decode cX1_find 43 = .ok (.iastore, 1) := by decide +kernel
theorem dX1_find_44 : decode cX1_find 44 = .ok (.iload_n 2, 1) := by decide +kernel
theorem dX1_find_45 : decode cX1_find 45 = .ok (.aload_n 0, 1) := by decide +kernel
theorem dX1_find_46 : decode cX1_find 46 = .ok (.getfield 18, 3) := by decide +kernel
theorem dX1_find_49 : decode cX1_find 49 = .ok (.iload_n 3, 1) := by decide +kernel
theorem dX1_find_50 : decode cX1_find 50 = .ok (.iaload, 1) := by decide +kernel
theorem dX1_find_51 : decode cX1_find 51 = .ok (.iadd, 1) := by decide +kernel
theorem dX1_find_52 : decode cX1_find 52 = .ok (.istore_n 2, 1) := by decide +kernel
theorem dX1_find_53 : decode cX1_find 53 = .ok (.iinc 3 1, 3) := by decide +kernel
theorem dX1_find_56 : decode cX1_find 56 = .ok (.goto (-52), 3) := by decide +kernel
theorem dX1_find_59 : decode cX1_find 59 = .ok (.aload_n 0, 1) := by decide +kernel
theorem dX1_find_60 : decode cX1_find 60 = .ok (.getfield 15, 3) := by decide +kernel
theorem dX1_find_63 : decode cX1_find 63 = .ok (.bipush 8, 2) := by decide +kernel
theorem dX1_find_65 : decode cX1_find 65 = .ok (.iconst 0, 1) := by decide +kernel
theorem dX1_find_66 : decode cX1_find 66 = .ok (.iastore, 1) := by decide +kernel
theorem dX1_find_67 : decode cX1_find 67 = .ok (.bipush 7, 2) := by decide +kernel
theorem dX1_find_69 : decode cX1_find 69 = .ok (.istore_n 3, 1) := by decide +kernel
theorem dX1_find_70 : decode cX1_find 70 = .ok (.iload_n 3, 1) := by decide +kernel
theorem dX1_find_71 : decode cX1_find 71 = .ok (.ifCond .lt 72, 3) := by decide +kernel
theorem dX1_find_74 : decode cX1_find 74 = .ok (.aload_n 0, 1) := by decide +kernel
theorem dX1_find_75 : decode cX1_find 75 = .ok (.getfield 9, 3) := by decide +kernel
theorem dX1_find_78 : decode cX1_find 78 = .ok (.iload_n 3, 1) := by decide +kernel
theorem dX1_find_79 : decode cX1_find 79 = .ok (.aload_n 0, 1) := by decide +kernel
theorem dX1_find_80 : decode cX1_find 80 = .ok (.getfield 27, 3) := by decide +kernel
theorem dX1_find_83 : decode cX1_find 83 = .ok (.iload_n 3, 1) := by decide +kernel
theorem dX1_find_84 : decode cX1_find 84 = .ok (.invokevirtual 46, 3) := by decide +kernel
theorem dX1_find_87 : decode cX1_find 87 = .ok (.ifCond .eq 12, 3) := by decide +kernel
theorem dX1_find_90 : decode cX1_find 90 = .ok (.aload_n 0, 1) := by decide +kernel
theorem dX1_find_91 : decode cX1_find 91 = .ok (.aload_n 1, 1) := by decide +kernel
theorem dX1_find_92 : decode cX1_find 92 = .ok (.iload_n 3, 1) := by decide +kernel
theorem dX1_find_93 : decode cX1_find 93 = .ok (.invokevirtual 49, 3) := by decide +kernel
theorem dX1_find_96 : decode cX1_find 96 = .ok (.goto 4, 3) := by decide +kernel
theorem dX1_find_99 : decode cX1_find 99 = .ok (.iconst 0, 1) := by decide +kernel
theorem dX1_find_100 : decode cX1_find 100 = .ok (.iastore, 1) := by decide +kernel
theorem dX1_find_101 : decode cX1_find 101 = .ok (.aload_n 0, 1) := by decide +kernel
theorem dX1_find_102 : decode cX1_find 102 = .ok (.getfield 15, 3) := by decide +kernel
theorem dX1_find_105 : decode cX1_find 105 = .ok (.iload_n 3, 1) := by decide +kernel
theorem dX1_find_106 : decode cX1_find 106 = .ok (.aload_n 0, 1) := by decide +kernel
theorem dX1_find_107 : decode cX1_find 107 = .ok (.getfield 15, 3) := by decide +kernel
theorem dX1_find_110 : decode cX1_find 110 = .ok (.iload_n 3, 1) := by decide +kernel
theorem dX1_find_111 : decode cX1_find 111 = .ok (.iconst 1, 1) := by decide +kernel
theorem dX1_find_112 : decode cX1_find 112 = .ok (.iadd, 1) := by decide +kernel
theorem dX1_find_113 : decode cX1_find 113 = .ok (.iaload, 1) := by decide +kernel
theorem dX1_find_114 : decode cX1_find 114 = .ok (.aload_n 0, 1) := by decide +kernel
theorem dX1_find_115 : decode cX1_find 115 = .ok (.getfield 9, 3) := by decide +kernel
theorem dX1_find_118 : decode cX1_find 118 = .ok (.iload_n 3, 1) := by decide +kernel
theorem dX1_find_119 : decode cX1_find 119 = .ok (.iaload, 1) := by decide +kernel
theorem dX1_find_120 : decode cX1_find 120 = .ok (.ifCond .ne 7, 3) := by decide +kernel
theorem dX1_find_123 : decode cX1_find 123 = .ok (.iconst 0, 1) := by decide +kernel
theorem dX1_find_124 : decode cX1_find 124 = .ok (.goto 11, 3) := by decide +kernel
theorem dX1_find_127 : decode cX1_find 127 = .ok (.aload_n 0, 1) := by decide +kernel
theorem dX1_find_128 : decode cX1_find 128 = .ok (.getfield 27, 3) := by decide +kernel
theorem dX1_find_131 : decode cX1_find 131 = .ok (.iload_n 3, 1) := by decide +kernel
theorem dX1_find_132 : decode cX1_find 132 = .ok (.invokevirtual 53, 3) := by decide +kernel
theorem dX1_find_135 : decode cX1_find 135 = .ok (.iadd, 1) := by decide +kernel
theorem dX1_find_136 : decode cX1_find 136 = .ok (.iastore, 1) := by decide +kernel
theorem dX1_find_137 : decode cX1_find 137 = .ok (.iinc 3 (-1), 3) := by decide +kernel
theorem dX1_find_140 : decode cX1_find 140 = .ok (.goto (-70), 3) := by decide +kernel
theorem dX1_find_143 : decode cX1_find 143 = .ok (.aload_n 0, 1) := by decide +kernel
theorem dX1_find_144 : decode cX1_find 144 = .ok (.iconst (-1), 1) := by decide +kernel
theorem dX1_find_145 : decode cX1_find 145 = .ok (.putfield 56, 3) := by decide +kernel
theorem dX1_find_148 : decode cX1_find 148 = .ok (.aload_n 0, 1) := by decide +kernel
theorem dX1_find_149 : decode cX1_find 149 = .ok (.iconst 0, 1) := by decide +kernel
theorem dX1_find_150 : decode cX1_find 150 = .ok (.iconst 0, 1) := by decide +kernel
theorem dX1_find_151 : decode cX1_find 151 = .ok (.iload_n 2, 1) := by decide +kernel
theorem dX1_find_152 : decode cX1_find 152 = .ok (.invokestatic 60, 3) := by decide +kernel
theorem dX1_find_155 : decode cX1_find 155 = .ok (.return_, 1) := by decide +kernel
theorem dX1_takersOf_0 : decode cX1_takersOf 0 = .ok (.iconst 0, 1) := by decide +kernel
theorem dX1_takersOf_1 : decode cX1_takersOf 1 = .ok (.istore_n 3, 1) := by decide +kernel
theorem dX1_takersOf_2 : decode cX1_takersOf 2 = .ok (.iconst 0, 1) := by decide +kernel
theorem dX1_takersOf_3 : decode cX1_takersOf 3 = .ok (.istore 4, 2) := by decide +kernel
theorem dX1_takersOf_5 : decode cX1_takersOf 5 = .ok (.iload 4, 2) := by decide +kernel
theorem dX1_takersOf_7 : decode cX1_takersOf 7 = .ok (.aload_n 0, 1) := by decide +kernel
theorem dX1_takersOf_8 : decode cX1_takersOf 8 = .ok (.getfield 27, 3) := by decide +kernel
theorem dX1_takersOf_11 : decode cX1_takersOf 11 = .ok (.getfield 64, 3) := by decide +kernel
theorem dX1_takersOf_14 : decode cX1_takersOf 14 = .ok (.if_icmp .ge 30, 3) := by decide +kernel
theorem dX1_takersOf_17 : decode cX1_takersOf 17 = .ok (.aload_n 0, 1) := by decide +kernel
theorem dX1_takersOf_18 : decode cX1_takersOf 18 = .ok (.getfield 27, 3) := by decide +kernel
theorem dX1_takersOf_21 : decode cX1_takersOf 21 = .ok (.aload_n 1, 1) := by decide +kernel
theorem dX1_takersOf_22 : decode cX1_takersOf 22 = .ok (.iload 4, 2) := by decide +kernel
theorem dX1_takersOf_24 : decode cX1_takersOf 24 = .ok (.iload_n 2, 1) := by decide +kernel
theorem dX1_takersOf_25 : decode cX1_takersOf 25 = .ok (.invokevirtual 67, 3) := by decide +kernel
theorem dX1_takersOf_28 : decode cX1_takersOf 28 = .ok (.ifCond .eq 10, 3) := by decide +kernel
theorem dX1_takersOf_31 : decode cX1_takersOf 31 = .ok (.iload_n 3, 1) := by decide +kernel
theorem dX1_takersOf_32 : decode cX1_takersOf 32 = .ok (.iconst 1, 1) := by decide +kernel
theorem dX1_takersOf_33 : decode cX1_takersOf 33 = .ok (.iload 4, 2) := by decide +kernel
theorem dX1_takersOf_35 : decode cX1_takersOf 35 = .ok (.ishl, 1) := by decide +kernel
theorem dX1_takersOf_36 : decode cX1_takersOf 36 = .ok (.ior, 1) := by decide +kernel
theorem dX1_takersOf_37 : decode cX1_takersOf 37 = .ok (.istore_n 3, 1) := by decide +kernel
theorem dX1_takersOf_38 : decode cX1_takersOf 38 = .ok (.iinc 4 1, 3) := by decide +kernel
theorem dX1_takersOf_41 : decode cX1_takersOf 41 = .ok (.goto (-36), 3) := by decide +kernel
theorem dX1_takersOf_44 : decode cX1_takersOf 44 = .ok (.iload_n 3, 1) := by decide +kernel
theorem dX1_takersOf_45 : decode cX1_takersOf 45 = .ok (.ireturn, 1) := by decide +kernel
theorem dX1_deal_0 : decode cX1_deal 0 = .ok (.iload_n 1, 1) := by decide +kernel
theorem dX1_deal_1 : decode cX1_deal 1 = .ok (.ifCond .lt 9, 3) := by decide +kernel
theorem dX1_deal_4 : decode cX1_deal 4 = .ok (.iload_n 1, 1) := by decide +kernel
theorem dX1_deal_5 : decode cX1_deal 5 = .ok (.bipush 8, 2) := by decide +kernel
theorem dX1_deal_7 : decode cX1_deal 7 = .ok (.if_icmp .lt 9, 3) := by decide +kernel
theorem dX1_deal_10 : decode cX1_deal 10 = .ok (.aload_n 0, 1) := by decide +kernel
theorem dX1_deal_11 : decode cX1_deal 11 = .ok (.iload_n 2, 1) := by decide +kernel
theorem dX1_deal_12 : decode cX1_deal 12 = .ok (.invokevirtual 71, 3) := by decide +kernel
theorem dX1_deal_15 : decode cX1_deal 15 = .ok (.return_, 1) := by decide +kernel
theorem dX1_deal_16 : decode cX1_deal 16 = .ok (.iload_n 2, 1) := by decide +kernel
theorem dX1_deal_17 : decode cX1_deal 17 = .ok (.aload_n 0, 1) := by decide +kernel
theorem dX1_deal_18 : decode cX1_deal 18 = .ok (.getfield 15, 3) := by decide +kernel
theorem dX1_deal_21 : decode cX1_deal 21 = .ok (.iload_n 1, 1) := by decide +kernel
theorem dX1_deal_22 : decode cX1_deal 22 = .ok (.iaload, 1) := by decide +kernel
theorem dX1_deal_23 : decode cX1_deal 23 = .ok (.iload_n 3, 1) := by decide +kernel
theorem dX1_deal_24 : decode cX1_deal 24 = .ok (.invokestatic 75, 3) := by decide +kernel
theorem dX1_deal_27 : decode cX1_deal 27 = .ok (.iadd, 1) := by decide +kernel
theorem dX1_deal_28 : decode cX1_deal 28 = .ok (.aload_n 0, 1) := by decide +kernel
theorem dX1_deal_29 : decode cX1_deal 29 = .ok (.getfield 56, 3) := by decide +kernel
theorem dX1_deal_32 : decode cX1_deal 32 = .ok (.if_icmp .gt 4, 3) := by decide +kernel
theorem dX1_deal_35 : decode cX1_deal 35 = .ok (.return_, 1) := by decide +kernel
theorem dX1_deal_36 : decode cX1_deal 36 = .ok (.aload_n 0, 1) := by decide +kernel
theorem dX1_deal_37 : decode cX1_deal 37 = .ok (.getfield 27, 3) := by decide +kernel
theorem dX1_deal_40 : decode cX1_deal 40 = .ok (.iload_n 1, 1) := by decide +kernel
theorem dX1_deal_41 : decode cX1_deal 41 = .ok (.invokevirtual 53, 3) := by decide +kernel
theorem dX1_deal_44 : decode cX1_deal 44 = .ok (.istore 4, 2) := by decide +kernel
theorem dX1_deal_46 : decode cX1_deal 46 = .ok (.iconst 0, 1) := by decide +kernel
theorem dX1_deal_47 : decode cX1_deal 47 = .ok (.istore 5, 2) := by decide +kernel
theorem dX1_deal_49 : decode cX1_deal 49 = .ok (.iload 5, 2) := by decide +kernel
theorem dX1_deal_51 : decode cX1_deal 51 = .ok (.iconst 4, 1) := by decide +kernel
theorem dX1_deal_52 : decode cX1_deal 52 = .ok (.if_icmp .ge 83, 3) := by decide +kernel
theorem dX1_deal_55 : decode cX1_deal 55 = .ok (.aload_n 0, 1) := by decide +kernel
theorem dX1_deal_56 : decode cX1_deal 56 = .ok (.getfield 9, 3) := by decide +kernel
theorem dX1_deal_59 : decode cX1_deal 59 = .ok (.iload_n 1, 1) := by decide +kernel
theorem dX1_deal_60 : decode cX1_deal 60 = .ok (.iaload, 1) := by decide +kernel
theorem dX1_deal_61 : decode cX1_deal 61 = .ok (.iload 5, 2) := by decide +kernel
theorem dX1_deal_63 : decode cX1_deal 63 = .ok (.ishr, 1) := by decide +kernel
theorem dX1_deal_64 : decode cX1_deal 64 = .ok (.iconst 1, 1) := by decide +kernel
theorem dX1_deal_65 : decode cX1_deal 65 = .ok (.iand, 1) := by decide +kernel
theorem dX1_deal_66 : decode cX1_deal 66 = .ok (.iconst 1, 1) := by decide +kernel
theorem dX1_deal_67 : decode cX1_deal 67 = .ok (.if_icmp .ne 62, 3) := by decide +kernel
theorem dX1_deal_70 : decode cX1_deal 70 = .ok (.iload 4, 2) := by decide +kernel
theorem dX1_deal_72 : decode cX1_deal 72 = .ok (.aload_n 0, 1) := by decide +kernel
theorem dX1_deal_73 : decode cX1_deal 73 = .ok (.getfield 18, 3) := by decide +kernel
theorem dX1_deal_76 : decode cX1_deal 76 = .ok (.iload 5, 2) := by decide +kernel
theorem dX1_deal_78 : decode cX1_deal 78 = .ok (.iaload, 1) := by decide +kernel
theorem dX1_deal_79 : decode cX1_deal 79 = .ok (.if_icmp .gt 50, 3) := by decide +kernel
theorem dX1_deal_82 : decode cX1_deal 82 = .ok (.aload_n 0, 1) := by decide +kernel
theorem dX1_deal_83 : decode cX1_deal 83 = .ok (.getfield 18, 3) := by decide +kernel
theorem dX1_deal_86 : decode cX1_deal 86 = .ok (.iload 5, 2) := by decide +kernel
theorem dX1_deal_88 : decode cX1_deal 88 = .ok (.dup2, 1) := by decide +kernel
theorem dX1_deal_89 : decode cX1_deal 89 = .ok (.iaload, 1) := by decide +kernel
theorem dX1_deal_90 : decode cX1_deal 90 = .ok (.iload 4, 2) := by decide +kernel
theorem dX1_deal_92 : decode cX1_deal 92 = .ok (.isub, 1) := by decide +kernel
theorem dX1_deal_93 : decode cX1_deal 93 = .ok (.iastore, 1) := by decide +kernel
theorem dX1_deal_94 : decode cX1_deal 94 = .ok (.aload_n 0, 1) := by decide +kernel
theorem dX1_deal_95 : decode cX1_deal 95 = .ok (.getfield 21, 3) := by decide +kernel
theorem dX1_deal_98 : decode cX1_deal 98 = .ok (.iload_n 1, 1) := by decide +kernel
theorem dX1_deal_99 : decode cX1_deal 99 = .ok (.iload 5, 2) := by decide +kernel
theorem dX1_deal_101 : decode cX1_deal 101 = .ok (.iastore, 1) := by decide +kernel
theorem dX1_deal_102 : decode cX1_deal 102 = .ok (.aload_n 0, 1) := by decide +kernel
theorem dX1_deal_103 : decode cX1_deal 103 = .ok (.iload_n 1, 1) := by decide +kernel
theorem dX1_deal_104 : decode cX1_deal 104 = .ok (.iconst 1, 1) := by decide +kernel
theorem dX1_deal_105 : decode cX1_deal 105 = .ok (.iadd, 1) := by decide +kernel
theorem dX1_deal_106 : decode cX1_deal 106 = .ok (.iload_n 2, 1) := by decide +kernel
theorem dX1_deal_107 : decode cX1_deal 107 = .ok (.iload 4, 2) := by decide +kernel
theorem dX1_deal_109 : decode cX1_deal 109 = .ok (.iadd, 1) := by decide +kernel
theorem dX1_deal_110 : decode cX1_deal 110 = .ok (.iload_n 3, 1) := by decide +kernel
theorem dX1_deal_111 : decode cX1_deal 111 = .ok (.iload 4, 2) := by decide +kernel
theorem dX1_deal_113 : decode cX1_deal 113 = .ok (.isub, 1) := by decide +kernel
theorem dX1_deal_114 : decode cX1_deal 114 = .ok (.invokestatic 60, 3) := by decide +kernel
theorem dX1_deal_117 : decode cX1_deal 117 = .ok (.aload_n 0, 1) := by decide +kernel
theorem dX1_deal_118 : decode cX1_deal 118 = .ok (.getfield 18, 3) := by decide +kernel
theorem dX1_deal_121 : decode cX1_deal 121 = .ok (.iload 5, 2) := by decide +kernel
theorem dX1_deal_123 : decode cX1_deal 123 = .ok (.dup2, 1) := by decide +kernel
theorem dX1_deal_124 : decode cX1_deal 124 = .ok (.iaload, 1) := by decide +kernel
theorem dX1_deal_125 : decode cX1_deal 125 = .ok (.iload 4, 2) := by decide +kernel
theorem dX1_deal_127 : decode cX1_deal 127 = .ok (.iadd, 1) := by decide +kernel
theorem dX1_deal_128 : decode cX1_deal 128 = .ok (.iastore, 1) := by decide +kernel
theorem dX1_deal_129 : decode cX1_deal 129 = .ok (.iinc 5 1, 3) := by decide +kernel
theorem dX1_deal_132 : decode cX1_deal 132 = .ok (.goto (-83), 3) := by decide +kernel
theorem dX1_deal_135 : decode cX1_deal 135 = .ok (.aload_n 0, 1) := by decide +kernel
theorem dX1_deal_136 : decode cX1_deal 136 = .ok (.getfield 21, 3) := by decide +kernel
theorem dX1_deal_139 : decode cX1_deal 139 = .ok (.iload_n 1, 1) := by decide +kernel
theorem dX1_deal_140 : decode cX1_deal 140 = .ok (.bipush (-4), 2) := by decide +kernel
theorem dX1_deal_142 : decode cX1_deal 142 = .ok (.iastore, 1) := by decide +kernel
theorem dX1_deal_143 : decode cX1_deal 143 = .ok (.aload_n 0, 1) := by decide +kernel
theorem dX1_deal_144 : decode cX1_deal 144 = .ok (.iload_n 1, 1) := by decide +kernel
theorem dX1_deal_145 : decode cX1_deal 145 = .ok (.iconst 1, 1) := by decide +kernel
theorem dX1_deal_146 : decode cX1_deal 146 = .ok (.iadd, 1) := by decide +kernel
theorem dX1_deal_147 : decode cX1_deal 147 = .ok (.iload_n 2, 1) := by decide +kernel
theorem dX1_deal_148 : decode cX1_deal 148 = .ok (.iload_n 3, 1) := by decide +kernel
theorem dX1_deal_149 : decode cX1_deal 149 = .ok (.invokestatic 60, 3) := by decide +kernel
theorem dX1_deal_152 : decode cX1_deal 152 = .ok (.return_, 1) := by decide +kernel
theorem dX1_keepIfBetter_0 : decode cX1_keepIfBetter 0 = .ok (.iload_n 1, 1) := by decide +kernel
theorem dX1_keepIfBetter_1 : decode cX1_keepIfBetter 1 = .ok (.aload_n 0, 1) := by decide +kernel
theorem dX1_keepIfBetter_2 : decode cX1_keepIfBetter 2 = .ok (.getfield 56, 3) := by decide +kernel
theorem dX1_keepIfBetter_5 : decode cX1_keepIfBetter 5 = .ok (.if_icmp .le 23, 3) := by decide +kernel
theorem dX1_keepIfBetter_8 : decode cX1_keepIfBetter 8 = .ok (.aload_n 0, 1) := by decide +kernel
theorem dX1_keepIfBetter_9 : decode cX1_keepIfBetter 9 = .ok (.iload_n 1, 1) := by decide +kernel
theorem dX1_keepIfBetter_10 : decode cX1_keepIfBetter 10 = .ok (.putfield 56, 3) := by decide +kernel
theorem dX1_keepIfBetter_13 : decode cX1_keepIfBetter 13 = .ok (.aload_n 0, 1) := by decide +kernel
theorem dX1_keepIfBetter_14 : decode cX1_keepIfBetter 14 = .ok (.getfield 21, 3) := by decide +kernel
theorem dX1_keepIfBetter_17 : decode cX1_keepIfBetter 17 = .ok (.iconst 0, 1) := by decide +kernel
theorem dX1_keepIfBetter_18 : decode cX1_keepIfBetter 18 = .ok (.aload_n 0, 1) := by decide +kernel
theorem dX1_keepIfBetter_19 : decode cX1_keepIfBetter 19 = .ok (.getfield 24, 3) := by decide +kernel
theorem dX1_keepIfBetter_22 : decode cX1_keepIfBetter 22 = .ok (.iconst 0, 1) := by decide +kernel
theorem dX1_keepIfBetter_23 : decode cX1_keepIfBetter 23 = .ok (.bipush 8, 2) := by decide +kernel
theorem dX1_keepIfBetter_25 : decode cX1_keepIfBetter 25 = .ok (.invokestatic 81, 3) := by decide +kernel
theorem dX1_keepIfBetter_28 : decode cX1_keepIfBetter 28 = .ok (.return_, 1) := by decide +kernel
theorem dX2_init_0 : decode cX2_init 0 = .ok (.aload_n 0, 1) := by decide +kernel
theorem dX2_init_1 : decode cX2_init 1 = .ok (.invokespecial 3, 3) := by decide +kernel
theorem dX2_init_4 : decode cX2_init 4 = .ok (.aload_n 0, 1) := by decide +kernel
theorem dX2_init_5 : decode cX2_init 5 = .ok (.bipush 8, 2) := by decide +kernel
theorem dX2_init_7 : decode cX2_init 7 = .ok (.newarray .int, 2) := by decide +kernel
theorem dX2_init_9 : decode cX2_init 9 = .ok (.putfield 9, 3) := by decide +kernel
theorem dX2_init_12 : decode cX2_init 12 = .ok (.aload_n 0, 1) := by decide +kernel
theorem dX2_init_13 : decode cX2_init 13 = .ok (.bipush 8, 2) := by decide +kernel
theorem dX2_init_15 : decode cX2_init 15 = .ok (.newarray .int, 2) := by decide +kernel
theorem dX2_init_17 : decode cX2_init 17 = .ok (.putfield 15, 3) := by decide +kernel
theorem dX2_init_20 : decode cX2_init 20 = .ok (.aload_n 0, 1) := by decide +kernel
theorem dX2_init_21 : decode cX2_init 21 = .ok (.bipush 8, 2) := by decide +kernel
theorem dX2_init_23 : decode cX2_init 23 = .ok (.newarray .int, 2) := by decide +kernel
theorem dX2_init_25 : decode cX2_init 25 = .ok (.putfield 18, 3) := by decide +kernel
theorem dX2_init_28 : decode cX2_init 28 = .ok (.aload_n 0, 1) := by decide +kernel
theorem dX2_init_29 : decode cX2_init 29 = .ok (.iconst 4, 1) := by decide +kernel
theorem dX2_init_30 : decode cX2_init 30 = .ok (.newarray .int, 2) := by decide +kernel
theorem dX2_init_32 : decode cX2_init 32 = .ok (.putfield 21, 3) := by decide +kernel
theorem dX2_init_35 : decode cX2_init 35 = .ok (.aload_n 0, 1) := by decide +kernel
theorem dX2_init_36 : decode cX2_init 36 = .ok (.iconst 4, 1) := by decide +kernel
theorem dX2_init_37 : decode cX2_init 37 = .ok (.newarray .int, 2) := by decide +kernel
theorem dX2_init_39 : decode cX2_init 39 = .ok (.putfield 24, 3) := by decide +kernel
theorem dX2_init_42 : decode cX2_init 42 = .ok (.return_, 1) := by decide +kernel
theorem dX2_read_0 : decode cX2_read 0 = .ok (.aload_n 0, 1) := by decide +kernel
theorem dX2_read_1 : decode cX2_read 1 = .ok (.iconst 0, 1) := by decide +kernel
theorem dX2_read_2 : decode cX2_read 2 = .ok (.putfield 27, 3) := by decide +kernel
theorem dX2_read_5 : decode cX2_read 5 = .ok (.aload_n 0, 1) := by decide +kernel
theorem dX2_read_6 : decode cX2_read 6 = .ok (.iconst 0, 1) := by decide +kernel
theorem dX2_read_7 : decode cX2_read 7 = .ok (.putfield 31, 3) := by decide +kernel
theorem dX2_read_10 : decode cX2_read 10 = .ok (.aload_n 0, 1) := by decide +kernel
theorem dX2_read_11 : decode cX2_read 11 = .ok (.bipush 20, 2) := by decide +kernel
theorem dX2_read_13 : decode cX2_read 13 = .ok (.putfield 34, 3) := by decide +kernel
theorem dX2_read_16 : decode cX2_read 16 = .ok (.aload_n 0, 1) := by decide +kernel
theorem dX2_read_17 : decode cX2_read 17 = .ok (.iconst 3, 1) := by decide +kernel
theorem dX2_read_18 : decode cX2_read 18 = .ok (.putfield 37, 3) := by decide +kernel
theorem dX2_read_21 : decode cX2_read 21 = .ok (.aload_n 0, 1) := by decide +kernel
theorem dX2_read_22 : decode cX2_read 22 = .ok (.bipush 10, 2) := by decide +kernel
theorem dX2_read_24 : decode cX2_read 24 = .ok (.putfield 40, 3) := by decide +kernel
theorem dX2_read_27 : decode cX2_read 27 = .ok (.aload_n 2, 1) := by decide +kernel
theorem dX2_read_28 : decode cX2_read 28 = .ok (.invokevirtual 43, 3) := by decide +kernel
theorem dX2_read_31 : decode cX2_read 31 = .ok (.iconst 0, 1) := by decide +kernel
theorem dX2_read_32 : decode cX2_read 32 = .ok (.istore_n 3, 1) := by decide +kernel
theorem dX2_read_33 : decode cX2_read 33 = .ok (.iconst 0, 1) := by decide +kernel
theorem dX2_read_34 : decode cX2_read 34 = .ok (.istore 4, 2) := by decide +kernel
theorem dX2_read_36 : decode cX2_read 36 = .ok (.iload 4, 2) := by decide +kernel
theorem dX2_read_38 : decode cX2_read 38 = .ok (.sipush 200, 3) := by decide +kernel
theorem dX2_read_41 : decode cX2_read 41 = .ok (.if_icmp .ge 42, 3) := by decide +kernel
theorem dX2_read_44 : decode cX2_read 44 = .ok (.iload_n 3, 1) := by decide +kernel
theorem dX2_read_45 : decode cX2_read 45 = .ok (.ifCond .lt 38, 3) := by decide +kernel
theorem dX2_read_48 : decode cX2_read 48 = .ok (.iload_n 3, 1) := by decide +kernel
theorem dX2_read_49 : decode cX2_read 49 = .ok (.aload_n 1, 1) := by decide +kernel
theorem dX2_read_50 : decode cX2_read 50 = .ok (.getfield 50, 3) := by decide +kernel
theorem dX2_read_53 : decode cX2_read 53 = .ok (.if_icmp .ge 30, 3) := by decide +kernel
theorem dX2_read_56 : decode cX2_read 56 = .ok (.aload_n 1, 1) := by decide +kernel
theorem dX2_read_57 : decode cX2_read 57 = .ok (.iload_n 3, 1) := by decide +kernel
theorem dX2_read_58 : decode cX2_read 58 = .ok (.invokevirtual 53, 3) := by decide +kernel
theorem dX2_read_61 : decode cX2_read 61 = .ok (.istore 5, 2) := by decide +kernel
theorem dX2_read_63 : decode cX2_read 63 = .ok (.aload_n 0, 1) := by decide +kernel
theorem dX2_read_64 : decode cX2_read 64 = .ok (.aload_n 1, 1) := by decide +kernel
theorem dX2_read_65 : decode cX2_read 65 = .ok (.iload_n 3, 1) := by decide +kernel
theorem dX2_read_66 : decode cX2_read 66 = .ok (.invokevirtual 57, 3) := by decide +kernel
theorem dX2_read_69 : decode cX2_read 69 = .ok (.aload_n 1, 1) := by decide +kernel
theorem dX2_read_70 : decode cX2_read 70 = .ok (.aload_n 2, 1) := by decide +kernel
theorem dX2_read_71 : decode cX2_read 71 = .ok (.invokevirtual 61, 3) := by decide +kernel
theorem dX2_read_74 : decode cX2_read 74 = .ok (.iload 5, 2) := by decide +kernel
theorem dX2_read_76 : decode cX2_read 76 = .ok (.istore_n 3, 1) := by decide +kernel
theorem dX2_read_77 : decode cX2_read 77 = .ok (.iinc 4 1, 3) := by decide +kernel
theorem dX2_read_80 : decode cX2_read 80 = .ok (.goto (-44), 3) := by decide +kernel
theorem dX2_read_83 : decode cX2_read 83 = .ok (.return_, 1) := by decide +kernel
theorem dX2_put_0 : decode cX2_put 0 = .ok (.iload_n 1, 1) := by decide +kernel
theorem dX2_put_1 : decode cX2_put 1 = .ok (.bipush 98, 2) := by decide +kernel
theorem dX2_put_3 : decode cX2_put 3 = .ok (.if_icmp .ne 12, 3) := by decide +kernel
theorem dX2_put_6 : decode cX2_put 6 = .ok (.aload_n 0, 1) := by decide +kernel
theorem dX2_put_7 : decode cX2_put 7 = .ok (.aload_n 2, 1) := by decide +kernel
theorem dX2_put_8 : decode cX2_put 8 = .ok (.aload_n 3, 1) := by decide +kernel
theorem dX2_put_9 : decode cX2_put 9 = .ok (.invokevirtual 65, 3) := by decide +kernel
theorem dX2_put_12 : decode cX2_put 12 = .ok (.goto 60, 3) := by decide +kernel
theorem dX2_put_15 : decode cX2_put 15 = .ok (.iload_n 1, 1) := by decide +kernel
theorem dX2_put_16 : decode cX2_put 16 = .ok (.bipush 116, 2) := by decide +kernel
theorem dX2_put_18 : decode cX2_put 18 = .ok (.if_icmp .ne 12, 3) := by decide +kernel
theorem dX2_put_21 : decode cX2_put 21 = .ok (.aload_n 0, 1) := by decide +kernel
theorem dX2_put_22 : decode cX2_put 22 = .ok (.aload_n 2, 1) := by decide +kernel
theorem dX2_put_23 : decode cX2_put 23 = .ok (.aload_n 3, 1) := by decide +kernel
theorem dX2_put_24 : decode cX2_put 24 = .ok (.invokevirtual 69, 3) := by decide +kernel
theorem dX2_put_27 : decode cX2_put 27 = .ok (.goto 45, 3) := by decide +kernel
theorem dX2_put_30 : decode cX2_put 30 = .ok (.iload_n 1, 1) := by decide +kernel
theorem dX2_put_31 : decode cX2_put 31 = .ok (.bipush 107, 2) := by decide +kernel
theorem dX2_put_33 : decode cX2_put 33 = .ok (.if_icmp .ne 24, 3) := by decide +kernel
theorem dX2_put_36 : decode cX2_put 36 = .ok (.aload_n 0, 1) := by decide +kernel
theorem dX2_put_37 : decode cX2_put 37 = .ok (.aload_n 2, 1) := by decide +kernel
theorem dX2_put_38 : decode cX2_put 38 = .ok (.iconst 0, 1) := by decide +kernel
theorem dX2_put_39 : decode cX2_put 39 = .ok (.invokevirtual 72, 3) := by decide +kernel
theorem dX2_put_42 : decode cX2_put 42 = .ok (.putfield 34, 3) := by decide +kernel
theorem dX2_put_45 : decode cX2_put 45 = .ok (.aload_n 0, 1) := by decide +kernel
theorem dX2_put_46 : decode cX2_put 46 = .ok (.aload_n 2, 1) := by decide +kernel
theorem dX2_put_47 : decode cX2_put 47 = .ok (.iconst 1, 1) := by decide +kernel
theorem dX2_put_48 : decode cX2_put 48 = .ok (.invokevirtual 72, 3) := by decide +kernel
theorem dX2_put_51 : decode cX2_put 51 = .ok (.putfield 37, 3) := by decide +kernel
theorem dX2_put_54 : decode cX2_put 54 = .ok (.goto 18, 3) := by decide +kernel
theorem dX2_put_57 : decode cX2_put 57 = .ok (.iload_n 1, 1) := by decide +kernel
theorem dX2_put_58 : decode cX2_put 58 = .ok (.bipush 102, 2) := by decide +kernel
theorem dX2_put_60 : decode cX2_put 60 = .ok (.if_icmp .ne 12, 3) := by decide +kernel
theorem dX2_put_63 : decode cX2_put 63 = .ok (.aload_n 0, 1) := by decide +kernel
theorem dX2_put_64 : decode cX2_put 64 = .ok (.aload_n 2, 1) := by decide +kernel
theorem dX2_put_65 : decode cX2_put 65 = .ok (.iconst 0, 1) := by decide +kernel
theorem dX2_put_66 : decode cX2_put 66 = .ok (.invokevirtual 72, 3) := by decide +kernel
theorem dX2_put_69 : decode cX2_put 69 = .ok (.putfield 40, 3) := by decide +kernel
theorem dX2_put_72 : decode cX2_put 72 = .ok (.return_, 1) := by decide +kernel
theorem dX2_putBough_0 : decode cX2_putBough 0 = .ok (.aload_n 0, 1) := by decide +kernel
theorem dX2_putBough_1 : decode cX2_putBough 1 = .ok (.getfield 27, 3) := by decide +kernel
theorem dX2_putBough_4 : decode cX2_putBough 4 = .ok (.ifCond .lt 77, 3) := by decide +kernel
theorem dX2_putBough_7 : decode cX2_putBough 7 = .ok (.aload_n 0, 1) := by decide +kernel
theorem dX2_putBough_8 : decode cX2_putBough 8 = .ok (.getfield 27, 3) := by decide +kernel
theorem dX2_putBough_11 : decode cX2_putBough 11 = .ok (.bipush 8, 2) := by decide +kernel
theorem dX2_putBough_13 : decode cX2_putBough 13 = .ok (.if_icmp .ge 68, 3) := by decide +kernel
theorem dX2_putBough_16 : decode cX2_putBough 16 = .ok (.aload_n 0, 1) := by decide +kernel
theorem dX2_putBough_17 : decode cX2_putBough 17 = .ok (.getfield 9, 3) := by decide +kernel
theorem dX2_putBough_20 : decode cX2_putBough 20 = .ok (.aload_n 0, 1) := by decide +kernel
theorem dX2_putBough_21 : decode cX2_putBough 21 = .ok (.getfield 27, 3) := by decide +kernel
theorem dX2_putBough_24 : decode cX2_putBough 24 = .ok (.aload_n 1, 1) := by decide +kernel
theorem dX2_putBough_25 : decode cX2_putBough 25 = .ok (.iconst 0, 1) := by decide +kernel
theorem dX2_putBough_26 : decode cX2_putBough 26 = .ok (.invokevirtual 72, 3) := by decide +kernel
theorem dX2_putBough_29 : decode cX2_putBough 29 = .ok (.iastore, 1) := by decide +kernel
theorem dX2_putBough_30 : decode cX2_putBough 30 = .ok (.aload_n 0, 1) := by decide +kernel
theorem dX2_putBough_31 : decode cX2_putBough 31 = .ok (.getfield 15, 3) := by decide +kernel
theorem dX2_putBough_34 : decode cX2_putBough 34 = .ok (.aload_n 0, 1) := by decide +kernel
theorem dX2_putBough_35 : decode cX2_putBough 35 = .ok (.getfield 27, 3) := by decide +kernel
theorem dX2_putBough_38 : decode cX2_putBough 38 = .ok (.aload_n 1, 1) := by decide +kernel
theorem dX2_putBough_39 : decode cX2_putBough 39 = .ok (.iconst 1, 1) := by decide +kernel
theorem dX2_putBough_40 : decode cX2_putBough 40 = .ok (.invokevirtual 72, 3) := by decide +kernel
theorem dX2_putBough_43 : decode cX2_putBough 43 = .ok (.iastore, 1) := by decide +kernel
theorem dX2_putBough_44 : decode cX2_putBough 44 = .ok (.aload_n 0, 1) := by decide +kernel
theorem dX2_putBough_45 : decode cX2_putBough 45 = .ok (.getfield 18, 3) := by decide +kernel
theorem dX2_putBough_48 : decode cX2_putBough 48 = .ok (.aload_n 0, 1) := by decide +kernel
theorem dX2_putBough_49 : decode cX2_putBough 49 = .ok (.getfield 27, 3) := by decide +kernel
theorem dX2_putBough_52 : decode cX2_putBough 52 = .ok (.aload_n 1, 1) := by decide +kernel
theorem dX2_putBough_53 : decode cX2_putBough 53 = .ok (.iconst 2, 1) := by decide +kernel
theorem dX2_putBough_54 : decode cX2_putBough 54 = .ok (.invokevirtual 72, 3) := by decide +kernel
theorem dX2_putBough_57 : decode cX2_putBough 57 = .ok (.iastore, 1) := by decide +kernel
theorem dX2_putBough_58 : decode cX2_putBough 58 = .ok (.aload_n 2, 1) := by decide +kernel
theorem dX2_putBough_59 : decode cX2_putBough 59 = .ok (.aload_n 0, 1) := by decide +kernel
theorem dX2_putBough_60 : decode cX2_putBough 60 = .ok (.getfield 27, 3) := by decide +kernel
theorem dX2_putBough_63 : decode cX2_putBough 63 = .ok (.aload_n 1, 1) := by decide +kernel
theorem dX2_putBough_64 : decode cX2_putBough 64 = .ok (.iconst 3, 1) := by decide +kernel
theorem dX2_putBough_65 : decode cX2_putBough 65 = .ok (.invokevirtual 72, 3) := by decide +kernel
theorem dX2_putBough_68 : decode cX2_putBough 68 = .ok (.invokevirtual 75, 3) := by decide +kernel
theorem dX2_putBough_71 : decode cX2_putBough 71 = .ok (.aload_n 0, 1) := by decide +kernel
theorem dX2_putBough_72 : decode cX2_putBough 72 = .ok (.dup, 1) := by decide +kernel
theorem dX2_putBough_73 : decode cX2_putBough 73 = .ok (.getfield 27, 3) := by decide +kernel
theorem dX2_putBough_76 : decode cX2_putBough 76 = .ok (.iconst 1, 1) := by decide +kernel
theorem dX2_putBough_77 : decode cX2_putBough 77 = .ok (.iadd, 1) := by decide +kernel
theorem dX2_putBough_78 : decode cX2_putBough 78 = .ok (.putfield 27, 3) := by decide +kernel
theorem dX2_putBough_81 : decode cX2_putBough 81 = .ok (.return_, 1) := by decide +kernel
theorem dX2_putTenant_0 : decode cX2_putTenant 0 = .ok (.aload_n 0, 1) := by decide +kernel
theorem dX2_putTenant_1 : decode cX2_putTenant 1 = .ok (.getfield 31, 3) := by decide +kernel
theorem dX2_putTenant_4 : decode cX2_putTenant 4 = .ok (.ifCond .lt 62, 3) := by decide +kernel
theorem dX2_putTenant_7 : decode cX2_putTenant 7 = .ok (.aload_n 0, 1) := by decide +kernel
theorem dX2_putTenant_8 : decode cX2_putTenant 8 = .ok (.getfield 31, 3) := by decide +kernel
theorem dX2_putTenant_11 : decode cX2_putTenant 11 = .ok (.iconst 4, 1) := by decide +kernel
theorem dX2_putTenant_12 : decode cX2_putTenant 12 = .ok (.if_icmp .ge 54, 3) := by decide +kernel
theorem dX2_putTenant_15 : decode cX2_putTenant 15 = .ok (.aload_n 2, 1) := by decide +kernel
theorem dX2_putTenant_16 : decode cX2_putTenant 16 = .ok (.aload_n 0, 1) := by decide +kernel
theorem dX2_putTenant_17 : decode cX2_putTenant 17 = .ok (.getfield 31, 3) := by decide +kernel
theorem dX2_putTenant_20 : decode cX2_putTenant 20 = .ok (.aload_n 1, 1) := by decide +kernel
theorem dX2_putTenant_21 : decode cX2_putTenant 21 = .ok (.iconst 0, 1) := by decide +kernel
theorem dX2_putTenant_22 : decode cX2_putTenant 22 = .ok (.invokevirtual 72, 3) := by decide +kernel
theorem dX2_putTenant_25 : decode cX2_putTenant 25 = .ok (.invokevirtual 79, 3) := by decide +kernel
theorem dX2_putTenant_28 : decode cX2_putTenant 28 = .ok (.aload_n 0, 1) := by decide +kernel
theorem dX2_putTenant_29 : decode cX2_putTenant 29 = .ok (.getfield 21, 3) := by decide +kernel
theorem dX2_putTenant_32 : decode cX2_putTenant 32 = .ok (.aload_n 0, 1) := by decide +kernel
theorem dX2_putTenant_33 : decode cX2_putTenant 33 = .ok (.getfield 31, 3) := by decide +kernel
theorem dX2_putTenant_36 : decode cX2_putTenant 36 = .ok (.aload_n 1, 1) := by decide +kernel
theorem dX2_putTenant_37 : decode cX2_putTenant 37 = .ok (.iconst 1, 1) := by decide +kernel
theorem dX2_putTenant_38 : decode cX2_putTenant 38 = .ok (.invokevirtual 72, 3) := by decide +kernel
theorem dX2_putTenant_41 : decode cX2_putTenant 41 = .ok (.iastore, 1) := by decide +kernel
theorem dX2_putTenant_42 : decode cX2_putTenant 42 = .ok (.aload_n 0, 1) := by decide +kernel
theorem dX2_putTenant_43 : decode cX2_putTenant 43 = .ok (.getfield 24, 3) := by decide +kernel
theorem dX2_putTenant_46 : decode cX2_putTenant 46 = .ok (.aload_n 0, 1) := by decide +kernel
theorem dX2_putTenant_47 : decode cX2_putTenant 47 = .ok (.getfield 31, 3) := by decide +kernel
theorem dX2_putTenant_50 : decode cX2_putTenant 50 = .ok (.aload_n 1, 1) := by decide +kernel
theorem dX2_putTenant_51 : decode cX2_putTenant 51 = .ok (.iconst 2, 1) := by decide +kernel
theorem dX2_putTenant_52 : decode cX2_putTenant 52 = .ok (.invokevirtual 72, 3) := by decide +kernel
theorem dX2_putTenant_55 : decode cX2_putTenant 55 = .ok (.iastore, 1) := by decide +kernel
theorem dX2_putTenant_56 : decode cX2_putTenant 56 = .ok (.aload_n 0, 1) := by decide +kernel
theorem dX2_putTenant_57 : decode cX2_putTenant 57 = .ok (.dup, 1) := by decide +kernel
theorem dX2_putTenant_58 : decode cX2_putTenant 58 = .ok (.getfield 31, 3) := by decide +kernel
theorem dX2_putTenant_61 : decode cX2_putTenant 61 = .ok (.iconst 1, 1) := by decide +kernel
theorem dX2_putTenant_62 : decode cX2_putTenant 62 = .ok (.iadd, 1) := by decide +kernel
theorem dX2_putTenant_63 : decode cX2_putTenant 63 = .ok (.putfield 31, 3) := by decide +kernel
theorem dX2_putTenant_66 : decode cX2_putTenant 66 = .ok (.return_, 1) := by decide +kernel
theorem dX2_hasBough_0 : decode cX2_hasBough 0 = .ok (.iload_n 1, 1) := by decide +kernel
theorem dX2_hasBough_1 : decode cX2_hasBough 1 = .ok (.ifCond .lt 21, 3) := by decide +kernel
theorem dX2_hasBough_4 : decode cX2_hasBough 4 = .ok (.iload_n 1, 1) := by decide +kernel
theorem dX2_hasBough_5 : decode cX2_hasBough 5 = .ok (.aload_n 0, 1) := by decide +kernel
theorem dX2_hasBough_6 : decode cX2_hasBough 6 = .ok (.getfield 27, 3) := by decide +kernel
theorem dX2_hasBough_9 : decode cX2_hasBough 9 = .ok (.if_icmp .ge 13, 3) := by decide +kernel
theorem dX2_hasBough_12 : decode cX2_hasBough 12 = .ok (.iload_n 1, 1) := by decide +kernel
theorem dX2_hasBough_13 : decode cX2_hasBough 13 = .ok (.bipush 8, 2) := by decide +kernel
theorem dX2_hasBough_15 : decode cX2_hasBough 15 = .ok (.if_icmp .ge 7, 3) := by decide +kernel
theorem dX2_hasBough_18 : decode cX2_hasBough 18 = .ok (.iconst 1, 1) := by decide +kernel
theorem dX2_hasBough_19 : decode cX2_hasBough 19 = .ok (.goto 4, 3) := by decide +kernel
theorem dX2_hasBough_22 : decode cX2_hasBough 22 = .ok (.iconst 0, 1) := by decide +kernel
theorem dX2_hasBough_23 : decode cX2_hasBough 23 = .ok (.ireturn, 1) := by decide +kernel
theorem dX2_hasTenant_0 : decode cX2_hasTenant 0 = .ok (.iload_n 1, 1) := by decide +kernel
theorem dX2_hasTenant_1 : decode cX2_hasTenant 1 = .ok (.ifCond .lt 20, 3) := by decide +kernel
theorem dX2_hasTenant_4 : decode cX2_hasTenant 4 = .ok (.iload_n 1, 1) := by decide +kernel
theorem dX2_hasTenant_5 : decode cX2_hasTenant 5 = .ok (.aload_n 0, 1) := by decide +kernel
theorem dX2_hasTenant_6 : decode cX2_hasTenant 6 = .ok (.getfield 31, 3) := by decide +kernel
theorem dX2_hasTenant_9 : decode cX2_hasTenant 9 = .ok (.if_icmp .ge 12, 3) := by decide +kernel
theorem dX2_hasTenant_12 : decode cX2_hasTenant 12 = .ok (.iload_n 1, 1) := by decide +kernel
theorem dX2_hasTenant_13 : decode cX2_hasTenant 13 = .ok (.iconst 4, 1) := by decide +kernel
theorem dX2_hasTenant_14 : decode cX2_hasTenant 14 = .ok (.if_icmp .ge 7, 3) := by decide +kernel
theorem dX2_hasTenant_17 : decode cX2_hasTenant 17 = .ok (.iconst 1, 1) := by decide +kernel
theorem dX2_hasTenant_18 : decode cX2_hasTenant 18 = .ok (.goto 4, 3) := by decide +kernel
theorem dX2_hasTenant_21 : decode cX2_hasTenant 21 = .ok (.iconst 0, 1) := by decide +kernel
theorem dX2_hasTenant_22 : decode cX2_hasTenant 22 = .ok (.ireturn, 1) := by decide +kernel
theorem dX2_kind_0 : decode cX2_kind 0 = .ok (.iload_n 1, 1) := by decide +kernel
theorem dX2_kind_1 : decode cX2_kind 1 = .ok (.ifCond .lt 21, 3) := by decide +kernel
theorem dX2_kind_4 : decode cX2_kind 4 = .ok (.iload_n 1, 1) := by decide +kernel
theorem dX2_kind_5 : decode cX2_kind 5 = .ok (.aload_n 0, 1) := by decide +kernel
theorem dX2_kind_6 : decode cX2_kind 6 = .ok (.getfield 9, 3) := by decide +kernel
theorem dX2_kind_9 : decode cX2_kind 9 = .ok (.arraylength, 1) := by decide +kernel
theorem dX2_kind_10 : decode cX2_kind 10 = .ok (.if_icmp .ge 12, 3) := by decide +kernel
theorem dX2_kind_13 : decode cX2_kind 13 = .ok (.aload_n 0, 1) := by decide +kernel
theorem dX2_kind_14 : decode cX2_kind 14 = .ok (.getfield 9, 3) := by decide +kernel
theorem dX2_kind_17 : decode cX2_kind 17 = .ok (.iload_n 1, 1) := by decide +kernel
theorem dX2_kind_18 : decode cX2_kind 18 = .ok (.iaload, 1) := by decide +kernel
theorem dX2_kind_19 : decode cX2_kind 19 = .ok (.goto 4, 3) := by decide +kernel
theorem dX2_kind_22 : decode cX2_kind 22 = .ok (.iconst 0, 1) := by decide +kernel
theorem dX2_kind_23 : decode cX2_kind 23 = .ok (.ireturn, 1) := by decide +kernel
theorem dX2_height_0 : decode cX2_height 0 = .ok (.iload_n 1, 1) := by decide +kernel
theorem dX2_height_1 : decode cX2_height 1 = .ok (.ifCond .lt 21, 3) := by decide +kernel
theorem dX2_height_4 : decode cX2_height 4 = .ok (.iload_n 1, 1) := by decide +kernel
theorem dX2_height_5 : decode cX2_height 5 = .ok (.aload_n 0, 1) := by decide +kernel
theorem dX2_height_6 : decode cX2_height 6 = .ok (.getfield 15, 3) := by decide +kernel
theorem dX2_height_9 : decode cX2_height 9 = .ok (.arraylength, 1) := by decide +kernel
theorem dX2_height_10 : decode cX2_height 10 = .ok (.if_icmp .ge 12, 3) := by decide +kernel
theorem dX2_height_13 : decode cX2_height 13 = .ok (.aload_n 0, 1) := by decide +kernel
theorem dX2_height_14 : decode cX2_height 14 = .ok (.getfield 15, 3) := by decide +kernel
theorem dX2_height_17 : decode cX2_height 17 = .ok (.iload_n 1, 1) := by decide +kernel
theorem dX2_height_18 : decode cX2_height 18 = .ok (.iaload, 1) := by decide +kernel
theorem dX2_height_19 : decode cX2_height 19 = .ok (.goto 4, 3) := by decide +kernel
theorem dX2_height_22 : decode cX2_height 22 = .ok (.iconst 0, 1) := by decide +kernel
theorem dX2_height_23 : decode cX2_height 23 = .ok (.ireturn, 1) := by decide +kernel
theorem dX2_weight_0 : decode cX2_weight 0 = .ok (.iload_n 1, 1) := by decide +kernel
theorem dX2_weight_1 : decode cX2_weight 1 = .ok (.ifCond .lt 21, 3) := by decide +kernel
theorem dX2_weight_4 : decode cX2_weight 4 = .ok (.iload_n 1, 1) := by decide +kernel
theorem dX2_weight_5 : decode cX2_weight 5 = .ok (.aload_n 0, 1) := by decide +kernel
theorem dX2_weight_6 : decode cX2_weight 6 = .ok (.getfield 18, 3) := by decide +kernel
theorem dX2_weight_9 : decode cX2_weight 9 = .ok (.arraylength, 1) := by decide +kernel
theorem dX2_weight_10 : decode cX2_weight 10 = .ok (.if_icmp .ge 12, 3) := by decide +kernel
theorem dX2_weight_13 : decode cX2_weight 13 = .ok (.aload_n 0, 1) := by decide +kernel
theorem dX2_weight_14 : decode cX2_weight 14 = .ok (.getfield 18, 3) := by decide +kernel
theorem dX2_weight_17 : decode cX2_weight 17 = .ok (.iload_n 1, 1) := by decide +kernel
theorem dX2_weight_18 : decode cX2_weight 18 = .ok (.iaload, 1) := by decide +kernel
theorem dX2_weight_19 : decode cX2_weight 19 = .ok (.goto 4, 3) := by decide +kernel
theorem dX2_weight_22 : decode cX2_weight 22 = .ok (.iconst 0, 1) := by decide +kernel
theorem dX2_weight_23 : decode cX2_weight 23 = .ok (.ireturn, 1) := by decide +kernel
theorem dX2_strength_0 : decode cX2_strength 0 = .ok (.iload_n 1, 1) := by decide +kernel
theorem dX2_strength_1 : decode cX2_strength 1 = .ok (.ifCond .lt 21, 3) := by decide +kernel
theorem dX2_strength_4 : decode cX2_strength 4 = .ok (.iload_n 1, 1) := by decide +kernel
theorem dX2_strength_5 : decode cX2_strength 5 = .ok (.aload_n 0, 1) := by decide +kernel
theorem dX2_strength_6 : decode cX2_strength 6 = .ok (.getfield 21, 3) := by decide +kernel
theorem dX2_strength_9 : decode cX2_strength 9 = .ok (.arraylength, 1) := by decide +kernel
theorem dX2_strength_10 : decode cX2_strength 10 = .ok (.if_icmp .ge 12, 3) := by decide +kernel
theorem dX2_strength_13 : decode cX2_strength 13 = .ok (.aload_n 0, 1) := by decide +kernel
theorem dX2_strength_14 : decode cX2_strength 14 = .ok (.getfield 21, 3) := by decide +kernel
theorem dX2_strength_17 : decode cX2_strength 17 = .ok (.iload_n 1, 1) := by decide +kernel
theorem dX2_strength_18 : decode cX2_strength 18 = .ok (.iaload, 1) := by decide +kernel
theorem dX2_strength_19 : decode cX2_strength 19 = .ok (.goto 4, 3) := by decide +kernel
theorem dX2_strength_22 : decode cX2_strength 22 = .ok (.iconst 0, 1) := by decide +kernel
theorem dX2_strength_23 : decode cX2_strength 23 = .ok (.ireturn, 1) := by decide +kernel
theorem dX2_hearth_0 : decode cX2_hearth 0 = .ok (.iload_n 1, 1) := by decide +kernel
theorem dX2_hearth_1 : decode cX2_hearth 1 = .ok (.ifCond .lt 21, 3) := by decide +kernel
theorem dX2_hearth_4 : decode cX2_hearth 4 = .ok (.iload_n 1, 1) := by decide +kernel
theorem dX2_hearth_5 : decode cX2_hearth 5 = .ok (.aload_n 0, 1) := by decide +kernel
theorem dX2_hearth_6 : decode cX2_hearth 6 = .ok (.getfield 24, 3) := by decide +kernel
theorem dX2_hearth_9 : decode cX2_hearth 9 = .ok (.arraylength, 1) := by decide +kernel
theorem dX2_hearth_10 : decode cX2_hearth 10 = .ok (.if_icmp .ge 12, 3) := by decide +kernel
theorem dX2_hearth_13 : decode cX2_hearth 13 = .ok (.aload_n 0, 1) := by decide +kernel
theorem dX2_hearth_14 : decode cX2_hearth 14 = .ok (.getfield 24, 3) := by decide +kernel
theorem dX2_hearth_17 : decode cX2_hearth 17 = .ok (.iload_n 1, 1) := by decide +kernel
theorem dX2_hearth_18 : decode cX2_hearth 18 = .ok (.iaload, 1) := by decide +kernel
theorem dX2_hearth_19 : decode cX2_hearth 19 = .ok (.goto 4, 3) := by decide +kernel
theorem dX2_hearth_22 : decode cX2_hearth 22 = .ok (.iconst 0, 1) := by decide +kernel
theorem dX2_hearth_23 : decode cX2_hearth 23 = .ok (.ireturn, 1) := by decide +kernel
theorem dX2_weightOf_0 : decode cX2_weightOf 0 = .ok (.iconst 0, 1) := by decide +kernel
theorem dX2_weightOf_1 : decode cX2_weightOf 1 = .ok (.istore_n 2, 1) := by decide +kernel
theorem dX2_weightOf_2 : decode cX2_weightOf 2 = .ok (.iconst 0, 1) := by decide +kernel
theorem dX2_weightOf_3 : decode cX2_weightOf 3 = .ok (.istore_n 3, 1) := by decide +kernel
theorem dX2_weightOf_4 : decode cX2_weightOf 4 = .ok (.iload_n 3, 1) := by decide +kernel
theorem dX2_weightOf_5 : decode cX2_weightOf 5 = .ok (.aload_n 0, 1) := by decide +kernel
theorem dX2_weightOf_6 : decode cX2_weightOf 6 = .ok (.getfield 27, 3) := by decide +kernel
theorem dX2_weightOf_9 : decode cX2_weightOf 9 = .ok (.if_icmp .ge 26, 3) := by decide +kernel
theorem dX2_weightOf_12 : decode cX2_weightOf 12 = .ok (.iload_n 1, 1) := by decide +kernel
theorem dX2_weightOf_13 : decode cX2_weightOf 13 = .ok (.iload_n 3, 1) := by decide +kernel
theorem dX2_weightOf_14 : decode cX2_weightOf 14 = .ok (.ishr, 1) := by decide +kernel
theorem dX2_weightOf_15 : decode cX2_weightOf 15 = .ok (.iconst 1, 1) := by decide +kernel
theorem dX2_weightOf_16 : decode cX2_weightOf 16 = .ok (.iand, 1) := by decide +kernel
theorem dX2_weightOf_17 : decode cX2_weightOf 17 = .ok (.iconst 1, 1) := by decide +kernel
theorem dX2_weightOf_18 : decode cX2_weightOf 18 = .ok (.if_icmp .ne 11, 3) := by decide +kernel
theorem dX2_weightOf_21 : decode cX2_weightOf 21 = .ok (.iload_n 2, 1) := by decide +kernel
theorem dX2_weightOf_22 : decode cX2_weightOf 22 = .ok (.aload_n 0, 1) := by decide +kernel
theorem dX2_weightOf_23 : decode cX2_weightOf 23 = .ok (.iload_n 3, 1) := by decide +kernel
theorem dX2_weightOf_24 : decode cX2_weightOf 24 = .ok (.invokevirtual 82, 3) := by decide +kernel
theorem dX2_weightOf_27 : decode cX2_weightOf 27 = .ok (.iadd, 1) := by decide +kernel
theorem dX2_weightOf_28 : decode cX2_weightOf 28 = .ok (.istore_n 2, 1) := by decide +kernel
theorem dX2_weightOf_29 : decode cX2_weightOf 29 = .ok (.iinc 3 1, 3) := by decide +kernel
theorem dX2_weightOf_32 : decode cX2_weightOf 32 = .ok (.goto (-28), 3) := by decide +kernel
theorem dX2_weightOf_35 : decode cX2_weightOf 35 = .ok (.iload_n 2, 1) := by decide +kernel
theorem dX2_weightOf_36 : decode cX2_weightOf 36 = .ok (.ireturn, 1) := by decide +kernel
theorem dX2_isDead_0 : decode cX2_isDead 0 = .ok (.iload_n 3, 1) := by decide +kernel
theorem dX2_isDead_1 : decode cX2_isDead 1 = .ok (.aload_n 1, 1) := by decide +kernel
theorem dX2_isDead_2 : decode cX2_isDead 2 = .ok (.iload_n 2, 1) := by decide +kernel
theorem dX2_isDead_3 : decode cX2_isDead 3 = .ok (.invokevirtual 85, 3) := by decide +kernel
theorem dX2_isDead_6 : decode cX2_isDead 6 = .ok (.if_icmp .lt 7, 3) := by decide +kernel
theorem dX2_isDead_9 : decode cX2_isDead 9 = .ok (.iconst 1, 1) := by decide +kernel
theorem dX2_isDead_10 : decode cX2_isDead 10 = .ok (.goto 4, 3) := by decide +kernel
theorem dX2_isDead_13 : decode cX2_isDead 13 = .ok (.iconst 0, 1) := by decide +kernel
theorem dX2_isDead_14 : decode cX2_isDead 14 = .ok (.ireturn, 1) := by decide +kernel
theorem dX2_hasFallen_0 : decode cX2_hasFallen 0 = .ok (.iload_n 3, 1) := by decide +kernel
theorem dX2_hasFallen_1 : decode cX2_hasFallen 1 = .ok (.aload_n 1, 1) := by decide +kernel
theorem dX2_hasFallen_2 : decode cX2_hasFallen 2 = .ok (.iload_n 2, 1) := by decide +kernel
theorem dX2_hasFallen_3 : decode cX2_hasFallen 3 = .ok (.invokevirtual 85, 3) := by decide +kernel
theorem dX2_hasFallen_6 : decode cX2_hasFallen 6 = .ok (.aload_n 0, 1) := by decide +kernel
theorem dX2_hasFallen_7 : decode cX2_hasFallen 7 = .ok (.getfield 40, 3) := by decide +kernel
theorem dX2_hasFallen_10 : decode cX2_hasFallen 10 = .ok (.iadd, 1) := by decide +kernel
theorem dX2_hasFallen_11 : decode cX2_hasFallen 11 = .ok (.if_icmp .lt 7, 3) := by decide +kernel
theorem dX2_hasFallen_14 : decode cX2_hasFallen 14 = .ok (.iconst 1, 1) := by decide +kernel
theorem dX2_hasFallen_15 : decode cX2_hasFallen 15 = .ok (.goto 4, 3) := by decide +kernel
theorem dX2_hasFallen_18 : decode cX2_hasFallen 18 = .ok (.iconst 0, 1) := by decide +kernel
theorem dX2_hasFallen_19 : decode cX2_hasFallen 19 = .ok (.ireturn, 1) := by decide +kernel
theorem dX2_isInReach_0 : decode cX2_isInReach 0 = .ok (.aload_n 0, 1) := by decide +kernel
theorem dX2_isInReach_1 : decode cX2_isInReach 1 = .ok (.iload_n 3, 1) := by decide +kernel
theorem dX2_isInReach_2 : decode cX2_isInReach 2 = .ok (.invokevirtual 88, 3) := by decide +kernel
theorem dX2_isInReach_5 : decode cX2_isInReach 5 = .ok (.tableswitch 73 0 3 #[31, 73, 50, 71], 31) := by decide +kernel
theorem dX2_isInReach_36 : decode cX2_isInReach 36 = .ok (.aload_n 0, 1) := by decide +kernel
theorem dX2_isInReach_37 : decode cX2_isInReach 37 = .ok (.iload_n 3, 1) := by decide +kernel
theorem dX2_isInReach_38 : decode cX2_isInReach 38 = .ok (.invokevirtual 91, 3) := by decide +kernel
theorem dX2_isInReach_41 : decode cX2_isInReach 41 = .ok (.aload_n 1, 1) := by decide +kernel
theorem dX2_isInReach_42 : decode cX2_isInReach 42 = .ok (.iload_n 2, 1) := by decide +kernel
theorem dX2_isInReach_43 : decode cX2_isInReach 43 = .ok (.invokevirtual 94, 3) := by decide +kernel
theorem dX2_isInReach_46 : decode cX2_isInReach 46 = .ok (.if_icmp .gt 7, 3) := by decide +kernel
theorem dX2_isInReach_49 : decode cX2_isInReach 49 = .ok (.iconst 1, 1) := by decide +kernel
theorem dX2_isInReach_50 : decode cX2_isInReach 50 = .ok (.goto 4, 3) := by decide +kernel
theorem dX2_isInReach_53 : decode cX2_isInReach 53 = .ok (.iconst 0, 1) := by decide +kernel
theorem dX2_isInReach_54 : decode cX2_isInReach 54 = .ok (.ireturn, 1) := by decide +kernel
theorem dX2_isInReach_55 : decode cX2_isInReach 55 = .ok (.aload_n 0, 1) := by decide +kernel
theorem dX2_isInReach_56 : decode cX2_isInReach 56 = .ok (.iload_n 3, 1) := by decide +kernel
theorem dX2_isInReach_57 : decode cX2_isInReach 57 = .ok (.invokevirtual 91, 3) := by decide +kernel
theorem dX2_isInReach_60 : decode cX2_isInReach 60 = .ok (.iconst 3, 1) := by decide +kernel
theorem dX2_isInReach_61 : decode cX2_isInReach 61 = .ok (.iadd, 1) := by decide +kernel
theorem dX2_isInReach_62 : decode cX2_isInReach 62 = .ok (.aload_n 1, 1) := by decide +kernel
theorem dX2_isInReach_63 : decode cX2_isInReach 63 = .ok (.iload_n 2, 1) := by decide +kernel
theorem dX2_isInReach_64 : decode cX2_isInReach 64 = .ok (.invokevirtual 94, 3) := by decide +kernel
theorem dX2_isInReach_67 : decode cX2_isInReach 67 = .ok (.if_icmp .gt 7, 3) := by decide +kernel
theorem dX2_isInReach_70 : decode cX2_isInReach 70 = .ok (.iconst 1, 1) := by decide +kernel
theorem dX2_isInReach_71 : decode cX2_isInReach 71 = .ok (.goto 4, 3) := by decide +kernel
theorem dX2_isInReach_74 : decode cX2_isInReach 74 = .ok (.iconst 0, 1) := by decide +kernel
theorem dX2_isInReach_75 : decode cX2_isInReach 75 = .ok (.ireturn, 1) := by decide +kernel
theorem dX2_isInReach_76 : decode cX2_isInReach 76 = .ok (.iconst 1, 1) := by decide +kernel
theorem dX2_isInReach_77 : decode cX2_isInReach 77 = .ok (.ireturn, 1) := by decide +kernel
theorem dX2_isInReach_78 : decode cX2_isInReach 78 = .ok (.iconst 0, 1) := by decide +kernel
theorem dX2_isInReach_79 : decode cX2_isInReach 79 = .ok (.ireturn, 1) := by decide +kernel
theorem dX2_couldTake_0 : decode cX2_couldTake 0 = .ok (.aload_n 0, 1) := by decide +kernel
theorem dX2_couldTake_1 : decode cX2_couldTake 1 = .ok (.aload_n 1, 1) := by decide +kernel
theorem dX2_couldTake_2 : decode cX2_couldTake 2 = .ok (.iload_n 3, 1) := by decide +kernel
theorem dX2_couldTake_3 : decode cX2_couldTake 3 = .ok (.iload 4, 2) := by decide +kernel
theorem dX2_couldTake_5 : decode cX2_couldTake 5 = .ok (.invokevirtual 97, 3) := by decide +kernel
theorem dX2_couldTake_8 : decode cX2_couldTake 8 = .ok (.ifCond .eq 44, 3) := by decide +kernel
theorem dX2_couldTake_11 : decode cX2_couldTake 11 = .ok (.iload 5, 2) := by decide +kernel
theorem dX2_couldTake_13 : decode cX2_couldTake 13 = .ok (.aload_n 0, 1) := by decide +kernel
theorem dX2_couldTake_14 : decode cX2_couldTake 14 = .ok (.iload_n 3, 1) := by decide +kernel
theorem dX2_couldTake_15 : decode cX2_couldTake 15 = .ok (.invokevirtual 82, 3) := by decide +kernel
theorem dX2_couldTake_18 : decode cX2_couldTake 18 = .ok (.iadd, 1) := by decide +kernel
theorem dX2_couldTake_19 : decode cX2_couldTake 19 = .ok (.aload_n 0, 1) := by decide +kernel
theorem dX2_couldTake_20 : decode cX2_couldTake 20 = .ok (.iload_n 2, 1) := by decide +kernel
theorem dX2_couldTake_21 : decode cX2_couldTake 21 = .ok (.invokevirtual 101, 3) := by decide +kernel
theorem dX2_couldTake_24 : decode cX2_couldTake 24 = .ok (.if_icmp .gt 28, 3) := by decide +kernel
theorem dX2_couldTake_27 : decode cX2_couldTake 27 = .ok (.aload_n 0, 1) := by decide +kernel
theorem dX2_couldTake_28 : decode cX2_couldTake 28 = .ok (.aload_n 1, 1) := by decide +kernel
theorem dX2_couldTake_29 : decode cX2_couldTake 29 = .ok (.iload_n 3, 1) := by decide +kernel
theorem dX2_couldTake_30 : decode cX2_couldTake 30 = .ok (.iload 4, 2) := by decide +kernel
theorem dX2_couldTake_32 : decode cX2_couldTake 32 = .ok (.invokevirtual 104, 3) := by decide +kernel
theorem dX2_couldTake_35 : decode cX2_couldTake 35 = .ok (.ifCond .ne 13, 3) := by decide +kernel
theorem dX2_couldTake_38 : decode cX2_couldTake 38 = .ok (.aload_n 0, 1) := by decide +kernel
theorem dX2_couldTake_39 : decode cX2_couldTake 39 = .ok (.aload_n 1, 1) := by decide +kernel
theorem dX2_couldTake_40 : decode cX2_couldTake 40 = .ok (.iload_n 2, 1) := by decide +kernel
theorem dX2_couldTake_41 : decode cX2_couldTake 41 = .ok (.iload_n 3, 1) := by decide +kernel
theorem dX2_couldTake_42 : decode cX2_couldTake 42 = .ok (.invokevirtual 107, 3) := by decide +kernel
theorem dX2_couldTake_45 : decode cX2_couldTake 45 = .ok (.ifCond .eq 7, 3) := by decide +kernel
theorem dX2_couldTake_48 : decode cX2_couldTake 48 = .ok (.iconst 1, 1) := by decide +kernel
theorem dX2_couldTake_49 : decode cX2_couldTake 49 = .ok (.goto 4, 3) := by decide +kernel
theorem dX2_couldTake_52 : decode cX2_couldTake 52 = .ok (.iconst 0, 1) := by decide +kernel
theorem dX2_couldTake_53 : decode cX2_couldTake 53 = .ok (.ireturn, 1) := by decide +kernel
theorem dX2_canTake_0 : decode cX2_canTake 0 = .ok (.aload_n 1, 1) := by decide +kernel
theorem dX2_canTake_1 : decode cX2_canTake 1 = .ok (.iload_n 3, 1) := by decide +kernel
theorem dX2_canTake_2 : decode cX2_canTake 2 = .ok (.invokevirtual 110, 3) := by decide +kernel
theorem dX2_canTake_5 : decode cX2_canTake 5 = .ok (.ifCond .ne 26, 3) := by decide +kernel
theorem dX2_canTake_8 : decode cX2_canTake 8 = .ok (.aload_n 0, 1) := by decide +kernel
theorem dX2_canTake_9 : decode cX2_canTake 9 = .ok (.aload_n 1, 1) := by decide +kernel
theorem dX2_canTake_10 : decode cX2_canTake 10 = .ok (.iload_n 2, 1) := by decide +kernel
theorem dX2_canTake_11 : decode cX2_canTake 11 = .ok (.iload_n 3, 1) := by decide +kernel
theorem dX2_canTake_12 : decode cX2_canTake 12 = .ok (.aload_n 1, 1) := by decide +kernel
theorem dX2_canTake_13 : decode cX2_canTake 13 = .ok (.getfield 114, 3) := by decide +kernel
theorem dX2_canTake_16 : decode cX2_canTake 16 = .ok (.aload_n 1, 1) := by decide +kernel
theorem dX2_canTake_17 : decode cX2_canTake 17 = .ok (.iload_n 2, 1) := by decide +kernel
theorem dX2_canTake_18 : decode cX2_canTake 18 = .ok (.invokevirtual 117, 3) := by decide +kernel
theorem dX2_canTake_21 : decode cX2_canTake 21 = .ok (.invokevirtual 120, 3) := by decide +kernel
theorem dX2_canTake_24 : decode cX2_canTake 24 = .ok (.ifCond .eq 7, 3) := by decide +kernel
theorem dX2_canTake_27 : decode cX2_canTake 27 = .ok (.iconst 1, 1) := by decide +kernel
theorem dX2_canTake_28 : decode cX2_canTake 28 = .ok (.goto 4, 3) := by decide +kernel
theorem dX2_canTake_31 : decode cX2_canTake 31 = .ok (.iconst 0, 1) := by decide +kernel
theorem dX2_canTake_32 : decode cX2_canTake 32 = .ok (.ireturn, 1) := by decide +kernel
theorem dX2_isCaught_0 : decode cX2_isCaught 0 = .ok (.aload_n 0, 1) := by decide +kernel
theorem dX2_isCaught_1 : decode cX2_isCaught 1 = .ok (.getfield 37, 3) := by decide +kernel
theorem dX2_isCaught_4 : decode cX2_isCaught 4 = .ok (.ifCond .le 53, 3) := by decide +kernel
theorem dX2_isCaught_7 : decode cX2_isCaught 7 = .ok (.aload_n 1, 1) := by decide +kernel
theorem dX2_isCaught_8 : decode cX2_isCaught 8 = .ok (.getfield 114, 3) := by decide +kernel
theorem dX2_isCaught_11 : decode cX2_isCaught 11 = .ok (.aload_n 0, 1) := by decide +kernel
theorem dX2_isCaught_12 : decode cX2_isCaught 12 = .ok (.getfield 37, 3) := by decide +kernel
theorem dX2_isCaught_15 : decode cX2_isCaught 15 = .ok (.irem, 1) := by decide +kernel
theorem dX2_isCaught_16 : decode cX2_isCaught 16 = .ok (.ifCond .ne 41, 3) := by decide +kernel
theorem dX2_isCaught_19 : decode cX2_isCaught 19 = .ok (.aload_n 1, 1) := by decide +kernel
theorem dX2_isCaught_20 : decode cX2_isCaught 20 = .ok (.iload_n 2, 1) := by decide +kernel
theorem dX2_isCaught_21 : decode cX2_isCaught 21 = .ok (.invokevirtual 94, 3) := by decide +kernel
theorem dX2_isCaught_24 : decode cX2_isCaught 24 = .ok (.aload_n 0, 1) := by decide +kernel
theorem dX2_isCaught_25 : decode cX2_isCaught 25 = .ok (.getfield 34, 3) := by decide +kernel
theorem dX2_isCaught_28 : decode cX2_isCaught 28 = .ok (.if_icmp .le 29, 3) := by decide +kernel
theorem dX2_isCaught_31 : decode cX2_isCaught 31 = .ok (.aload_n 0, 1) := by decide +kernel
theorem dX2_isCaught_32 : decode cX2_isCaught 32 = .ok (.iload_n 3, 1) := by decide +kernel
theorem dX2_isCaught_33 : decode cX2_isCaught 33 = .ok (.invokevirtual 88, 3) := by decide +kernel
theorem dX2_isCaught_36 : decode cX2_isCaught 36 = .ok (.iconst 3, 1) := by decide +kernel
theorem dX2_isCaught_37 : decode cX2_isCaught 37 = .ok (.if_icmp .eq 20, 3) := by decide +kernel
theorem dX2_isCaught_40 : decode cX2_isCaught 40 = .ok (.aload_n 0, 1) := by decide +kernel
theorem dX2_isCaught_41 : decode cX2_isCaught 41 = .ok (.aload_n 1, 1) := by decide +kernel
theorem dX2_isCaught_42 : decode cX2_isCaught 42 = .ok (.iload_n 3, 1) := by decide +kernel
theorem dX2_isCaught_43 : decode cX2_isCaught 43 = .ok (.aload_n 1, 1) := by decide +kernel
theorem dX2_isCaught_44 : decode cX2_isCaught 44 = .ok (.getfield 114, 3) := by decide +kernel
theorem dX2_isCaught_47 : decode cX2_isCaught 47 = .ok (.invokevirtual 104, 3) := by decide +kernel
theorem dX2_isCaught_50 : decode cX2_isCaught 50 = .ok (.ifCond .ne 7, 3) := by decide +kernel
theorem dX2_isCaught_53 : decode cX2_isCaught 53 = .ok (.iconst 1, 1) := by decide +kernel
theorem dX2_isCaught_54 : decode cX2_isCaught 54 = .ok (.goto 4, 3) := by decide +kernel
theorem dX2_isCaught_57 : decode cX2_isCaught 57 = .ok (.iconst 0, 1) := by decide +kernel
theorem dX2_isCaught_58 : decode cX2_isCaught 58 = .ok (.ireturn, 1) := by decide +kernel
theorem dX2_isWarm_0 : decode cX2_isWarm 0 = .ok (.aload_n 1, 1) := by decide +kernel
theorem dX2_isWarm_1 : decode cX2_isWarm 1 = .ok (.iload_n 2, 1) := by decide +kernel
theorem dX2_isWarm_2 : decode cX2_isWarm 2 = .ok (.invokevirtual 124, 3) := by decide +kernel
theorem dX2_isWarm_5 : decode cX2_isWarm 5 = .ok (.aload_n 0, 1) := by decide +kernel
theorem dX2_isWarm_6 : decode cX2_isWarm 6 = .ok (.iload_n 2, 1) := by decide +kernel
theorem dX2_isWarm_7 : decode cX2_isWarm 7 = .ok (.invokevirtual 127, 3) := by decide +kernel
theorem dX2_isWarm_10 : decode cX2_isWarm 10 = .ok (.if_icmp .lt 7, 3) := by decide +kernel
theorem dX2_isWarm_13 : decode cX2_isWarm 13 = .ok (.iconst 1, 1) := by decide +kernel
theorem dX2_isWarm_14 : decode cX2_isWarm 14 = .ok (.goto 4, 3) := by decide +kernel
theorem dX2_isWarm_17 : decode cX2_isWarm 17 = .ok (.iconst 0, 1) := by decide +kernel
theorem dX2_isWarm_18 : decode cX2_isWarm 18 = .ok (.ireturn, 1) := by decide +kernel
theorem dX2_warmOnes_0 : decode cX2_warmOnes 0 = .ok (.iconst 0, 1) := by decide +kernel
theorem dX2_warmOnes_1 : decode cX2_warmOnes 1 = .ok (.istore_n 2, 1) := by decide +kernel
theorem dX2_warmOnes_2 : decode cX2_warmOnes 2 = .ok (.iconst 0, 1) := by decide +kernel
theorem dX2_warmOnes_3 : decode cX2_warmOnes 3 = .ok (.istore_n 3, 1) := by decide +kernel
theorem dX2_warmOnes_4 : decode cX2_warmOnes 4 = .ok (.iload_n 3, 1) := by decide +kernel
theorem dX2_warmOnes_5 : decode cX2_warmOnes 5 = .ok (.aload_n 0, 1) := by decide +kernel
theorem dX2_warmOnes_6 : decode cX2_warmOnes 6 = .ok (.getfield 31, 3) := by decide +kernel
theorem dX2_warmOnes_9 : decode cX2_warmOnes 9 = .ok (.if_icmp .ge 24, 3) := by decide +kernel
theorem dX2_warmOnes_12 : decode cX2_warmOnes 12 = .ok (.aload_n 0, 1) := by decide +kernel
theorem dX2_warmOnes_13 : decode cX2_warmOnes 13 = .ok (.aload_n 1, 1) := by decide +kernel
theorem dX2_warmOnes_14 : decode cX2_warmOnes 14 = .ok (.iload_n 3, 1) := by decide +kernel
theorem dX2_warmOnes_15 : decode cX2_warmOnes 15 = .ok (.invokevirtual 130, 3) := by decide +kernel
theorem dX2_warmOnes_18 : decode cX2_warmOnes 18 = .ok (.ifCond .eq 9, 3) := by decide +kernel
theorem dX2_warmOnes_21 : decode cX2_warmOnes 21 = .ok (.iload_n 2, 1) := by decide +kernel
theorem dX2_warmOnes_22 : decode cX2_warmOnes 22 = .ok (.iconst 1, 1) := by decide +kernel
theorem dX2_warmOnes_23 : decode cX2_warmOnes 23 = .ok (.iload_n 3, 1) := by decide +kernel
theorem dX2_warmOnes_24 : decode cX2_warmOnes 24 = .ok (.ishl, 1) := by decide +kernel
theorem dX2_warmOnes_25 : decode cX2_warmOnes 25 = .ok (.ior, 1) := by decide +kernel
theorem dX2_warmOnes_26 : decode cX2_warmOnes 26 = .ok (.istore_n 2, 1) := by decide +kernel
theorem dX2_warmOnes_27 : decode cX2_warmOnes 27 = .ok (.iinc 3 1, 3) := by decide +kernel
theorem dX2_warmOnes_30 : decode cX2_warmOnes 30 = .ok (.goto (-26), 3) := by decide +kernel
theorem dX2_warmOnes_33 : decode cX2_warmOnes 33 = .ok (.iload_n 2, 1) := by decide +kernel
theorem dX2_warmOnes_34 : decode cX2_warmOnes 34 = .ok (.ireturn, 1) := by decide +kernel
theorem dX2_areAllWarm_0 : decode cX2_areAllWarm 0 = .ok (.aload_n 0, 1) := by decide +kernel
theorem dX2_areAllWarm_1 : decode cX2_areAllWarm 1 = .ok (.aload_n 1, 1) := by decide +kernel
theorem dX2_areAllWarm_2 : decode cX2_areAllWarm 2 = .ok (.invokevirtual 134, 3) := by decide +kernel
theorem dX2_areAllWarm_5 : decode cX2_areAllWarm 5 = .ok (.iconst 1, 1) := by decide +kernel
theorem dX2_areAllWarm_6 : decode cX2_areAllWarm 6 = .ok (.aload_n 0, 1) := by decide +kernel
theorem dX2_areAllWarm_7 : decode cX2_areAllWarm 7 = .ok (.getfield 31, 3) := by decide +kernel
theorem dX2_areAllWarm_10 : decode cX2_areAllWarm 10 = .ok (.ishl, 1) := by decide +kernel
theorem dX2_areAllWarm_11 : decode cX2_areAllWarm 11 = .ok (.iconst 1, 1) := by decide +kernel
theorem dX2_areAllWarm_12 : decode cX2_areAllWarm 12 = .ok (.isub, 1) := by decide +kernel
theorem dX2_areAllWarm_13 : decode cX2_areAllWarm 13 = .ok (.if_icmp .ne 7, 3) := by decide +kernel
theorem dX2_areAllWarm_16 : decode cX2_areAllWarm 16 = .ok (.iconst 1, 1) := by decide +kernel
theorem dX2_areAllWarm_17 : decode cX2_areAllWarm 17 = .ok (.goto 4, 3) := by decide +kernel
theorem dX2_areAllWarm_20 : decode cX2_areAllWarm 20 = .ok (.iconst 0, 1) := by decide +kernel
theorem dX2_areAllWarm_21 : decode cX2_areAllWarm 21 = .ok (.ireturn, 1) := by decide +kernel
theorem dX2_firstDayFor_0 : decode cX2_firstDayFor 0 = .ok (.aload_n 1, 1) := by decide +kernel
theorem dX2_firstDayFor_1 : decode cX2_firstDayFor 1 = .ok (.iload_n 3, 1) := by decide +kernel
theorem dX2_firstDayFor_2 : decode cX2_firstDayFor 2 = .ok (.invokevirtual 110, 3) := by decide +kernel
theorem dX2_firstDayFor_5 : decode cX2_firstDayFor 5 = .ok (.ifCond .eq 6, 3) := by decide +kernel
theorem dX2_firstDayFor_8 : decode cX2_firstDayFor 8 = .ok (.bipush (-4), 2) := by decide +kernel
theorem dX2_firstDayFor_10 : decode cX2_firstDayFor 10 = .ok (.ireturn, 1) := by decide +kernel
theorem dX2_firstDayFor_11 : decode cX2_firstDayFor 11 = .ok (.aload_n 1, 1) := by decide +kernel
theorem dX2_firstDayFor_12 : decode cX2_firstDayFor 12 = .ok (.getfield 114, 3) := by decide +kernel
theorem dX2_firstDayFor_15 : decode cX2_firstDayFor 15 = .ok (.istore 4, 2) := by decide +kernel
theorem dX2_firstDayFor_17 : decode cX2_firstDayFor 17 = .ok (.iload 4, 2) := by decide +kernel
theorem dX2_firstDayFor_19 : decode cX2_firstDayFor 19 = .ok (.bipush 99, 2) := by decide +kernel
theorem dX2_firstDayFor_21 : decode cX2_firstDayFor 21 = .ok (.if_icmp .gt 25, 3) := by decide +kernel
theorem dX2_firstDayFor_24 : decode cX2_firstDayFor 24 = .ok (.aload_n 0, 1) := by decide +kernel
theorem dX2_firstDayFor_25 : decode cX2_firstDayFor 25 = .ok (.aload_n 1, 1) := by decide +kernel
theorem dX2_firstDayFor_26 : decode cX2_firstDayFor 26 = .ok (.iload_n 2, 1) := by decide +kernel
theorem dX2_firstDayFor_27 : decode cX2_firstDayFor 27 = .ok (.iload_n 3, 1) := by decide +kernel
theorem dX2_firstDayFor_28 : decode cX2_firstDayFor 28 = .ok (.iload 4, 2) := by decide +kernel
theorem dX2_firstDayFor_30 : decode cX2_firstDayFor 30 = .ok (.iconst 0, 1) := by decide +kernel
theorem dX2_firstDayFor_31 : decode cX2_firstDayFor 31 = .ok (.invokevirtual 120, 3) := by decide +kernel
theorem dX2_firstDayFor_34 : decode cX2_firstDayFor 34 = .ok (.ifCond .eq 6, 3) := by decide +kernel
theorem dX2_firstDayFor_37 : decode cX2_firstDayFor 37 = .ok (.iload 4, 2) := by decide +kernel
theorem dX2_firstDayFor_39 : decode cX2_firstDayFor 39 = .ok (.ireturn, 1) := by decide +kernel
theorem dX2_firstDayFor_40 : decode cX2_firstDayFor 40 = .ok (.iinc 4 1, 3) := by decide +kernel
theorem dX2_firstDayFor_43 : decode cX2_firstDayFor 43 = .ok (.goto (-26), 3) := by decide +kernel
theorem dX2_firstDayFor_46 : decode cX2_firstDayFor 46 = .ok (.bipush (-4), 2) := by decide +kernel
theorem dX2_firstDayFor_48 : decode cX2_firstDayFor 48 = .ok (.ireturn, 1) := by decide +kernel
theorem dX2_nobodyEverTakes_0 : decode cX2_nobodyEverTakes 0 = .ok (.iconst 0, 1) := by decide +kernel
theorem dX2_nobodyEverTakes_1 : decode cX2_nobodyEverTakes 1 = .ok (.istore_n 3, 1) := by decide +kernel
theorem dX2_nobodyEverTakes_2 : decode cX2_nobodyEverTakes 2 = .ok (.iload_n 3, 1) := by decide +kernel
theorem dX2_nobodyEverTakes_3 : decode cX2_nobodyEverTakes 3 = .ok (.aload_n 0, 1) := by decide +kernel
theorem dX2_nobodyEverTakes_4 : decode cX2_nobodyEverTakes 4 = .ok (.getfield 31, 3) := by decide +kernel
theorem dX2_nobodyEverTakes_7 : decode cX2_nobodyEverTakes 7 = .ok (.if_icmp .ge 23, 3) := by decide +kernel
theorem dX2_nobodyEverTakes_10 : decode cX2_nobodyEverTakes 10 = .ok (.aload_n 0, 1) := by decide +kernel
theorem dX2_nobodyEverTakes_11 : decode cX2_nobodyEverTakes 11 = .ok (.aload_n 1, 1) := by decide +kernel
theorem dX2_nobodyEverTakes_12 : decode cX2_nobodyEverTakes 12 = .ok (.iload_n 3, 1) := by decide +kernel
theorem dX2_nobodyEverTakes_13 : decode cX2_nobodyEverTakes 13 = .ok (.iload_n 2, 1) := by decide +kernel
theorem dX2_nobodyEverTakes_14 : decode cX2_nobodyEverTakes 14 = .ok (.invokevirtual 138, 3) := by decide +kernel
theorem dX2_nobodyEverTakes_17 : decode cX2_nobodyEverTakes 17 = .ok (.bipush (-4), 2) := by decide +kernel
theorem dX2_nobodyEverTakes_19 : decode cX2_nobodyEverTakes 19 = .ok (.if_icmp .eq 5, 3) := by decide +kernel
theorem dX2_nobodyEverTakes_22 : decode cX2_nobodyEverTakes 22 = .ok (.iconst 0, 1) := by decide +kernel
theorem dX2_nobodyEverTakes_23 : decode cX2_nobodyEverTakes 23 = .ok (.ireturn, 1) := by decide +kernel
theorem dX2_nobodyEverTakes_24 : decode cX2_nobodyEverTakes 24 = .ok (.iinc 3 1, 3) := by decide +kernel
theorem dX2_nobodyEverTakes_27 : decode cX2_nobodyEverTakes 27 = .ok (.goto (-25), 3) := by decide +kernel
theorem dX2_nobodyEverTakes_30 : decode cX2_nobodyEverTakes 30 = .ok (.iconst 1, 1) := by decide +kernel
theorem dX2_nobodyEverTakes_31 : decode cX2_nobodyEverTakes 31 = .ok (.ireturn, 1) := by decide +kernel
theorem dX3_init_0 : decode cX3_init 0 = .ok (.aload_n 0, 1) := by decide +kernel
theorem dX3_init_1 : decode cX3_init 1 = .ok (.invokespecial 1, 3) := by decide +kernel
theorem dX3_init_4 : decode cX3_init 4 = .ok (.aload_n 0, 1) := by decide +kernel
theorem dX3_init_5 : decode cX3_init 5 = .ok (.iconst 0, 1) := by decide +kernel
theorem dX3_init_6 : decode cX3_init 6 = .ok (.iload_n 1, 1) := by decide +kernel
theorem dX3_init_7 : decode cX3_init 7 = .ok (.invokestatic 7, 3) := by decide +kernel
theorem dX3_init_10 : decode cX3_init 10 = .ok (.anewarray 13, 3) := by decide +kernel
theorem dX3_init_13 : decode cX3_init 13 = .ok (.putfield 15, 3) := by decide +kernel
theorem dX3_init_16 : decode cX3_init 16 = .ok (.iconst 0, 1) := by decide +kernel
theorem dX3_init_17 : decode cX3_init 17 = .ok (.istore_n 2, 1) := by decide +kernel
theorem dX3_init_18 : decode cX3_init 18 = .ok (.iload_n 2, 1) := by decide +kernel
theorem dX3_init_19 : decode cX3_init 19 = .ok (.aload_n 0, 1) := by decide +kernel
theorem dX3_init_20 : decode cX3_init 20 = .ok (.getfield 15, 3) := by decide +kernel
theorem dX3_init_23 : decode cX3_init 23 = .ok (.arraylength, 1) := by decide +kernel
theorem dX3_init_24 : decode cX3_init 24 = .ok (.if_icmp .ge 22, 3) := by decide +kernel
theorem dX3_init_27 : decode cX3_init 27 = .ok (.aload_n 0, 1) := by decide +kernel
theorem dX3_init_28 : decode cX3_init 28 = .ok (.getfield 15, 3) := by decide +kernel
theorem dX3_init_31 : decode cX3_init 31 = .ok (.iload_n 2, 1) := by decide +kernel
theorem dX3_init_32 : decode cX3_init 32 = .ok (.new 13, 3) := by decide +kernel
theorem dX3_init_35 : decode cX3_init 35 = .ok (.dup, 1) := by decide +kernel
theorem dX3_init_36 : decode cX3_init 36 = .ok (.invokespecial 21, 3) := by decide +kernel
theorem dX3_init_39 : decode cX3_init 39 = .ok (.aastore, 1) := by decide +kernel
theorem dX3_init_40 : decode cX3_init 40 = .ok (.iinc 2 1, 3) := by decide +kernel
theorem dX3_init_43 : decode cX3_init 43 = .ok (.goto (-25), 3) := by decide +kernel
theorem dX3_init_46 : decode cX3_init 46 = .ok (.return_, 1) := by decide +kernel
theorem dX3_isFull_0 : decode cX3_isFull 0 = .ok (.aload_n 0, 1) := by decide +kernel
theorem dX3_isFull_1 : decode cX3_isFull 1 = .ok (.getfield 22, 3) := by decide +kernel
theorem dX3_isFull_4 : decode cX3_isFull 4 = .ok (.aload_n 0, 1) := by decide +kernel
theorem dX3_isFull_5 : decode cX3_isFull 5 = .ok (.getfield 15, 3) := by decide +kernel
theorem dX3_isFull_8 : decode cX3_isFull 8 = .ok (.arraylength, 1) := by decide +kernel
theorem dX3_isFull_9 : decode cX3_isFull 9 = .ok (.if_icmp .lt 7, 3) := by decide +kernel
theorem dX3_isFull_12 : decode cX3_isFull 12 = .ok (.iconst 1, 1) := by decide +kernel
theorem dX3_isFull_13 : decode cX3_isFull 13 = .ok (.goto 4, 3) := by decide +kernel
theorem dX3_isFull_16 : decode cX3_isFull 16 = .ok (.iconst 0, 1) := by decide +kernel
theorem dX3_isFull_17 : decode cX3_isFull 17 = .ok (.ireturn, 1) := by decide +kernel
theorem dX3_clear_0 : decode cX3_clear 0 = .ok (.aload_n 0, 1) := by decide +kernel
theorem dX3_clear_1 : decode cX3_clear 1 = .ok (.iconst 0, 1) := by decide +kernel
theorem dX3_clear_2 : decode cX3_clear 2 = .ok (.putfield 22, 3) := by decide +kernel
theorem dX3_clear_5 : decode cX3_clear 5 = .ok (.return_, 1) := by decide +kernel
theorem dX3_add_0 : decode cX3_add 0 = .ok (.aload_n 0, 1) := by decide +kernel
theorem dX3_add_1 : decode cX3_add 1 = .ok (.invokevirtual 26, 3) := by decide +kernel
theorem dX3_add_4 : decode cX3_add 4 = .ok (.ifCond .eq 7, 3) := by decide +kernel
theorem dX3_add_7 : decode cX3_add 7 = .ok (.aload_n 0, 1) := by decide +kernel
theorem dX3_add_8 : decode cX3_add 8 = .ok (.invokevirtual 30, 3) := by decide +kernel
theorem dX3_add_11 : decode cX3_add 11 = .ok (.aload_n 0, 1) := by decide +kernel
theorem dX3_add_12 : decode cX3_add 12 = .ok (.getfield 22, 3) := by decide +kernel
theorem dX3_add_15 : decode cX3_add 15 = .ok (.ifCond .lt 50, 3) := by decide +kernel
theorem dX3_add_18 : decode cX3_add 18 = .ok (.aload_n 0, 1) := by decide +kernel
theorem dX3_add_19 : decode cX3_add 19 = .ok (.getfield 22, 3) := by decide +kernel
theorem dX3_add_22 : decode cX3_add 22 = .ok (.aload_n 0, 1) := by decide +kernel
theorem dX3_add_23 : decode cX3_add 23 = .ok (.getfield 15, 3) := by decide +kernel
theorem dX3_add_26 : decode cX3_add 26 = .ok (.arraylength, 1) := by decide +kernel
theorem dX3_add_27 : decode cX3_add 27 = .ok (.if_icmp .ge 38, 3) := by decide +kernel
theorem dX3_add_30 : decode cX3_add 30 = .ok (.aload_n 0, 1) := by decide +kernel
theorem dX3_add_31 : decode cX3_add 31 = .ok (.getfield 15, 3) := by decide +kernel
theorem dX3_add_34 : decode cX3_add 34 = .ok (.aload_n 0, 1) := by decide +kernel
theorem dX3_add_35 : decode cX3_add 35 = .ok (.getfield 22, 3) := by decide +kernel
theorem dX3_add_38 : decode cX3_add 38 = .ok (.aaload, 1) := by decide +kernel
theorem dX3_add_39 : decode cX3_add 39 = .ok (.ifnull 26, 3) := by decide +kernel
theorem dX3_add_42 : decode cX3_add 42 = .ok (.aload_n 0, 1) := by decide +kernel
theorem dX3_add_43 : decode cX3_add 43 = .ok (.getfield 15, 3) := by decide +kernel
theorem dX3_add_46 : decode cX3_add 46 = .ok (.aload_n 0, 1) := by decide +kernel
theorem dX3_add_47 : decode cX3_add 47 = .ok (.getfield 22, 3) := by decide +kernel
theorem dX3_add_50 : decode cX3_add 50 = .ok (.aaload, 1) := by decide +kernel
theorem dX3_add_51 : decode cX3_add 51 = .ok (.aload_n 1, 1) := by decide +kernel
theorem dX3_add_52 : decode cX3_add 52 = .ok (.invokevirtual 33, 3) := by decide +kernel
theorem dX3_add_55 : decode cX3_add 55 = .ok (.aload_n 0, 1) := by decide +kernel
theorem dX3_add_56 : decode cX3_add 56 = .ok (.dup, 1) := by decide +kernel
theorem dX3_add_57 : decode cX3_add 57 = .ok (.getfield 22, 3) := by decide +kernel
theorem dX3_add_60 : decode cX3_add 60 = .ok (.iconst 1, 1) := by decide +kernel
theorem dX3_add_61 : decode cX3_add 61 = .ok (.iadd, 1) := by decide +kernel
theorem dX3_add_62 : decode cX3_add 62 = .ok (.putfield 22, 3) := by decide +kernel
theorem dX3_add_65 : decode cX3_add 65 = .ok (.return_, 1) := by decide +kernel
theorem dX3_moveLastTo_0 : decode cX3_moveLastTo 0 = .ok (.aload_n 0, 1) := by decide +kernel
theorem dX3_moveLastTo_1 : decode cX3_moveLastTo 1 = .ok (.getfield 22, 3) := by decide +kernel
theorem dX3_moveLastTo_4 : decode cX3_moveLastTo 4 = .ok (.ifCond .le 38, 3) := by decide +kernel
theorem dX3_moveLastTo_7 : decode cX3_moveLastTo 7 = .ok (.aload_n 0, 1) := by decide +kernel
theorem dX3_moveLastTo_8 : decode cX3_moveLastTo 8 = .ok (.getfield 22, 3) := by decide +kernel
theorem dX3_moveLastTo_11 : decode cX3_moveLastTo 11 = .ok (.aload_n 0, 1) := by decide +kernel
theorem dX3_moveLastTo_12 : decode cX3_moveLastTo 12 = .ok (.getfield 15, 3) := by decide +kernel
theorem dX3_moveLastTo_15 : decode cX3_moveLastTo 15 = .ok (.arraylength, 1) := by decide +kernel
theorem dX3_moveLastTo_16 : decode cX3_moveLastTo 16 = .ok (.if_icmp .gt 26, 3) := by decide +kernel
theorem dX3_moveLastTo_19 : decode cX3_moveLastTo 19 = .ok (.aload_n 0, 1) := by decide +kernel
theorem dX3_moveLastTo_20 : decode cX3_moveLastTo 20 = .ok (.dup, 1) := by decide +kernel
theorem dX3_moveLastTo_21 : decode cX3_moveLastTo 21 = .ok (.getfield 22, 3) := by decide +kernel
theorem dX3_moveLastTo_24 : decode cX3_moveLastTo 24 = .ok (.iconst 1, 1) := by decide +kernel
theorem dX3_moveLastTo_25 : decode cX3_moveLastTo 25 = .ok (.isub, 1) := by decide +kernel
theorem dX3_moveLastTo_26 : decode cX3_moveLastTo 26 = .ok (.putfield 22, 3) := by decide +kernel
theorem dX3_moveLastTo_29 : decode cX3_moveLastTo 29 = .ok (.aload_n 1, 1) := by decide +kernel
theorem dX3_moveLastTo_30 : decode cX3_moveLastTo 30 = .ok (.aload_n 0, 1) := by decide +kernel
theorem dX3_moveLastTo_31 : decode cX3_moveLastTo 31 = .ok (.getfield 15, 3) := by decide +kernel
theorem dX3_moveLastTo_34 : decode cX3_moveLastTo 34 = .ok (.aload_n 0, 1) := by decide +kernel
theorem dX3_moveLastTo_35 : decode cX3_moveLastTo 35 = .ok (.getfield 22, 3) := by decide +kernel
theorem dX3_moveLastTo_38 : decode cX3_moveLastTo 38 = .ok (.aaload, 1) := by decide +kernel
theorem dX3_moveLastTo_39 : decode cX3_moveLastTo 39 = .ok (.invokevirtual 33, 3) := by decide +kernel
theorem dX3_moveLastTo_42 : decode cX3_moveLastTo 42 = .ok (.return_, 1) := by decide +kernel
theorem dX3_dropOldest_0 : decode cX3_dropOldest 0 = .ok (.aload_n 0, 1) := by decide +kernel
theorem dX3_dropOldest_1 : decode cX3_dropOldest 1 = .ok (.getfield 22, 3) := by decide +kernel
theorem dX3_dropOldest_4 : decode cX3_dropOldest 4 = .ok (.ifCond .le 72, 3) := by decide +kernel
theorem dX3_dropOldest_7 : decode cX3_dropOldest 7 = .ok (.aload_n 0, 1) := by decide +kernel
theorem dX3_dropOldest_8 : decode cX3_dropOldest 8 = .ok (.getfield 22, 3) := by decide +kernel
theorem dX3_dropOldest_11 : decode cX3_dropOldest 11 = .ok (.aload_n 0, 1) := by decide +kernel
theorem dX3_dropOldest_12 : decode cX3_dropOldest 12 = .ok (.getfield 15, 3) := by decide +kernel
theorem dX3_dropOldest_15 : decode cX3_dropOldest 15 = .ok (.arraylength, 1) := by decide +kernel
theorem dX3_dropOldest_16 : decode cX3_dropOldest 16 = .ok (.if_icmp .gt 60, 3) := by decide +kernel
theorem dX3_dropOldest_19 : decode cX3_dropOldest 19 = .ok (.aload_n 0, 1) := by decide +kernel
theorem dX3_dropOldest_20 : decode cX3_dropOldest 20 = .ok (.getfield 15, 3) := by decide +kernel
theorem dX3_dropOldest_23 : decode cX3_dropOldest 23 = .ok (.iconst 0, 1) := by decide +kernel
theorem dX3_dropOldest_24 : decode cX3_dropOldest 24 = .ok (.aaload, 1) := by decide +kernel
theorem dX3_dropOldest_25 : decode cX3_dropOldest 25 = .ok (.astore_n 1, 1) := by decide +kernel
theorem dX3_dropOldest_26 : decode cX3_dropOldest 26 = .ok (.iconst 1, 1) := by decide +kernel
theorem dX3_dropOldest_27 : decode cX3_dropOldest 27 = .ok (.istore_n 2, 1) := by decide +kernel
theorem dX3_dropOldest_28 : decode cX3_dropOldest 28 = .ok (.iload_n 2, 1) := by decide +kernel
theorem dX3_dropOldest_29 : decode cX3_dropOldest 29 = .ok (.aload_n 0, 1) := by decide +kernel
theorem dX3_dropOldest_30 : decode cX3_dropOldest 30 = .ok (.getfield 22, 3) := by decide +kernel
theorem dX3_dropOldest_33 : decode cX3_dropOldest 33 = .ok (.if_icmp .ge 23, 3) := by decide +kernel
theorem dX3_dropOldest_36 : decode cX3_dropOldest 36 = .ok (.aload_n 0, 1) := by decide +kernel
theorem dX3_dropOldest_37 : decode cX3_dropOldest 37 = .ok (.getfield 15, 3) := by decide +kernel
theorem dX3_dropOldest_40 : decode cX3_dropOldest 40 = .ok (.iload_n 2, 1) := by decide +kernel
theorem dX3_dropOldest_41 : decode cX3_dropOldest 41 = .ok (.iconst 1, 1) := by decide +kernel
theorem dX3_dropOldest_42 : decode cX3_dropOldest 42 = .ok (.isub, 1) := by decide +kernel
theorem dX3_dropOldest_43 : decode cX3_dropOldest 43 = .ok (.aload_n 0, 1) := by decide +kernel
theorem dX3_dropOldest_44 : decode cX3_dropOldest 44 = .ok (.getfield 15, 3) := by decide +kernel
theorem dX3_dropOldest_47 : decode cX3_dropOldest 47 = .ok (.iload_n 2, 1) := by decide +kernel
theorem dX3_dropOldest_48 : decode cX3_dropOldest 48 = .ok (.aaload, 1) := by decide +kernel
theorem dX3_dropOldest_49 : decode cX3_dropOldest 49 = .ok (.aastore, 1) := by decide +kernel
theorem dX3_dropOldest_50 : decode cX3_dropOldest 50 = .ok (.iinc 2 1, 3) := by decide +kernel
theorem dX3_dropOldest_53 : decode cX3_dropOldest 53 = .ok (.goto (-25), 3) := by decide +kernel
theorem dX3_dropOldest_56 : decode cX3_dropOldest 56 = .ok (.aload_n 0, 1) := by decide +kernel
theorem dX3_dropOldest_57 : decode cX3_dropOldest 57 = .ok (.dup, 1) := by decide +kernel
theorem dX3_dropOldest_58 : decode cX3_dropOldest 58 = .ok (.getfield 22, 3) := by decide +kernel
theorem dX3_dropOldest_61 : decode cX3_dropOldest 61 = .ok (.iconst 1, 1) := by decide +kernel
theorem dX3_dropOldest_62 : decode cX3_dropOldest 62 = .ok (.isub, 1) := by decide +kernel
theorem dX3_dropOldest_63 : decode cX3_dropOldest 63 = .ok (.putfield 22, 3) := by decide +kernel
theorem dX3_dropOldest_66 : decode cX3_dropOldest 66 = .ok (.aload_n 0, 1) := by decide +kernel
theorem dX3_dropOldest_67 : decode cX3_dropOldest 67 = .ok (.getfield 15, 3) := by decide +kernel
theorem dX3_dropOldest_70 : decode cX3_dropOldest 70 = .ok (.aload_n 0, 1) := by decide +kernel
theorem dX3_dropOldest_71 : decode cX3_dropOldest 71 = .ok (.getfield 22, 3) := by decide +kernel
theorem dX3_dropOldest_74 : decode cX3_dropOldest 74 = .ok (.aload_n 1, 1) := by decide +kernel
theorem dX3_dropOldest_75 : decode cX3_dropOldest 75 = .ok (.aastore, 1) := by decide +kernel
theorem dX3_dropOldest_76 : decode cX3_dropOldest 76 = .ok (.return_, 1) := by decide +kernel
theorem dX4_init_0 : decode cX4_init 0 = .ok (.aload_n 0, 1) := by decide +kernel
theorem dX4_init_1 : decode cX4_init 1 = .ok (.invokespecial 5, 3) := by decide +kernel
theorem dX4_init_4 : decode cX4_init 4 = .ok (.aload_n 0, 1) := by decide +kernel
theorem dX4_init_5 : decode cX4_init 5 = .ok (.bipush 20, 2) := by decide +kernel
theorem dX4_init_7 : decode cX4_init 7 = .ok (.newarray .int, 2) := by decide +kernel
theorem dX4_init_9 : decode cX4_init 9 = .ok (.putfield 11, 3) := by decide +kernel
theorem dX4_init_12 : decode cX4_init 12 = .ok (.return_, 1) := by decide +kernel
theorem dX4_become_0 : decode cX4_become 0 = .ok (.aload_n 1, 1) := by decide +kernel
theorem dX4_become_1 : decode cX4_become 1 = .ok (.ifnull 34, 3) := by decide +kernel
theorem dX4_become_4 : decode cX4_become 4 = .ok (.aload_n 0, 1) := by decide +kernel
theorem dX4_become_5 : decode cX4_become 5 = .ok (.aload_n 1, 1) := by decide +kernel
theorem dX4_become_6 : decode cX4_become 6 = .ok (.getfield 15, 3) := by decide +kernel
theorem dX4_become_9 : decode cX4_become 9 = .ok (.putfield 15, 3) := by decide +kernel
theorem dX4_become_12 : decode cX4_become 12 = .ok (.aload_n 0, 1) := by decide +kernel
theorem dX4_become_13 : decode cX4_become 13 = .ok (.aload_n 1, 1) := by decide +kernel
theorem dX4_become_14 : decode cX4_become 14 = .ok (.getfield 19, 3) := by decide +kernel
theorem dX4_become_17 : decode cX4_become 17 = .ok (.putfield 19, 3) := by decide +kernel
theorem dX4_become_20 : decode cX4_become 20 = .ok (.aload_n 1, 1) := by decide +kernel
theorem dX4_become_21 : decode cX4_become 21 = .ok (.getfield 11, 3) := by decide +kernel
theorem dX4_become_24 : decode cX4_become 24 = .ok (.iconst 0, 1) := by decide +kernel
theorem dX4_become_25 : decode cX4_become 25 = .ok (.aload_n 0, 1) := by decide +kernel
theorem dX4_become_26 : decode cX4_become 26 = .ok (.getfield 11, 3) := by decide +kernel
theorem dX4_become_29 : decode cX4_become 29 = .ok (.iconst 0, 1) := by decide +kernel
theorem dX4_become_30 : decode cX4_become 30 = .ok (.bipush 20, 2) := by decide +kernel
theorem dX4_become_32 : decode cX4_become 32 = .ok (.invokestatic 22, 3) := by decide +kernel
theorem dX4_become_35 : decode cX4_become 35 = .ok (.return_, 1) := by decide +kernel
theorem dX4_clear_0 : decode cX4_clear 0 = .ok (.aload_n 0, 1) := by decide +kernel
theorem dX4_clear_1 : decode cX4_clear 1 = .ok (.iconst 0, 1) := by decide +kernel
theorem dX4_clear_2 : decode cX4_clear 2 = .ok (.putfield 15, 3) := by decide +kernel
theorem dX4_clear_5 : decode cX4_clear 5 = .ok (.aload_n 0, 1) := by decide +kernel
theorem dX4_clear_6 : decode cX4_clear 6 = .ok (.iconst 0, 1) := by decide +kernel
theorem dX4_clear_7 : decode cX4_clear 7 = .ok (.putfield 19, 3) := by decide +kernel
theorem dX4_clear_10 : decode cX4_clear 10 = .ok (.iconst 0, 1) := by decide +kernel
theorem dX4_clear_11 : decode cX4_clear 11 = .ok (.istore_n 1, 1) := by decide +kernel
theorem dX4_clear_12 : decode cX4_clear 12 = .ok (.iload_n 1, 1) := by decide +kernel
theorem dX4_clear_13 : decode cX4_clear 13 = .ok (.aload_n 0, 1) := by decide +kernel
theorem dX4_clear_14 : decode cX4_clear 14 = .ok (.getfield 11, 3) := by decide +kernel
theorem dX4_clear_17 : decode cX4_clear 17 = .ok (.arraylength, 1) := by decide +kernel
theorem dX4_clear_18 : decode cX4_clear 18 = .ok (.if_icmp .ge 16, 3) := by decide +kernel
theorem dX4_clear_21 : decode cX4_clear 21 = .ok (.aload_n 0, 1) := by decide +kernel
theorem dX4_clear_22 : decode cX4_clear 22 = .ok (.getfield 11, 3) := by decide +kernel
theorem dX4_clear_25 : decode cX4_clear 25 = .ok (.iload_n 1, 1) := by decide +kernel
theorem dX4_clear_26 : decode cX4_clear 26 = .ok (.iconst 0, 1) := by decide +kernel
theorem dX4_clear_27 : decode cX4_clear 27 = .ok (.iastore, 1) := by decide +kernel
theorem dX4_clear_28 : decode cX4_clear 28 = .ok (.iinc 1 1, 3) := by decide +kernel
theorem dX4_clear_31 : decode cX4_clear 31 = .ok (.goto (-19), 3) := by decide +kernel
theorem dX4_clear_34 : decode cX4_clear 34 = .ok (.return_, 1) := by decide +kernel
theorem dX4_deadFrom_0 : decode cX4_deadFrom 0 = .ok (.iload_n 1, 1) := by decide +kernel
theorem dX4_deadFrom_1 : decode cX4_deadFrom 1 = .ok (.ifCond .lt 18, 3) := by decide +kernel
theorem dX4_deadFrom_4 : decode cX4_deadFrom 4 = .ok (.iload_n 1, 1) := by decide +kernel
theorem dX4_deadFrom_5 : decode cX4_deadFrom 5 = .ok (.bipush 8, 2) := by decide +kernel
theorem dX4_deadFrom_7 : decode cX4_deadFrom 7 = .ok (.if_icmp .ge 12, 3) := by decide +kernel
theorem dX4_deadFrom_10 : decode cX4_deadFrom 10 = .ok (.aload_n 0, 1) := by decide +kernel
theorem dX4_deadFrom_11 : decode cX4_deadFrom 11 = .ok (.getfield 11, 3) := by decide +kernel
theorem dX4_deadFrom_14 : decode cX4_deadFrom 14 = .ok (.iload_n 1, 1) := by decide +kernel
theorem dX4_deadFrom_15 : decode cX4_deadFrom 15 = .ok (.iaload, 1) := by decide +kernel
theorem dX4_deadFrom_16 : decode cX4_deadFrom 16 = .ok (.goto 5, 3) := by decide +kernel
theorem dX4_deadFrom_19 : decode cX4_deadFrom 19 = .ok (.bipush 100, 2) := by decide +kernel
theorem dX4_deadFrom_21 : decode cX4_deadFrom 21 = .ok (.ireturn, 1) := by decide +kernel
theorem dX4_setDeadFrom_0 : decode cX4_setDeadFrom 0 = .ok (.iload_n 1, 1) := by decide +kernel
theorem dX4_setDeadFrom_1 : decode cX4_setDeadFrom 1 = .ok (.ifCond .lt 16, 3) := by decide +kernel
theorem dX4_setDeadFrom_4 : decode cX4_setDeadFrom 4 = .ok (.iload_n 1, 1) := by decide +kernel
theorem dX4_setDeadFrom_5 : decode cX4_setDeadFrom 5 = .ok (.bipush 8, 2) := by decide +kernel
theorem dX4_setDeadFrom_7 : decode cX4_setDeadFrom 7 = .ok (.if_icmp .ge 10, 3) := by decide +kernel
theorem dX4_setDeadFrom_10 : decode cX4_setDeadFrom 10 = .ok (.aload_n 0, 1) := by decide +kernel
theorem dX4_setDeadFrom_11 : decode cX4_setDeadFrom 11 = .ok (.getfield 11, 3) := by decide +kernel
theorem dX4_setDeadFrom_14 : decode cX4_setDeadFrom 14 = .ok (.iload_n 1, 1) := by decide +kernel
theorem dX4_setDeadFrom_15 : decode cX4_setDeadFrom 15 = .ok (.iload_n 2, 1) := by decide +kernel
theorem dX4_setDeadFrom_16 : decode cX4_setDeadFrom 16 = .ok (.iastore, 1) := by decide +kernel
theorem dX4_setDeadFrom_17 : decode cX4_setDeadFrom 17 = .ok (.return_, 1) := by decide +kernel
theorem dX4_isGone_0 : decode cX4_isGone 0 = .ok (.iload_n 1, 1) := by decide +kernel
theorem dX4_isGone_1 : decode cX4_isGone 1 = .ok (.ifCond .lt 25, 3) := by decide +kernel
theorem dX4_isGone_4 : decode cX4_isGone 4 = .ok (.iload_n 1, 1) := by decide +kernel
theorem dX4_isGone_5 : decode cX4_isGone 5 = .ok (.bipush 8, 2) := by decide +kernel
theorem dX4_isGone_7 : decode cX4_isGone 7 = .ok (.if_icmp .ge 19, 3) := by decide +kernel
theorem dX4_isGone_10 : decode cX4_isGone 10 = .ok (.aload_n 0, 1) := by decide +kernel
theorem dX4_isGone_11 : decode cX4_isGone 11 = .ok (.getfield 19, 3) := by decide +kernel
theorem dX4_isGone_14 : decode cX4_isGone 14 = .ok (.iload_n 1, 1) := by decide +kernel
theorem dX4_isGone_15 : decode cX4_isGone 15 = .ok (.ishr, 1) := by decide +kernel
theorem dX4_isGone_16 : decode cX4_isGone 16 = .ok (.iconst 1, 1) := by decide +kernel
theorem dX4_isGone_17 : decode cX4_isGone 17 = .ok (.iand, 1) := by decide +kernel
theorem dX4_isGone_18 : decode cX4_isGone 18 = .ok (.iconst 1, 1) := by decide +kernel
theorem dX4_isGone_19 : decode cX4_isGone 19 = .ok (.if_icmp .ne 7, 3) := by decide +kernel
theorem dX4_isGone_22 : decode cX4_isGone 22 = .ok (.iconst 1, 1) := by decide +kernel
theorem dX4_isGone_23 : decode cX4_isGone 23 = .ok (.goto 4, 3) := by decide +kernel
theorem dX4_isGone_26 : decode cX4_isGone 26 = .ok (.iconst 0, 1) := by decide +kernel
theorem dX4_isGone_27 : decode cX4_isGone 27 = .ok (.ireturn, 1) := by decide +kernel
theorem dX4_stack_0 : decode cX4_stack 0 = .ok (.iload_n 1, 1) := by decide +kernel
theorem dX4_stack_1 : decode cX4_stack 1 = .ok (.ifCond .lt 20, 3) := by decide +kernel
theorem dX4_stack_4 : decode cX4_stack 4 = .ok (.iload_n 1, 1) := by decide +kernel
theorem dX4_stack_5 : decode cX4_stack 5 = .ok (.iconst 4, 1) := by decide +kernel
theorem dX4_stack_6 : decode cX4_stack 6 = .ok (.if_icmp .ge 15, 3) := by decide +kernel
theorem dX4_stack_9 : decode cX4_stack 9 = .ok (.aload_n 0, 1) := by decide +kernel
theorem dX4_stack_10 : decode cX4_stack 10 = .ok (.getfield 11, 3) := by decide +kernel
theorem dX4_stack_13 : decode cX4_stack 13 = .ok (.bipush 8, 2) := by decide +kernel
theorem dX4_stack_15 : decode cX4_stack 15 = .ok (.iload_n 1, 1) := by decide +kernel
theorem dX4_stack_16 : decode cX4_stack 16 = .ok (.iadd, 1) := by decide +kernel
theorem dX4_stack_17 : decode cX4_stack 17 = .ok (.iaload, 1) := by decide +kernel
theorem dX4_stack_18 : decode cX4_stack 18 = .ok (.goto 4, 3) := by decide +kernel
theorem dX4_stack_21 : decode cX4_stack 21 = .ok (.iconst 0, 1) := by decide +kernel
theorem dX4_stack_22 : decode cX4_stack 22 = .ok (.ireturn, 1) := by decide +kernel
theorem dX4_reach_0 : decode cX4_reach 0 = .ok (.iload_n 1, 1) := by decide +kernel
theorem dX4_reach_1 : decode cX4_reach 1 = .ok (.ifCond .lt 20, 3) := by decide +kernel
theorem dX4_reach_4 : decode cX4_reach 4 = .ok (.iload_n 1, 1) := by decide +kernel
theorem dX4_reach_5 : decode cX4_reach 5 = .ok (.iconst 4, 1) := by decide +kernel
theorem dX4_reach_6 : decode cX4_reach 6 = .ok (.if_icmp .ge 15, 3) := by decide +kernel
theorem dX4_reach_9 : decode cX4_reach 9 = .ok (.aload_n 0, 1) := by decide +kernel
theorem dX4_reach_10 : decode cX4_reach 10 = .ok (.getfield 11, 3) := by decide +kernel
theorem dX4_reach_13 : decode cX4_reach 13 = .ok (.bipush 12, 2) := by decide +kernel
theorem dX4_reach_15 : decode cX4_reach 15 = .ok (.iload_n 1, 1) := by decide +kernel
theorem dX4_reach_16 : decode cX4_reach 16 = .ok (.iadd, 1) := by decide +kernel
theorem dX4_reach_17 : decode cX4_reach 17 = .ok (.iaload, 1) := by decide +kernel
theorem dX4_reach_18 : decode cX4_reach 18 = .ok (.goto 4, 3) := by decide +kernel
theorem dX4_reach_21 : decode cX4_reach 21 = .ok (.iconst 0, 1) := by decide +kernel
theorem dX4_reach_22 : decode cX4_reach 22 = .ok (.ireturn, 1) := by decide +kernel
theorem dX4_setReach_0 : decode cX4_setReach 0 = .ok (.iload_n 1, 1) := by decide +kernel
theorem dX4_setReach_1 : decode cX4_setReach 1 = .ok (.ifCond .lt 18, 3) := by decide +kernel
theorem dX4_setReach_4 : decode cX4_setReach 4 = .ok (.iload_n 1, 1) := by decide +kernel
theorem dX4_setReach_5 : decode cX4_setReach 5 = .ok (.iconst 4, 1) := by decide +kernel
theorem dX4_setReach_6 : decode cX4_setReach 6 = .ok (.if_icmp .ge 13, 3) := by decide +kernel
theorem dX4_setReach_9 : decode cX4_setReach 9 = .ok (.aload_n 0, 1) := by decide +kernel
theorem dX4_setReach_10 : decode cX4_setReach 10 = .ok (.getfield 11, 3) := by decide +kernel
theorem dX4_setReach_13 : decode cX4_setReach 13 = .ok (.bipush 12, 2) := by decide +kernel
theorem dX4_setReach_15 : decode cX4_setReach 15 = .ok (.iload_n 1, 1) := by decide +kernel
theorem dX4_setReach_16 : decode cX4_setReach 16 = .ok (.iadd, 1) := by decide +kernel
theorem dX4_setReach_17 : decode cX4_setReach 17 = .ok (.iload_n 2, 1) := by decide +kernel
theorem dX4_setReach_18 : decode cX4_setReach 18 = .ok (.iastore, 1) := by decide +kernel
theorem dX4_setReach_19 : decode cX4_setReach 19 = .ok (.return_, 1) := by decide +kernel
theorem dX4_carried_0 : decode cX4_carried 0 = .ok (.iload_n 1, 1) := by decide +kernel
theorem dX4_carried_1 : decode cX4_carried 1 = .ok (.ifCond .lt 20, 3) := by decide +kernel
theorem dX4_carried_4 : decode cX4_carried 4 = .ok (.iload_n 1, 1) := by decide +kernel
theorem dX4_carried_5 : decode cX4_carried 5 = .ok (.iconst 4, 1) := by decide +kernel
theorem dX4_carried_6 : decode cX4_carried 6 = .ok (.if_icmp .ge 15, 3) := by decide +kernel
theorem dX4_carried_9 : decode cX4_carried 9 = .ok (.aload_n 0, 1) := by decide +kernel
theorem dX4_carried_10 : decode cX4_carried 10 = .ok (.getfield 11, 3) := by decide +kernel
theorem dX4_carried_13 : decode cX4_carried 13 = .ok (.bipush 16, 2) := by decide +kernel
theorem dX4_carried_15 : decode cX4_carried 15 = .ok (.iload_n 1, 1) := by decide +kernel
theorem dX4_carried_16 : decode cX4_carried 16 = .ok (.iadd, 1) := by decide +kernel
theorem dX4_carried_17 : decode cX4_carried 17 = .ok (.iaload, 1) := by decide +kernel
theorem dX4_carried_18 : decode cX4_carried 18 = .ok (.goto 4, 3) := by decide +kernel
theorem dX4_carried_21 : decode cX4_carried 21 = .ok (.iconst 0, 1) := by decide +kernel
theorem dX4_carried_22 : decode cX4_carried 22 = .ok (.ireturn, 1) := by decide +kernel
theorem dX4_pick_0 : decode cX4_pick 0 = .ok (.iload_n 1, 1) := by decide +kernel
theorem dX4_pick_1 : decode cX4_pick 1 = .ok (.ifCond .lt 56, 3) := by decide +kernel
theorem dX4_pick_4 : decode cX4_pick 4 = .ok (.iload_n 1, 1) := by decide +kernel
theorem dX4_pick_5 : decode cX4_pick 5 = .ok (.iconst 4, 1) := by decide +kernel
theorem dX4_pick_6 : decode cX4_pick 6 = .ok (.if_icmp .ge 51, 3) := by decide +kernel
theorem dX4_pick_9 : decode cX4_pick 9 = .ok (.iload_n 2, 1) := by decide +kernel
theorem dX4_pick_10 : decode cX4_pick 10 = .ok (.ifCond .lt 47, 3) := by decide +kernel
theorem dX4_pick_13 : decode cX4_pick 13 = .ok (.iload_n 2, 1) := by decide +kernel
theorem dX4_pick_14 : decode cX4_pick 14 = .ok (.bipush 8, 2) := by decide +kernel
theorem dX4_pick_16 : decode cX4_pick 16 = .ok (.if_icmp .ge 41, 3) := by decide +kernel
theorem dX4_pick_19 : decode cX4_pick 19 = .ok (.aload_n 0, 1) := by decide +kernel
theorem dX4_pick_20 : decode cX4_pick 20 = .ok (.dup, 1) := by decide +kernel
theorem dX4_pick_21 : decode cX4_pick 21 = .ok (.getfield 19, 3) := by decide +kernel
theorem dX4_pick_24 : decode cX4_pick 24 = .ok (.iconst 1, 1) := by decide +kernel
theorem dX4_pick_25 : decode cX4_pick 25 = .ok (.iload_n 2, 1) := by decide +kernel
theorem dX4_pick_26 : decode cX4_pick 26 = .ok (.ishl, 1) := by decide +kernel
theorem dX4_pick_27 : decode cX4_pick 27 = .ok (.ior, 1) := by decide +kernel
theorem dX4_pick_28 : decode cX4_pick 28 = .ok (.putfield 19, 3) := by decide +kernel
theorem dX4_pick_31 : decode cX4_pick 31 = .ok (.aload_n 0, 1) := by decide +kernel
theorem dX4_pick_32 : decode cX4_pick 32 = .ok (.getfield 11, 3) := by decide +kernel
theorem dX4_pick_35 : decode cX4_pick 35 = .ok (.bipush 8, 2) := by decide +kernel
theorem dX4_pick_37 : decode cX4_pick 37 = .ok (.iload_n 1, 1) := by decide +kernel
theorem dX4_pick_38 : decode cX4_pick 38 = .ok (.iadd, 1) := by decide +kernel
theorem dX4_pick_39 : decode cX4_pick 39 = .ok (.dup2, 1) := by decide +kernel
theorem dX4_pick_40 : decode cX4_pick 40 = .ok (.iaload, 1) := by decide +kernel
theorem dX4_pick_41 : decode cX4_pick 41 = .ok (.iload_n 3, 1) := by decide +kernel
theorem dX4_pick_42 : decode cX4_pick 42 = .ok (.iadd, 1) := by decide +kernel
theorem dX4_pick_43 : decode cX4_pick 43 = .ok (.iastore, 1) := by decide +kernel
theorem dX4_pick_44 : decode cX4_pick 44 = .ok (.aload_n 0, 1) := by decide +kernel
theorem dX4_pick_45 : decode cX4_pick 45 = .ok (.getfield 11, 3) := by decide +kernel
theorem dX4_pick_48 : decode cX4_pick 48 = .ok (.bipush 16, 2) := by decide +kernel
theorem dX4_pick_50 : decode cX4_pick 50 = .ok (.iload_n 1, 1) := by decide +kernel
theorem dX4_pick_51 : decode cX4_pick 51 = .ok (.iadd, 1) := by decide +kernel
theorem dX4_pick_52 : decode cX4_pick 52 = .ok (.dup2, 1) := by decide +kernel
theorem dX4_pick_53 : decode cX4_pick 53 = .ok (.iaload, 1) := by decide +kernel
theorem dX4_pick_54 : decode cX4_pick 54 = .ok (.iload_n 3, 1) := by decide +kernel
theorem dX4_pick_55 : decode cX4_pick 55 = .ok (.iadd, 1) := by decide +kernel
theorem dX4_pick_56 : decode cX4_pick 56 = .ok (.iastore, 1) := by decide +kernel
theorem dX4_pick_57 : decode cX4_pick 57 = .ok (.return_, 1) := by decide +kernel
theorem dX4_loseStack_0 : decode cX4_loseStack 0 = .ok (.iload_n 1, 1) := by decide +kernel
theorem dX4_loseStack_1 : decode cX4_loseStack 1 = .ok (.ifCond .lt 18, 3) := by decide +kernel
theorem dX4_loseStack_4 : decode cX4_loseStack 4 = .ok (.iload_n 1, 1) := by decide +kernel
theorem dX4_loseStack_5 : decode cX4_loseStack 5 = .ok (.iconst 4, 1) := by decide +kernel
theorem dX4_loseStack_6 : decode cX4_loseStack 6 = .ok (.if_icmp .ge 13, 3) := by decide +kernel
theorem dX4_loseStack_9 : decode cX4_loseStack 9 = .ok (.aload_n 0, 1) := by decide +kernel
theorem dX4_loseStack_10 : decode cX4_loseStack 10 = .ok (.getfield 11, 3) := by decide +kernel
theorem dX4_loseStack_13 : decode cX4_loseStack 13 = .ok (.bipush 8, 2) := by decide +kernel
theorem dX4_loseStack_15 : decode cX4_loseStack 15 = .ok (.iload_n 1, 1) := by decide +kernel
theorem dX4_loseStack_16 : decode cX4_loseStack 16 = .ok (.iadd, 1) := by decide +kernel
theorem dX4_loseStack_17 : decode cX4_loseStack 17 = .ok (.iconst 0, 1) := by decide +kernel
theorem dX4_loseStack_18 : decode cX4_loseStack 18 = .ok (.iastore, 1) := by decide +kernel
theorem dX4_loseStack_19 : decode cX4_loseStack 19 = .ok (.return_, 1) := by decide +kernel
theorem dX4_goBy_0 : decode cX4_goBy 0 = .ok (.aload_n 0, 1) := by decide +kernel
theorem dX4_goBy_1 : decode cX4_goBy 1 = .ok (.dup, 1) := by decide +kernel
theorem dX4_goBy_2 : decode cX4_goBy 2 = .ok (.getfield 15, 3) := by decide +kernel
theorem dX4_goBy_5 : decode cX4_goBy 5 = .ok (.iload_n 1, 1) := by decide +kernel
theorem dX4_goBy_6 : decode cX4_goBy 6 = .ok (.iadd, 1) := by decide +kernel
theorem dX4_goBy_7 : decode cX4_goBy 7 = .ok (.putfield 15, 3) := by decide +kernel
theorem dX4_goBy_10 : decode cX4_goBy 10 = .ok (.iconst 0, 1) := by decide +kernel
theorem dX4_goBy_11 : decode cX4_goBy 11 = .ok (.istore_n 2, 1) := by decide +kernel
theorem dX4_goBy_12 : decode cX4_goBy 12 = .ok (.iload_n 2, 1) := by decide +kernel
theorem dX4_goBy_13 : decode cX4_goBy 13 = .ok (.iconst 4, 1) := by decide +kernel
theorem dX4_goBy_14 : decode cX4_goBy 14 = .ok (.if_icmp .ge 19, 3) := by decide +kernel
theorem dX4_goBy_17 : decode cX4_goBy 17 = .ok (.aload_n 0, 1) := by decide +kernel
theorem dX4_goBy_18 : decode cX4_goBy 18 = .ok (.getfield 11, 3) := by decide +kernel
theorem dX4_goBy_21 : decode cX4_goBy 21 = .ok (.bipush 16, 2) := by decide +kernel
theorem dX4_goBy_23 : decode cX4_goBy 23 = .ok (.iload_n 2, 1) := by decide +kernel
theorem dX4_goBy_24 : decode cX4_goBy 24 = .ok (.iadd, 1) := by decide +kernel
theorem dX4_goBy_25 : decode cX4_goBy 25 = .ok (.iconst 0, 1) := by decide +kernel
theorem dX4_goBy_26 : decode cX4_goBy 26 = .ok (.iastore, 1) := by decide +kernel
theorem dX4_goBy_27 : decode cX4_goBy 27 = .ok (.iinc 2 1, 3) := by decide +kernel
theorem dX4_goBy_30 : decode cX4_goBy 30 = .ok (.goto (-18), 3) := by decide +kernel
theorem dX4_goBy_33 : decode cX4_goBy 33 = .ok (.return_, 1) := by decide +kernel
theorem dX5_init_0 : decode cX5_init 0 = .ok (.aload_n 0, 1) := by decide +kernel
theorem dX5_init_1 : decode cX5_init 1 = .ok (.invokespecial 3, 3) := by decide +kernel
theorem dX5_init_4 : decode cX5_init 4 = .ok (.aload_n 0, 1) := by decide +kernel
theorem dX5_init_5 : decode cX5_init 5 = .ok (.sipush 200, 3) := by decide +kernel
theorem dX5_init_8 : decode cX5_init 8 = .ok (.newarray .char, 2) := by decide +kernel
theorem dX5_init_10 : decode cX5_init 10 = .ok (.putfield 11, 3) := by decide +kernel
theorem dX5_init_13 : decode cX5_init 13 = .ok (.aload_n 0, 1) := by decide +kernel
theorem dX5_init_14 : decode cX5_init 14 = .ok (.iconst 4, 1) := by decide +kernel
theorem dX5_init_15 : decode cX5_init 15 = .ok (.newarray .int, 2) := by decide +kernel
theorem dX5_init_17 : decode cX5_init 17 = .ok (.putfield 15, 3) := by decide +kernel
theorem dX5_init_20 : decode cX5_init 20 = .ok (.return_, 1) := by decide +kernel
theorem dX5_isFull_0 : decode cX5_isFull 0 = .ok (.aload_n 0, 1) := by decide +kernel
theorem dX5_isFull_1 : decode cX5_isFull 1 = .ok (.getfield 19, 3) := by decide +kernel
theorem dX5_isFull_4 : decode cX5_isFull 4 = .ok (.sipush 200, 3) := by decide +kernel
theorem dX5_isFull_7 : decode cX5_isFull 7 = .ok (.if_icmp .lt 7, 3) := by decide +kernel
theorem dX5_isFull_10 : decode cX5_isFull 10 = .ok (.iconst 1, 1) := by decide +kernel
theorem dX5_isFull_11 : decode cX5_isFull 11 = .ok (.goto 4, 3) := by decide +kernel
theorem dX5_isFull_14 : decode cX5_isFull 14 = .ok (.iconst 0, 1) := by decide +kernel
theorem dX5_isFull_15 : decode cX5_isFull 15 = .ok (.ireturn, 1) := by decide +kernel
theorem dX5_add_0 : decode cX5_add 0 = .ok (.aload_n 0, 1) := by decide +kernel
theorem dX5_add_1 : decode cX5_add 1 = .ok (.getfield 19, 3) := by decide +kernel
theorem dX5_add_4 : decode cX5_add 4 = .ok (.ifCond .lt 35, 3) := by decide +kernel
theorem dX5_add_7 : decode cX5_add 7 = .ok (.aload_n 0, 1) := by decide +kernel
theorem dX5_add_8 : decode cX5_add 8 = .ok (.getfield 19, 3) := by decide +kernel
theorem dX5_add_11 : decode cX5_add 11 = .ok (.aload_n 0, 1) := by decide +kernel
theorem dX5_add_12 : decode cX5_add 12 = .ok (.getfield 11, 3) := by decide +kernel
theorem dX5_add_15 : decode cX5_add 15 = .ok (.arraylength, 1) := by decide +kernel
theorem dX5_add_16 : decode cX5_add 16 = .ok (.if_icmp .ge 23, 3) := by decide +kernel
theorem dX5_add_19 : decode cX5_add 19 = .ok (.aload_n 0, 1) := by decide +kernel
theorem dX5_add_20 : decode cX5_add 20 = .ok (.getfield 11, 3) := by decide +kernel
theorem dX5_add_23 : decode cX5_add 23 = .ok (.aload_n 0, 1) := by decide +kernel
theorem dX5_add_24 : decode cX5_add 24 = .ok (.getfield 19, 3) := by decide +kernel
theorem dX5_add_27 : decode cX5_add 27 = .ok (.iload_n 1, 1) := by decide +kernel
theorem dX5_add_28 : decode cX5_add 28 = .ok (.castore, 1) := by decide +kernel
theorem dX5_add_29 : decode cX5_add 29 = .ok (.aload_n 0, 1) := by decide +kernel
theorem dX5_add_30 : decode cX5_add 30 = .ok (.dup, 1) := by decide +kernel
theorem dX5_add_31 : decode cX5_add 31 = .ok (.getfield 19, 3) := by decide +kernel
theorem dX5_add_34 : decode cX5_add 34 = .ok (.iconst 1, 1) := by decide +kernel
theorem dX5_add_35 : decode cX5_add 35 = .ok (.iadd, 1) := by decide +kernel
theorem dX5_add_36 : decode cX5_add 36 = .ok (.putfield 19, 3) := by decide +kernel
theorem dX5_add_39 : decode cX5_add 39 = .ok (.return_, 1) := by decide +kernel
theorem dX5_become_0 : decode cX5_become 0 = .ok (.aload_n 0, 1) := by decide +kernel
theorem dX5_become_1 : decode cX5_become 1 = .ok (.iconst 0, 1) := by decide +kernel
theorem dX5_become_2 : decode cX5_become 2 = .ok (.putfield 19, 3) := by decide +kernel
theorem dX5_become_5 : decode cX5_become 5 = .ok (.iconst 0, 1) := by decide +kernel
theorem dX5_become_6 : decode cX5_become 6 = .ok (.istore_n 2, 1) := by decide +kernel
theorem dX5_become_7 : decode cX5_become 7 = .ok (.iload_n 2, 1) := by decide +kernel
theorem dX5_become_8 : decode cX5_become 8 = .ok (.aload_n 1, 1) := by decide +kernel
theorem dX5_become_9 : decode cX5_become 9 = .ok (.invokevirtual 23, 3) := by decide +kernel
theorem dX5_become_12 : decode cX5_become 12 = .ok (.if_icmp .ge 18, 3) := by decide +kernel
theorem dX5_become_15 : decode cX5_become 15 = .ok (.aload_n 0, 1) := by decide +kernel
theorem dX5_become_16 : decode cX5_become 16 = .ok (.aload_n 1, 1) := by decide +kernel
theorem dX5_become_17 : decode cX5_become 17 = .ok (.iload_n 2, 1) := by decide +kernel
theorem dX5_become_18 : decode cX5_become 18 = .ok (.invokevirtual 28, 3) := by decide +kernel
theorem dX5_become_21 : decode cX5_become 21 = .ok (.invokevirtual 32, 3) := by decide +kernel
theorem dX5_become_24 : decode cX5_become 24 = .ok (.iinc 2 1, 3) := by decide +kernel
theorem dX5_become_27 : decode cX5_become 27 = .ok (.goto (-20), 3) := by decide +kernel
theorem dX5_become_30 : decode cX5_become 30 = .ok (.return_, 1) := by decide +kernel
theorem dX5_letter_0 : decode cX5_letter 0 = .ok (.iload_n 1, 1) := by decide +kernel
theorem dX5_letter_1 : decode cX5_letter 1 = .ok (.ifCond .lt 29, 3) := by decide +kernel
theorem dX5_letter_4 : decode cX5_letter 4 = .ok (.iload_n 1, 1) := by decide +kernel
theorem dX5_letter_5 : decode cX5_letter 5 = .ok (.aload_n 0, 1) := by decide +kernel
theorem dX5_letter_6 : decode cX5_letter 6 = .ok (.getfield 19, 3) := by decide +kernel
theorem dX5_letter_9 : decode cX5_letter 9 = .ok (.if_icmp .ge 21, 3) := by decide +kernel
theorem dX5_letter_12 : decode cX5_letter 12 = .ok (.iload_n 1, 1) := by decide +kernel
theorem dX5_letter_13 : decode cX5_letter 13 = .ok (.aload_n 0, 1) := by decide +kernel
theorem dX5_letter_14 : decode cX5_letter 14 = .ok (.getfield 11, 3) := by decide +kernel
theorem dX5_letter_17 : decode cX5_letter 17 = .ok (.arraylength, 1) := by decide +kernel
theorem dX5_letter_18 : decode cX5_letter 18 = .ok (.if_icmp .ge 12, 3) := by decide +kernel
theorem dX5_letter_21 : decode cX5_letter 21 = .ok (.aload_n 0, 1) := by decide +kernel
theorem dX5_letter_22 : decode cX5_letter 22 = .ok (.getfield 11, 3) := by decide +kernel
theorem dX5_letter_25 : decode cX5_letter 25 = .ok (.iload_n 1, 1) := by decide +kernel
theorem dX5_letter_26 : decode cX5_letter 26 = .ok (.caload, 1) := by decide +kernel
theorem dX5_letter_27 : decode cX5_letter 27 = .ok (.goto 4, 3) := by decide +kernel
theorem dX5_letter_30 : decode cX5_letter 30 = .ok (.iconst 0, 1) := by decide +kernel
theorem dX5_letter_31 : decode cX5_letter 31 = .ok (.ireturn, 1) := by decide +kernel
theorem dX5_number_0 : decode cX5_number 0 = .ok (.iload_n 1, 1) := by decide +kernel
theorem dX5_number_1 : decode cX5_number 1 = .ok (.ifCond .lt 21, 3) := by decide +kernel
theorem dX5_number_4 : decode cX5_number 4 = .ok (.iload_n 1, 1) := by decide +kernel
theorem dX5_number_5 : decode cX5_number 5 = .ok (.aload_n 0, 1) := by decide +kernel
theorem dX5_number_6 : decode cX5_number 6 = .ok (.getfield 15, 3) := by decide +kernel
theorem dX5_number_9 : decode cX5_number 9 = .ok (.arraylength, 1) := by decide +kernel
theorem dX5_number_10 : decode cX5_number 10 = .ok (.if_icmp .ge 12, 3) := by decide +kernel
theorem dX5_number_13 : decode cX5_number 13 = .ok (.aload_n 0, 1) := by decide +kernel
theorem dX5_number_14 : decode cX5_number 14 = .ok (.getfield 15, 3) := by decide +kernel
theorem dX5_number_17 : decode cX5_number 17 = .ok (.iload_n 1, 1) := by decide +kernel
theorem dX5_number_18 : decode cX5_number 18 = .ok (.iaload, 1) := by decide +kernel
theorem dX5_number_19 : decode cX5_number 19 = .ok (.goto 4, 3) := by decide +kernel
theorem dX5_number_22 : decode cX5_number 22 = .ok (.iconst 0, 1) := by decide +kernel
theorem dX5_number_23 : decode cX5_number 23 = .ok (.ireturn, 1) := by decide +kernel
theorem dX5_firstFault_0 : decode cX5_firstFault 0 = .ok (.iconst 0, 1) := by decide +kernel
theorem dX5_firstFault_1 : decode cX5_firstFault 1 = .ok (.istore_n 1, 1) := by decide +kernel
theorem dX5_firstFault_2 : decode cX5_firstFault 2 = .ok (.iconst 0, 1) := by decide +kernel
theorem dX5_firstFault_3 : decode cX5_firstFault 3 = .ok (.istore_n 2, 1) := by decide +kernel
theorem dX5_firstFault_4 : decode cX5_firstFault 4 = .ok (.iconst 0, 1) := by decide +kernel
theorem dX5_firstFault_5 : decode cX5_firstFault 5 = .ok (.istore_n 3, 1) := by decide +kernel
theorem dX5_firstFault_6 : decode cX5_firstFault 6 = .ok (.iconst 0, 1) := by decide +kernel
theorem dX5_firstFault_7 : decode cX5_firstFault 7 = .ok (.istore 4, 2) := by decide +kernel
theorem dX5_firstFault_9 : decode cX5_firstFault 9 = .ok (.iload 4, 2) := by decide +kernel
theorem dX5_firstFault_11 : decode cX5_firstFault 11 = .ok (.sipush 200, 3) := by decide +kernel
theorem dX5_firstFault_14 : decode cX5_firstFault 14 = .ok (.if_icmp .ge 74, 3) := by decide +kernel
theorem dX5_firstFault_17 : decode cX5_firstFault 17 = .ok (.iload_n 3, 1) := by decide +kernel
theorem dX5_firstFault_18 : decode cX5_firstFault 18 = .ok (.aload_n 0, 1) := by decide +kernel
theorem dX5_firstFault_19 : decode cX5_firstFault 19 = .ok (.getfield 19, 3) := by decide +kernel
theorem dX5_firstFault_22 : decode cX5_firstFault 22 = .ok (.if_icmp .ge 66, 3) := by decide +kernel
theorem dX5_firstFault_25 : decode cX5_firstFault 25 = .ok (.aload_n 0, 1) := by decide +kernel
theorem dX5_firstFault_26 : decode cX5_firstFault 26 = .ok (.iload_n 3, 1) := by decide +kernel
theorem dX5_firstFault_27 : decode cX5_firstFault 27 = .ok (.invokevirtual 36, 3) := by decide +kernel
end
section
theorem dX5_firstFault_30 : decode cX5_firstFault 30 = .ok (.istore 5, 2) := by decide +kernel
theorem dX5_firstFault_32 : decode cX5_firstFault 32 = .ok (.aload_n 0, 1) := by decide +kernel
theorem dX5_firstFault_33 : decode cX5_firstFault 33 = .ok (.iload_n 3, 1) := by decide +kernel
theorem dX5_firstFault_34 : decode cX5_firstFault 34 = .ok (.invokevirtual 40, 3) := by decide +kernel
theorem dX5_firstFault_37 : decode cX5_firstFault 37 = .ok (.bipush 98, 2) := by decide +kernel
theorem dX5_firstFault_39 : decode cX5_firstFault 39 = .ok (.if_icmp .ne 9, 3) := by decide +kernel
theorem dX5_firstFault_42 : decode cX5_firstFault 42 = .ok (.iinc 1 1, 3) := by decide +kernel
theorem dX5_firstFault_45 : decode cX5_firstFault 45 = .ok (.goto 16, 3) := by decide +kernel
theorem dX5_firstFault_48 : decode cX5_firstFault 48 = .ok (.aload_n 0, 1) := by decide +kernel
theorem dX5_firstFault_49 : decode cX5_firstFault 49 = .ok (.iload_n 3, 1) := by decide +kernel
theorem dX5_firstFault_50 : decode cX5_firstFault 50 = .ok (.invokevirtual 40, 3) := by decide +kernel
theorem dX5_firstFault_53 : decode cX5_firstFault 53 = .ok (.bipush 116, 2) := by decide +kernel
theorem dX5_firstFault_55 : decode cX5_firstFault 55 = .ok (.if_icmp .ne 6, 3) := by decide +kernel
theorem dX5_firstFault_58 : decode cX5_firstFault 58 = .ok (.iinc 2 1, 3) := by decide +kernel
theorem dX5_firstFault_61 : decode cX5_firstFault 61 = .ok (.iload 5, 2) := by decide +kernel
theorem dX5_firstFault_63 : decode cX5_firstFault 63 = .ok (.ifCond .lt 14, 3) := by decide +kernel
theorem dX5_firstFault_66 : decode cX5_firstFault 66 = .ok (.iload_n 1, 1) := by decide +kernel
theorem dX5_firstFault_67 : decode cX5_firstFault 67 = .ok (.bipush 8, 2) := by decide +kernel
theorem dX5_firstFault_69 : decode cX5_firstFault 69 = .ok (.if_icmp .gt 8, 3) := by decide +kernel
theorem dX5_firstFault_72 : decode cX5_firstFault 72 = .ok (.iload_n 2, 1) := by decide +kernel
theorem dX5_firstFault_73 : decode cX5_firstFault 73 = .ok (.iconst 4, 1) := by decide +kernel
theorem dX5_firstFault_74 : decode cX5_firstFault 74 = .ok (.if_icmp .le 5, 3) := by decide +kernel
theorem dX5_firstFault_77 : decode cX5_firstFault 77 = .ok (.iload_n 3, 1) := by decide +kernel
theorem dX5_firstFault_78 : decode cX5_firstFault 78 = .ok (.ireturn, 1) := by decide +kernel
theorem dX5_firstFault_79 : decode cX5_firstFault 79 = .ok (.iload 5, 2) := by decide +kernel
theorem dX5_firstFault_81 : decode cX5_firstFault 81 = .ok (.istore_n 3, 1) := by decide +kernel
theorem dX5_firstFault_82 : decode cX5_firstFault 82 = .ok (.iinc 4 1, 3) := by decide +kernel
theorem dX5_firstFault_85 : decode cX5_firstFault 85 = .ok (.goto (-76), 3) := by decide +kernel
theorem dX5_firstFault_88 : decode cX5_firstFault 88 = .ok (.bipush (-4), 2) := by decide +kernel
theorem dX5_firstFault_90 : decode cX5_firstFault 90 = .ok (.ireturn, 1) := by decide +kernel
theorem dX5_canBeLaid_0 : decode cX5_canBeLaid 0 = .ok (.aload_n 0, 1) := by decide +kernel
theorem dX5_canBeLaid_1 : decode cX5_canBeLaid 1 = .ok (.invokevirtual 43, 3) := by decide +kernel
theorem dX5_canBeLaid_4 : decode cX5_canBeLaid 4 = .ok (.bipush (-4), 2) := by decide +kernel
theorem dX5_canBeLaid_6 : decode cX5_canBeLaid 6 = .ok (.if_icmp .ne 25, 3) := by decide +kernel
theorem dX5_canBeLaid_9 : decode cX5_canBeLaid 9 = .ok (.aload_n 0, 1) := by decide +kernel
theorem dX5_canBeLaid_10 : decode cX5_canBeLaid 10 = .ok (.bipush 98, 2) := by decide +kernel
theorem dX5_canBeLaid_12 : decode cX5_canBeLaid 12 = .ok (.invokevirtual 46, 3) := by decide +kernel
theorem dX5_canBeLaid_15 : decode cX5_canBeLaid 15 = .ok (.ifCond .eq 16, 3) := by decide +kernel
theorem dX5_canBeLaid_18 : decode cX5_canBeLaid 18 = .ok (.aload_n 0, 1) := by decide +kernel
theorem dX5_canBeLaid_19 : decode cX5_canBeLaid 19 = .ok (.bipush 116, 2) := by decide +kernel
theorem dX5_canBeLaid_21 : decode cX5_canBeLaid 21 = .ok (.invokevirtual 46, 3) := by decide +kernel
theorem dX5_canBeLaid_24 : decode cX5_canBeLaid 24 = .ok (.ifCond .eq 7, 3) := by decide +kernel
theorem dX5_canBeLaid_27 : decode cX5_canBeLaid 27 = .ok (.iconst 1, 1) := by decide +kernel
theorem dX5_canBeLaid_28 : decode cX5_canBeLaid 28 = .ok (.goto 4, 3) := by decide +kernel
theorem dX5_canBeLaid_31 : decode cX5_canBeLaid 31 = .ok (.iconst 0, 1) := by decide +kernel
theorem dX5_canBeLaid_32 : decode cX5_canBeLaid 32 = .ok (.ireturn, 1) := by decide +kernel
theorem dX5_has_0 : decode cX5_has 0 = .ok (.iconst 0, 1) := by decide +kernel
theorem dX5_has_1 : decode cX5_has 1 = .ok (.istore_n 2, 1) := by decide +kernel
theorem dX5_has_2 : decode cX5_has 2 = .ok (.iload_n 2, 1) := by decide +kernel
theorem dX5_has_3 : decode cX5_has 3 = .ok (.aload_n 0, 1) := by decide +kernel
theorem dX5_has_4 : decode cX5_has 4 = .ok (.getfield 19, 3) := by decide +kernel
theorem dX5_has_7 : decode cX5_has 7 = .ok (.if_icmp .ge 20, 3) := by decide +kernel
theorem dX5_has_10 : decode cX5_has 10 = .ok (.aload_n 0, 1) := by decide +kernel
theorem dX5_has_11 : decode cX5_has 11 = .ok (.iload_n 2, 1) := by decide +kernel
theorem dX5_has_12 : decode cX5_has 12 = .ok (.invokevirtual 40, 3) := by decide +kernel
theorem dX5_has_15 : decode cX5_has 15 = .ok (.iload_n 1, 1) := by decide +kernel
theorem dX5_has_16 : decode cX5_has 16 = .ok (.if_icmp .ne 5, 3) := by decide +kernel
theorem dX5_has_19 : decode cX5_has 19 = .ok (.iconst 1, 1) := by decide +kernel
theorem dX5_has_20 : decode cX5_has 20 = .ok (.ireturn, 1) := by decide +kernel
theorem dX5_has_21 : decode cX5_has 21 = .ok (.iinc 2 1, 3) := by decide +kernel
theorem dX5_has_24 : decode cX5_has 24 = .ok (.goto (-22), 3) := by decide +kernel
theorem dX5_has_27 : decode cX5_has 27 = .ok (.iconst 0, 1) := by decide +kernel
theorem dX5_has_28 : decode cX5_has 28 = .ok (.ireturn, 1) := by decide +kernel
theorem dX5_readItem_0 : decode cX5_readItem 0 = .ok (.aload_n 0, 1) := by decide +kernel
theorem dX5_readItem_1 : decode cX5_readItem 1 = .ok (.iload_n 1, 1) := by decide +kernel
theorem dX5_readItem_2 : decode cX5_readItem 2 = .ok (.invokevirtual 40, 3) := by decide +kernel
theorem dX5_readItem_5 : decode cX5_readItem 5 = .ok (.invokestatic 50, 3) := by decide +kernel
theorem dX5_readItem_8 : decode cX5_readItem 8 = .ok (.istore_n 2, 1) := by decide +kernel
theorem dX5_readItem_9 : decode cX5_readItem 9 = .ok (.aload_n 0, 1) := by decide +kernel
theorem dX5_readItem_10 : decode cX5_readItem 10 = .ok (.iload_n 1, 1) := by decide +kernel
theorem dX5_readItem_11 : decode cX5_readItem 11 = .ok (.invokevirtual 40, 3) := by decide +kernel
theorem dX5_readItem_14 : decode cX5_readItem 14 = .ok (.invokestatic 54, 3) := by decide +kernel
theorem dX5_readItem_17 : decode cX5_readItem 17 = .ok (.istore_n 3, 1) := by decide +kernel
theorem dX5_readItem_18 : decode cX5_readItem 18 = .ok (.iload_n 1, 1) := by decide +kernel
theorem dX5_readItem_19 : decode cX5_readItem 19 = .ok (.iconst 1, 1) := by decide +kernel
theorem dX5_readItem_20 : decode cX5_readItem 20 = .ok (.iadd, 1) := by decide +kernel
theorem dX5_readItem_21 : decode cX5_readItem 21 = .ok (.istore 4, 2) := by decide +kernel
theorem dX5_readItem_23 : decode cX5_readItem 23 = .ok (.iconst 0, 1) := by decide +kernel
theorem dX5_readItem_24 : decode cX5_readItem 24 = .ok (.istore 5, 2) := by decide +kernel
theorem dX5_readItem_26 : decode cX5_readItem 26 = .ok (.iload 5, 2) := by decide +kernel
theorem dX5_readItem_28 : decode cX5_readItem 28 = .ok (.iload_n 3, 1) := by decide +kernel
theorem dX5_readItem_29 : decode cX5_readItem 29 = .ok (.if_icmp .ge 77, 3) := by decide +kernel
theorem dX5_readItem_32 : decode cX5_readItem 32 = .ok (.aload_n 0, 1) := by decide +kernel
theorem dX5_readItem_33 : decode cX5_readItem 33 = .ok (.iload 4, 2) := by decide +kernel
theorem dX5_readItem_35 : decode cX5_readItem 35 = .ok (.invokevirtual 57, 3) := by decide +kernel
theorem dX5_readItem_38 : decode cX5_readItem 38 = .ok (.istore 6, 2) := by decide +kernel
theorem dX5_readItem_40 : decode cX5_readItem 40 = .ok (.iload 6, 2) := by decide +kernel
theorem dX5_readItem_42 : decode cX5_readItem 42 = .ok (.ifCond .eq 20, 3) := by decide +kernel
theorem dX5_readItem_45 : decode cX5_readItem 45 = .ok (.aload_n 0, 1) := by decide +kernel
theorem dX5_readItem_46 : decode cX5_readItem 46 = .ok (.iload 4, 2) := by decide +kernel
theorem dX5_readItem_48 : decode cX5_readItem 48 = .ok (.iload 6, 2) := by decide +kernel
theorem dX5_readItem_50 : decode cX5_readItem 50 = .ok (.iload 5, 2) := by decide +kernel
theorem dX5_readItem_52 : decode cX5_readItem 52 = .ok (.iload_n 2, 1) := by decide +kernel
theorem dX5_readItem_53 : decode cX5_readItem 53 = .ok (.iload 5, 2) := by decide +kernel
theorem dX5_readItem_55 : decode cX5_readItem 55 = .ok (.iadd, 1) := by decide +kernel
theorem dX5_readItem_56 : decode cX5_readItem 56 = .ok (.invokevirtual 60, 3) := by decide +kernel
theorem dX5_readItem_59 : decode cX5_readItem 59 = .ok (.ifCond .ne 5, 3) := by decide +kernel
theorem dX5_readItem_62 : decode cX5_readItem 62 = .ok (.iconst (-1), 1) := by decide +kernel
theorem dX5_readItem_63 : decode cX5_readItem 63 = .ok (.ireturn, 1) := by decide +kernel
theorem dX5_readItem_64 : decode cX5_readItem 64 = .ok (.iload 4, 2) := by decide +kernel
theorem dX5_readItem_66 : decode cX5_readItem 66 = .ok (.iload 6, 2) := by decide +kernel
theorem dX5_readItem_68 : decode cX5_readItem 68 = .ok (.iadd, 1) := by decide +kernel
theorem dX5_readItem_69 : decode cX5_readItem 69 = .ok (.istore 4, 2) := by decide +kernel
theorem dX5_readItem_71 : decode cX5_readItem 71 = .ok (.aload_n 0, 1) := by decide +kernel
theorem dX5_readItem_72 : decode cX5_readItem 72 = .ok (.iload 4, 2) := by decide +kernel
theorem dX5_readItem_74 : decode cX5_readItem 74 = .ok (.invokevirtual 40, 3) := by decide +kernel
theorem dX5_readItem_77 : decode cX5_readItem 77 = .ok (.iload 5, 2) := by decide +kernel
theorem dX5_readItem_79 : decode cX5_readItem 79 = .ok (.iload_n 3, 1) := by decide +kernel
theorem dX5_readItem_80 : decode cX5_readItem 80 = .ok (.iconst 1, 1) := by decide +kernel
theorem dX5_readItem_81 : decode cX5_readItem 81 = .ok (.isub, 1) := by decide +kernel
theorem dX5_readItem_82 : decode cX5_readItem 82 = .ok (.if_icmp .ne 8, 3) := by decide +kernel
theorem dX5_readItem_85 : decode cX5_readItem 85 = .ok (.bipush 59, 2) := by decide +kernel
theorem dX5_readItem_87 : decode cX5_readItem 87 = .ok (.goto 5, 3) := by decide +kernel
theorem dX5_readItem_90 : decode cX5_readItem 90 = .ok (.bipush 44, 2) := by decide +kernel
theorem dX5_readItem_92 : decode cX5_readItem 92 = .ok (.if_icmp .eq 5, 3) := by decide +kernel
theorem dX5_readItem_95 : decode cX5_readItem 95 = .ok (.iconst (-1), 1) := by decide +kernel
theorem dX5_readItem_96 : decode cX5_readItem 96 = .ok (.ireturn, 1) := by decide +kernel
theorem dX5_readItem_97 : decode cX5_readItem 97 = .ok (.iinc 4 1, 3) := by decide +kernel
theorem dX5_readItem_100 : decode cX5_readItem 100 = .ok (.iinc 5 1, 3) := by decide +kernel
theorem dX5_readItem_103 : decode cX5_readItem 103 = .ok (.goto (-77), 3) := by decide +kernel
theorem dX5_readItem_106 : decode cX5_readItem 106 = .ok (.iload_n 3, 1) := by decide +kernel
theorem dX5_readItem_107 : decode cX5_readItem 107 = .ok (.ifCond .ne 7, 3) := by decide +kernel
theorem dX5_readItem_110 : decode cX5_readItem 110 = .ok (.iconst (-1), 1) := by decide +kernel
theorem dX5_readItem_111 : decode cX5_readItem 111 = .ok (.goto 5, 3) := by decide +kernel
theorem dX5_readItem_114 : decode cX5_readItem 114 = .ok (.iload 4, 2) := by decide +kernel
theorem dX5_readItem_116 : decode cX5_readItem 116 = .ok (.ireturn, 1) := by decide +kernel
theorem dX5_readNumber_0 : decode cX5_readNumber 0 = .ok (.aload_n 0, 1) := by decide +kernel
theorem dX5_readNumber_1 : decode cX5_readNumber 1 = .ok (.iload_n 1, 1) := by decide +kernel
theorem dX5_readNumber_2 : decode cX5_readNumber 2 = .ok (.invokevirtual 40, 3) := by decide +kernel
theorem dX5_readNumber_5 : decode cX5_readNumber 5 = .ok (.bipush 48, 2) := by decide +kernel
theorem dX5_readNumber_7 : decode cX5_readNumber 7 = .ok (.isub, 1) := by decide +kernel
theorem dX5_readNumber_8 : decode cX5_readNumber 8 = .ok (.istore 5, 2) := by decide +kernel
theorem dX5_readNumber_10 : decode cX5_readNumber 10 = .ok (.iload_n 2, 1) := by decide +kernel
theorem dX5_readNumber_11 : decode cX5_readNumber 11 = .ok (.iconst 2, 1) := by decide +kernel
theorem dX5_readNumber_12 : decode cX5_readNumber 12 = .ok (.if_icmp .ne 21, 3) := by decide +kernel
theorem dX5_readNumber_15 : decode cX5_readNumber 15 = .ok (.bipush 10, 2) := by decide +kernel
theorem dX5_readNumber_17 : decode cX5_readNumber 17 = .ok (.iload 5, 2) := by decide +kernel
theorem dX5_readNumber_19 : decode cX5_readNumber 19 = .ok (.imul, 1) := by decide +kernel
theorem dX5_readNumber_20 : decode cX5_readNumber 20 = .ok (.aload_n 0, 1) := by decide +kernel
theorem dX5_readNumber_21 : decode cX5_readNumber 21 = .ok (.iload_n 1, 1) := by decide +kernel
theorem dX5_readNumber_22 : decode cX5_readNumber 22 = .ok (.iconst 1, 1) := by decide +kernel
theorem dX5_readNumber_23 : decode cX5_readNumber 23 = .ok (.iadd, 1) := by decide +kernel
theorem dX5_readNumber_24 : decode cX5_readNumber 24 = .ok (.invokevirtual 40, 3) := by decide +kernel
theorem dX5_readNumber_27 : decode cX5_readNumber 27 = .ok (.iadd, 1) := by decide +kernel
theorem dX5_readNumber_28 : decode cX5_readNumber 28 = .ok (.bipush 48, 2) := by decide +kernel
theorem dX5_readNumber_30 : decode cX5_readNumber 30 = .ok (.isub, 1) := by decide +kernel
theorem dX5_readNumber_31 : decode cX5_readNumber 31 = .ok (.istore 5, 2) := by decide +kernel
theorem dX5_readNumber_33 : decode cX5_readNumber 33 = .ok (.iload_n 3, 1) := by decide +kernel
theorem dX5_readNumber_34 : decode cX5_readNumber 34 = .ok (.ifCond .lt 20, 3) := by decide +kernel
theorem dX5_readNumber_37 : decode cX5_readNumber 37 = .ok (.iload_n 3, 1) := by decide +kernel
theorem dX5_readNumber_38 : decode cX5_readNumber 38 = .ok (.aload_n 0, 1) := by decide +kernel
theorem dX5_readNumber_39 : decode cX5_readNumber 39 = .ok (.getfield 15, 3) := by decide +kernel
theorem dX5_readNumber_42 : decode cX5_readNumber 42 = .ok (.arraylength, 1) := by decide +kernel
theorem dX5_readNumber_43 : decode cX5_readNumber 43 = .ok (.if_icmp .ge 11, 3) := by decide +kernel
theorem dX5_readNumber_46 : decode cX5_readNumber 46 = .ok (.aload_n 0, 1) := by decide +kernel
theorem dX5_readNumber_47 : decode cX5_readNumber 47 = .ok (.getfield 15, 3) := by decide +kernel
theorem dX5_readNumber_50 : decode cX5_readNumber 50 = .ok (.iload_n 3, 1) := by decide +kernel
theorem dX5_readNumber_51 : decode cX5_readNumber 51 = .ok (.iload 5, 2) := by decide +kernel
theorem dX5_readNumber_53 : decode cX5_readNumber 53 = .ok (.iastore, 1) := by decide +kernel
theorem dX5_readNumber_54 : decode cX5_readNumber 54 = .ok (.iload 4, 2) := by decide +kernel
theorem dX5_readNumber_56 : decode cX5_readNumber 56 = .ok (.ifCond .lt 45, 3) := by decide +kernel
theorem dX5_readNumber_59 : decode cX5_readNumber 59 = .ok (.iload 4, 2) := by decide +kernel
theorem dX5_readNumber_61 : decode cX5_readNumber 61 = .ok (.getstatic 64, 3) := by decide +kernel
theorem dX5_readNumber_64 : decode cX5_readNumber 64 = .ok (.arraylength, 1) := by decide +kernel
theorem dX5_readNumber_65 : decode cX5_readNumber 65 = .ok (.if_icmp .ge 36, 3) := by decide +kernel
theorem dX5_readNumber_68 : decode cX5_readNumber 68 = .ok (.iload 4, 2) := by decide +kernel
theorem dX5_readNumber_70 : decode cX5_readNumber 70 = .ok (.getstatic 67, 3) := by decide +kernel
theorem dX5_readNumber_73 : decode cX5_readNumber 73 = .ok (.arraylength, 1) := by decide +kernel
theorem dX5_readNumber_74 : decode cX5_readNumber 74 = .ok (.if_icmp .ge 27, 3) := by decide +kernel
theorem dX5_readNumber_77 : decode cX5_readNumber 77 = .ok (.iload 5, 2) := by decide +kernel
theorem dX5_readNumber_79 : decode cX5_readNumber 79 = .ok (.getstatic 64, 3) := by decide +kernel
theorem dX5_readNumber_82 : decode cX5_readNumber 82 = .ok (.iload 4, 2) := by decide +kernel
theorem dX5_readNumber_84 : decode cX5_readNumber 84 = .ok (.iaload, 1) := by decide +kernel
theorem dX5_readNumber_85 : decode cX5_readNumber 85 = .ok (.getstatic 67, 3) := by decide +kernel
theorem dX5_readNumber_88 : decode cX5_readNumber 88 = .ok (.iload 4, 2) := by decide +kernel
theorem dX5_readNumber_90 : decode cX5_readNumber 90 = .ok (.iaload, 1) := by decide +kernel
theorem dX5_readNumber_91 : decode cX5_readNumber 91 = .ok (.invokestatic 70, 3) := by decide +kernel
theorem dX5_readNumber_94 : decode cX5_readNumber 94 = .ok (.ifCond .eq 7, 3) := by decide +kernel
theorem dX5_readNumber_97 : decode cX5_readNumber 97 = .ok (.iconst 1, 1) := by decide +kernel
theorem dX5_readNumber_98 : decode cX5_readNumber 98 = .ok (.goto 4, 3) := by decide +kernel
theorem dX5_readNumber_101 : decode cX5_readNumber 101 = .ok (.iconst 0, 1) := by decide +kernel
theorem dX5_readNumber_102 : decode cX5_readNumber 102 = .ok (.ireturn, 1) := by decide +kernel
theorem dX5_figuresAt_0 : decode cX5_figuresAt 0 = .ok (.aload_n 0, 1) := by decide +kernel
theorem dX5_figuresAt_1 : decode cX5_figuresAt 1 = .ok (.iload_n 1, 1) := by decide +kernel
theorem dX5_figuresAt_2 : decode cX5_figuresAt 2 = .ok (.invokevirtual 40, 3) := by decide +kernel
theorem dX5_figuresAt_5 : decode cX5_figuresAt 5 = .ok (.invokestatic 74, 3) := by decide +kernel
theorem dX5_figuresAt_8 : decode cX5_figuresAt 8 = .ok (.ifCond .ne 5, 3) := by decide +kernel
theorem dX5_figuresAt_11 : decode cX5_figuresAt 11 = .ok (.iconst 0, 1) := by decide +kernel
theorem dX5_figuresAt_12 : decode cX5_figuresAt 12 = .ok (.ireturn, 1) := by decide +kernel
theorem dX5_figuresAt_13 : decode cX5_figuresAt 13 = .ok (.aload_n 0, 1) := by decide +kernel
theorem dX5_figuresAt_14 : decode cX5_figuresAt 14 = .ok (.iload_n 1, 1) := by decide +kernel
theorem dX5_figuresAt_15 : decode cX5_figuresAt 15 = .ok (.iconst 1, 1) := by decide +kernel
theorem dX5_figuresAt_16 : decode cX5_figuresAt 16 = .ok (.iadd, 1) := by decide +kernel
theorem dX5_figuresAt_17 : decode cX5_figuresAt 17 = .ok (.invokevirtual 40, 3) := by decide +kernel
theorem dX5_figuresAt_20 : decode cX5_figuresAt 20 = .ok (.invokestatic 74, 3) := by decide +kernel
theorem dX5_figuresAt_23 : decode cX5_figuresAt 23 = .ok (.ifCond .eq 7, 3) := by decide +kernel
theorem dX5_figuresAt_26 : decode cX5_figuresAt 26 = .ok (.iconst 2, 1) := by decide +kernel
theorem dX5_figuresAt_27 : decode cX5_figuresAt 27 = .ok (.goto 4, 3) := by decide +kernel
theorem dX5_figuresAt_30 : decode cX5_figuresAt 30 = .ok (.iconst 1, 1) := by decide +kernel
theorem dX5_figuresAt_31 : decode cX5_figuresAt 31 = .ok (.ireturn, 1) := by decide +kernel
theorem dX5_isFigure_0 : decode cX5_isFigure 0 = .ok (.iload_n 0, 1) := by decide +kernel
theorem dX5_isFigure_1 : decode cX5_isFigure 1 = .ok (.bipush 48, 2) := by decide +kernel
theorem dX5_isFigure_3 : decode cX5_isFigure 3 = .ok (.if_icmp .lt 13, 3) := by decide +kernel
theorem dX5_isFigure_6 : decode cX5_isFigure 6 = .ok (.iload_n 0, 1) := by decide +kernel
theorem dX5_isFigure_7 : decode cX5_isFigure 7 = .ok (.bipush 57, 2) := by decide +kernel
theorem dX5_isFigure_9 : decode cX5_isFigure 9 = .ok (.if_icmp .gt 7, 3) := by decide +kernel
theorem dX5_isFigure_12 : decode cX5_isFigure 12 = .ok (.iconst 1, 1) := by decide +kernel
theorem dX5_isFigure_13 : decode cX5_isFigure 13 = .ok (.goto 4, 3) := by decide +kernel
theorem dX5_isFigure_16 : decode cX5_isFigure 16 = .ok (.iconst 0, 1) := by decide +kernel
theorem dX5_isFigure_17 : decode cX5_isFigure 17 = .ok (.ireturn, 1) := by decide +kernel
theorem dX5_howManyNumbers_0 : decode cX5_howManyNumbers 0 = .ok (.iload_n 0, 1) := by decide +kernel
theorem dX5_howManyNumbers_1 : decode cX5_howManyNumbers 1 = .ok (.lookupswitch 51 #[(98, 43), (102, 49), (107, 47), (116, 45)], 43) := by decide +kernel
theorem dX5_howManyNumbers_44 : decode cX5_howManyNumbers 44 = .ok (.iconst 4, 1) := by decide +kernel
theorem dX5_howManyNumbers_45 : decode cX5_howManyNumbers 45 = .ok (.ireturn, 1) := by decide +kernel
theorem dX5_howManyNumbers_46 : decode cX5_howManyNumbers 46 = .ok (.iconst 3, 1) := by decide +kernel
theorem dX5_howManyNumbers_47 : decode cX5_howManyNumbers 47 = .ok (.ireturn, 1) := by decide +kernel
theorem dX5_howManyNumbers_48 : decode cX5_howManyNumbers 48 = .ok (.iconst 2, 1) := by decide +kernel
theorem dX5_howManyNumbers_49 : decode cX5_howManyNumbers 49 = .ok (.ireturn, 1) := by decide +kernel
theorem dX5_howManyNumbers_50 : decode cX5_howManyNumbers 50 = .ok (.iconst 1, 1) := by decide +kernel
theorem dX5_howManyNumbers_51 : decode cX5_howManyNumbers 51 = .ok (.ireturn, 1) := by decide +kernel
theorem dX5_howManyNumbers_52 : decode cX5_howManyNumbers 52 = .ok (.iconst 0, 1) := by decide +kernel
theorem dX5_howManyNumbers_53 : decode cX5_howManyNumbers 53 = .ok (.ireturn, 1) := by decide +kernel
theorem dX5_firstLimit_0 : decode cX5_firstLimit 0 = .ok (.iload_n 0, 1) := by decide +kernel
theorem dX5_firstLimit_1 : decode cX5_firstLimit 1 = .ok (.lookupswitch 43 #[(102, 40), (107, 37), (116, 35)], 35) := by decide +kernel
theorem dX5_firstLimit_36 : decode cX5_firstLimit 36 = .ok (.iconst 4, 1) := by decide +kernel
theorem dX5_firstLimit_37 : decode cX5_firstLimit 37 = .ok (.ireturn, 1) := by decide +kernel
theorem dX5_firstLimit_38 : decode cX5_firstLimit 38 = .ok (.bipush 7, 2) := by decide +kernel
theorem dX5_firstLimit_40 : decode cX5_firstLimit 40 = .ok (.ireturn, 1) := by decide +kernel
theorem dX5_firstLimit_41 : decode cX5_firstLimit 41 = .ok (.bipush 9, 2) := by decide +kernel
theorem dX5_firstLimit_43 : decode cX5_firstLimit 43 = .ok (.ireturn, 1) := by decide +kernel
theorem dX5_firstLimit_44 : decode cX5_firstLimit 44 = .ok (.iconst 0, 1) := by decide +kernel
theorem dX5_firstLimit_45 : decode cX5_firstLimit 45 = .ok (.ireturn, 1) := by decide +kernel
theorem dX6_init_0 : decode cX6_init 0 = .ok (.aload_n 0, 1) := by decide +kernel
theorem dX6_init_1 : decode cX6_init 1 = .ok (.invokespecial 1, 3) := by decide +kernel
theorem dX6_init_4 : decode cX6_init 4 = .ok (.aload_n 0, 1) := by decide +kernel
theorem dX6_init_5 : decode cX6_init 5 = .ok (.new 7, 3) := by decide +kernel
theorem dX6_init_8 : decode cX6_init 8 = .ok (.dup, 1) := by decide +kernel
theorem dX6_init_9 : decode cX6_init 9 = .ok (.invokespecial 9, 3) := by decide +kernel
theorem dX6_init_12 : decode cX6_init 12 = .ok (.putfield 10, 3) := by decide +kernel
theorem dX6_init_15 : decode cX6_init 15 = .ok (.aload_n 0, 1) := by decide +kernel
theorem dX6_init_16 : decode cX6_init 16 = .ok (.new 16, 3) := by decide +kernel
theorem dX6_init_19 : decode cX6_init 19 = .ok (.dup, 1) := by decide +kernel
theorem dX6_init_20 : decode cX6_init 20 = .ok (.invokespecial 18, 3) := by decide +kernel
theorem dX6_init_23 : decode cX6_init 23 = .ok (.putfield 19, 3) := by decide +kernel
theorem dX6_init_26 : decode cX6_init 26 = .ok (.aload_n 0, 1) := by decide +kernel
theorem dX6_init_27 : decode cX6_init 27 = .ok (.new 23, 3) := by decide +kernel
theorem dX6_init_30 : decode cX6_init 30 = .ok (.dup, 1) := by decide +kernel
theorem dX6_init_31 : decode cX6_init 31 = .ok (.invokespecial 25, 3) := by decide +kernel
theorem dX6_init_34 : decode cX6_init 34 = .ok (.putfield 26, 3) := by decide +kernel
theorem dX6_init_37 : decode cX6_init 37 = .ok (.aload_n 0, 1) := by decide +kernel
theorem dX6_init_38 : decode cX6_init 38 = .ok (.new 30, 3) := by decide +kernel
theorem dX6_init_41 : decode cX6_init 41 = .ok (.dup, 1) := by decide +kernel
theorem dX6_init_42 : decode cX6_init 42 = .ok (.bipush 8, 2) := by decide +kernel
theorem dX6_init_44 : decode cX6_init 44 = .ok (.invokespecial 32, 3) := by decide +kernel
theorem dX6_init_47 : decode cX6_init 47 = .ok (.putfield 35, 3) := by decide +kernel
theorem dX6_init_50 : decode cX6_init 50 = .ok (.aload_n 0, 1) := by decide +kernel
theorem dX6_init_51 : decode cX6_init 51 = .ok (.new 30, 3) := by decide +kernel
theorem dX6_init_54 : decode cX6_init 54 = .ok (.dup, 1) := by decide +kernel
theorem dX6_init_55 : decode cX6_init 55 = .ok (.iconst 2, 1) := by decide +kernel
theorem dX6_init_56 : decode cX6_init 56 = .ok (.invokespecial 32, 3) := by decide +kernel
theorem dX6_init_59 : decode cX6_init 59 = .ok (.putfield 39, 3) := by decide +kernel
theorem dX6_init_62 : decode cX6_init 62 = .ok (.aload_n 0, 1) := by decide +kernel
theorem dX6_init_63 : decode cX6_init 63 = .ok (.new 42, 3) := by decide +kernel
theorem dX6_init_66 : decode cX6_init 66 = .ok (.dup, 1) := by decide +kernel
theorem dX6_init_67 : decode cX6_init 67 = .ok (.aload_n 0, 1) := by decide +kernel
theorem dX6_init_68 : decode cX6_init 68 = .ok (.getfield 19, 3) := by decide +kernel
theorem dX6_init_71 : decode cX6_init 71 = .ok (.invokespecial 44, 3) := by decide +kernel
theorem dX6_init_74 : decode cX6_init 74 = .ok (.putfield 47, 3) := by decide +kernel
theorem dX6_init_77 : decode cX6_init 77 = .ok (.aload_n 0, 1) := by decide +kernel
theorem dX6_init_78 : decode cX6_init 78 = .ok (.new 51, 3) := by decide +kernel
theorem dX6_init_81 : decode cX6_init 81 = .ok (.dup, 1) := by decide +kernel
theorem dX6_init_82 : decode cX6_init 82 = .ok (.aload_n 0, 1) := by decide +kernel
theorem dX6_init_83 : decode cX6_init 83 = .ok (.getfield 19, 3) := by decide +kernel
theorem dX6_init_86 : decode cX6_init 86 = .ok (.invokespecial 53, 3) := by decide +kernel
theorem dX6_init_89 : decode cX6_init 89 = .ok (.putfield 54, 3) := by decide +kernel
theorem dX6_init_92 : decode cX6_init 92 = .ok (.aload_n 0, 1) := by decide +kernel
theorem dX6_init_93 : decode cX6_init 93 = .ok (.getfield 10, 3) := by decide +kernel
theorem dX6_init_96 : decode cX6_init 96 = .ok (.ldc 58, 2) := by decide +kernel
theorem dX6_init_98 : decode cX6_init 98 = .ok (.invokevirtual 60, 3) := by decide +kernel
theorem dX6_init_101 : decode cX6_init 101 = .ok (.aload_n 0, 1) := by decide +kernel
theorem dX6_init_102 : decode cX6_init 102 = .ok (.getfield 19, 3) := by decide +kernel
theorem dX6_init_105 : decode cX6_init 105 = .ok (.aload_n 0, 1) := by decide +kernel
theorem dX6_init_106 : decode cX6_init 106 = .ok (.getfield 10, 3) := by decide +kernel
theorem dX6_init_109 : decode cX6_init 109 = .ok (.aload_n 0, 1) := by decide +kernel
theorem dX6_init_110 : decode cX6_init 110 = .ok (.getfield 26, 3) := by decide +kernel
theorem dX6_init_113 : decode cX6_init 113 = .ok (.invokevirtual 64, 3) := by decide +kernel
theorem dX6_init_116 : decode cX6_init 116 = .ok (.aload_n 0, 1) := by decide +kernel
theorem dX6_init_117 : decode cX6_init 117 = .ok (.getfield 10, 3) := by decide +kernel
theorem dX6_init_120 : decode cX6_init 120 = .ok (.iconst 0, 1) := by decide +kernel
theorem dX6_init_121 : decode cX6_init 121 = .ok (.putfield 68, 3) := by decide +kernel
theorem dX6_init_124 : decode cX6_init 124 = .ok (.return_, 1) := by decide +kernel
theorem dX6_write_0 : decode cX6_write 0 = .ok (.iload_n 1, 1) := by decide +kernel
theorem dX6_write_1 : decode cX6_write 1 = .ok (.bipush 32, 2) := by decide +kernel
theorem dX6_write_3 : decode cX6_write 3 = .ok (.bipush 126, 2) := by decide +kernel
theorem dX6_write_5 : decode cX6_write 5 = .ok (.invokestatic 72, 3) := by decide +kernel
theorem dX6_write_8 : decode cX6_write 8 = .ok (.ifCond .ne 5, 3) := by decide +kernel
theorem dX6_write_11 : decode cX6_write 11 = .ok (.iconst (-1), 1) := by decide +kernel
theorem dX6_write_12 : decode cX6_write 12 = .ok (.ireturn, 1) := by decide +kernel
theorem dX6_write_13 : decode cX6_write 13 = .ok (.aload_n 0, 1) := by decide +kernel
theorem dX6_write_14 : decode cX6_write 14 = .ok (.getfield 10, 3) := by decide +kernel
theorem dX6_write_17 : decode cX6_write 17 = .ok (.invokevirtual 76, 3) := by decide +kernel
theorem dX6_write_20 : decode cX6_write 20 = .ok (.ifCond .eq 6, 3) := by decide +kernel
theorem dX6_write_23 : decode cX6_write 23 = .ok (.bipush (-3), 2) := by decide +kernel
theorem dX6_write_25 : decode cX6_write 25 = .ok (.ireturn, 1) := by decide +kernel
theorem dX6_write_26 : decode cX6_write 26 = .ok (.aload_n 0, 1) := by decide +kernel
theorem dX6_write_27 : decode cX6_write 27 = .ok (.getfield 10, 3) := by decide +kernel
theorem dX6_write_30 : decode cX6_write 30 = .ok (.iload_n 1, 1) := by decide +kernel
theorem dX6_write_31 : decode cX6_write 31 = .ok (.i2c, 1) := by decide +kernel
theorem dX6_write_32 : decode cX6_write 32 = .ok (.invokevirtual 80, 3) := by decide +kernel
theorem dX6_write_35 : decode cX6_write 35 = .ok (.aload_n 0, 1) := by decide +kernel
theorem dX6_write_36 : decode cX6_write 36 = .ok (.getfield 10, 3) := by decide +kernel
theorem dX6_write_39 : decode cX6_write 39 = .ok (.getfield 68, 3) := by decide +kernel
theorem dX6_write_42 : decode cX6_write 42 = .ok (.ireturn, 1) := by decide +kernel
theorem dX6_wipe_0 : decode cX6_wipe 0 = .ok (.aload_n 0, 1) := by decide +kernel
theorem dX6_wipe_1 : decode cX6_wipe 1 = .ok (.getfield 10, 3) := by decide +kernel
theorem dX6_wipe_4 : decode cX6_wipe 4 = .ok (.getfield 68, 3) := by decide +kernel
theorem dX6_wipe_7 : decode cX6_wipe 7 = .ok (.istore_n 1, 1) := by decide +kernel
theorem dX6_wipe_8 : decode cX6_wipe 8 = .ok (.aload_n 0, 1) := by decide +kernel
theorem dX6_wipe_9 : decode cX6_wipe 9 = .ok (.getfield 10, 3) := by decide +kernel
theorem dX6_wipe_12 : decode cX6_wipe 12 = .ok (.iconst 0, 1) := by decide +kernel
theorem dX6_wipe_13 : decode cX6_wipe 13 = .ok (.putfield 68, 3) := by decide +kernel
theorem dX6_wipe_16 : decode cX6_wipe 16 = .ok (.iload_n 1, 1) := by decide +kernel
theorem dX6_wipe_17 : decode cX6_wipe 17 = .ok (.ireturn, 1) := by decide +kernel
theorem dX6_fault_0 : decode cX6_fault 0 = .ok (.aload_n 0, 1) := by decide +kernel
theorem dX6_fault_1 : decode cX6_fault 1 = .ok (.getfield 10, 3) := by decide +kernel
theorem dX6_fault_4 : decode cX6_fault 4 = .ok (.invokevirtual 84, 3) := by decide +kernel
theorem dX6_fault_7 : decode cX6_fault 7 = .ok (.ireturn, 1) := by decide +kernel
theorem dX6_lay_0 : decode cX6_lay 0 = .ok (.aload_n 0, 1) := by decide +kernel
theorem dX6_lay_1 : decode cX6_lay 1 = .ok (.getfield 10, 3) := by decide +kernel
theorem dX6_lay_4 : decode cX6_lay 4 = .ok (.invokevirtual 88, 3) := by decide +kernel
theorem dX6_lay_7 : decode cX6_lay 7 = .ok (.ifCond .ne 6, 3) := by decide +kernel
theorem dX6_lay_10 : decode cX6_lay 10 = .ok (.bipush (-2), 2) := by decide +kernel
theorem dX6_lay_12 : decode cX6_lay 12 = .ok (.ireturn, 1) := by decide +kernel
theorem dX6_lay_13 : decode cX6_lay 13 = .ok (.aload_n 0, 1) := by decide +kernel
theorem dX6_lay_14 : decode cX6_lay 14 = .ok (.getfield 19, 3) := by decide +kernel
theorem dX6_lay_17 : decode cX6_lay 17 = .ok (.aload_n 0, 1) := by decide +kernel
theorem dX6_lay_18 : decode cX6_lay 18 = .ok (.getfield 10, 3) := by decide +kernel
theorem dX6_lay_21 : decode cX6_lay 21 = .ok (.aload_n 0, 1) := by decide +kernel
theorem dX6_lay_22 : decode cX6_lay 22 = .ok (.getfield 26, 3) := by decide +kernel
theorem dX6_lay_25 : decode cX6_lay 25 = .ok (.invokevirtual 64, 3) := by decide +kernel
theorem dX6_lay_28 : decode cX6_lay 28 = .ok (.aload_n 0, 1) := by decide +kernel
theorem dX6_lay_29 : decode cX6_lay 29 = .ok (.getfield 35, 3) := by decide +kernel
theorem dX6_lay_32 : decode cX6_lay 32 = .ok (.invokevirtual 91, 3) := by decide +kernel
theorem dX6_lay_35 : decode cX6_lay 35 = .ok (.aload_n 0, 1) := by decide +kernel
theorem dX6_lay_36 : decode cX6_lay 36 = .ok (.getfield 39, 3) := by decide +kernel
theorem dX6_lay_39 : decode cX6_lay 39 = .ok (.invokevirtual 91, 3) := by decide +kernel
theorem dX6_lay_42 : decode cX6_lay 42 = .ok (.aload_n 0, 1) := by decide +kernel
theorem dX6_lay_43 : decode cX6_lay 43 = .ok (.getfield 19, 3) := by decide +kernel
theorem dX6_lay_46 : decode cX6_lay 46 = .ok (.getfield 94, 3) := by decide +kernel
theorem dX6_lay_49 : decode cX6_lay 49 = .ok (.ireturn, 1) := by decide +kernel
theorem dX6_bough_0 : decode cX6_bough 0 = .ok (.aload_n 0, 1) := by decide +kernel
theorem dX6_bough_1 : decode cX6_bough 1 = .ok (.getfield 19, 3) := by decide +kernel
theorem dX6_bough_4 : decode cX6_bough 4 = .ok (.iload_n 1, 1) := by decide +kernel
theorem dX6_bough_5 : decode cX6_bough 5 = .ok (.invokevirtual 97, 3) := by decide +kernel
theorem dX6_bough_8 : decode cX6_bough 8 = .ok (.ifCond .ne 5, 3) := by decide +kernel
theorem dX6_bough_11 : decode cX6_bough 11 = .ok (.iconst (-1), 1) := by decide +kernel
theorem dX6_bough_12 : decode cX6_bough 12 = .ok (.ireturn, 1) := by decide +kernel
theorem dX6_bough_13 : decode cX6_bough 13 = .ok (.iload_n 2, 1) := by decide +kernel
theorem dX6_bough_14 : decode cX6_bough 14 = .ok (.tableswitch 136 0 6 #[42, 51, 60, 69, 78, 101, 124], 42) := by decide +kernel
theorem dX6_bough_56 : decode cX6_bough 56 = .ok (.aload_n 0, 1) := by decide +kernel
theorem dX6_bough_57 : decode cX6_bough 57 = .ok (.getfield 19, 3) := by decide +kernel
theorem dX6_bough_60 : decode cX6_bough 60 = .ok (.iload_n 1, 1) := by decide +kernel
theorem dX6_bough_61 : decode cX6_bough 61 = .ok (.invokevirtual 101, 3) := by decide +kernel
theorem dX6_bough_64 : decode cX6_bough 64 = .ok (.ireturn, 1) := by decide +kernel
theorem dX6_bough_65 : decode cX6_bough 65 = .ok (.aload_n 0, 1) := by decide +kernel
theorem dX6_bough_66 : decode cX6_bough 66 = .ok (.getfield 19, 3) := by decide +kernel
theorem dX6_bough_69 : decode cX6_bough 69 = .ok (.iload_n 1, 1) := by decide +kernel
theorem dX6_bough_70 : decode cX6_bough 70 = .ok (.invokevirtual 105, 3) := by decide +kernel
theorem dX6_bough_73 : decode cX6_bough 73 = .ok (.ireturn, 1) := by decide +kernel
theorem dX6_bough_74 : decode cX6_bough 74 = .ok (.aload_n 0, 1) := by decide +kernel
theorem dX6_bough_75 : decode cX6_bough 75 = .ok (.getfield 19, 3) := by decide +kernel
theorem dX6_bough_78 : decode cX6_bough 78 = .ok (.iload_n 1, 1) := by decide +kernel
theorem dX6_bough_79 : decode cX6_bough 79 = .ok (.invokevirtual 108, 3) := by decide +kernel
theorem dX6_bough_82 : decode cX6_bough 82 = .ok (.ireturn, 1) := by decide +kernel
theorem dX6_bough_83 : decode cX6_bough 83 = .ok (.aload_n 0, 1) := by decide +kernel
theorem dX6_bough_84 : decode cX6_bough 84 = .ok (.getfield 26, 3) := by decide +kernel
theorem dX6_bough_87 : decode cX6_bough 87 = .ok (.iload_n 1, 1) := by decide +kernel
theorem dX6_bough_88 : decode cX6_bough 88 = .ok (.invokevirtual 111, 3) := by decide +kernel
theorem dX6_bough_91 : decode cX6_bough 91 = .ok (.ireturn, 1) := by decide +kernel
theorem dX6_bough_92 : decode cX6_bough 92 = .ok (.aload_n 0, 1) := by decide +kernel
theorem dX6_bough_93 : decode cX6_bough 93 = .ok (.getfield 19, 3) := by decide +kernel
theorem dX6_bough_96 : decode cX6_bough 96 = .ok (.aload_n 0, 1) := by decide +kernel
theorem dX6_bough_97 : decode cX6_bough 97 = .ok (.getfield 26, 3) := by decide +kernel
theorem dX6_bough_100 : decode cX6_bough 100 = .ok (.iload_n 1, 1) := by decide +kernel
theorem dX6_bough_101 : decode cX6_bough 101 = .ok (.aload_n 0, 1) := by decide +kernel
theorem dX6_bough_102 : decode cX6_bough 102 = .ok (.getfield 26, 3) := by decide +kernel
theorem dX6_bough_105 : decode cX6_bough 105 = .ok (.getfield 114, 3) := by decide +kernel
theorem dX6_bough_108 : decode cX6_bough 108 = .ok (.invokevirtual 117, 3) := by decide +kernel
theorem dX6_bough_111 : decode cX6_bough 111 = .ok (.invokestatic 121, 3) := by decide +kernel
theorem dX6_bough_114 : decode cX6_bough 114 = .ok (.ireturn, 1) := by decide +kernel
theorem dX6_bough_115 : decode cX6_bough 115 = .ok (.aload_n 0, 1) := by decide +kernel
theorem dX6_bough_116 : decode cX6_bough 116 = .ok (.getfield 19, 3) := by decide +kernel
theorem dX6_bough_119 : decode cX6_bough 119 = .ok (.aload_n 0, 1) := by decide +kernel
theorem dX6_bough_120 : decode cX6_bough 120 = .ok (.getfield 26, 3) := by decide +kernel
theorem dX6_bough_123 : decode cX6_bough 123 = .ok (.iload_n 1, 1) := by decide +kernel
theorem dX6_bough_124 : decode cX6_bough 124 = .ok (.aload_n 0, 1) := by decide +kernel
theorem dX6_bough_125 : decode cX6_bough 125 = .ok (.getfield 26, 3) := by decide +kernel
theorem dX6_bough_128 : decode cX6_bough 128 = .ok (.getfield 114, 3) := by decide +kernel
theorem dX6_bough_131 : decode cX6_bough 131 = .ok (.invokevirtual 125, 3) := by decide +kernel
theorem dX6_bough_134 : decode cX6_bough 134 = .ok (.invokestatic 121, 3) := by decide +kernel
theorem dX6_bough_137 : decode cX6_bough 137 = .ok (.ireturn, 1) := by decide +kernel
theorem dX6_bough_138 : decode cX6_bough 138 = .ok (.aload_n 0, 1) := by decide +kernel
theorem dX6_bough_139 : decode cX6_bough 139 = .ok (.getfield 26, 3) := by decide +kernel
theorem dX6_bough_142 : decode cX6_bough 142 = .ok (.iload_n 1, 1) := by decide +kernel
theorem dX6_bough_143 : decode cX6_bough 143 = .ok (.invokevirtual 128, 3) := by decide +kernel
theorem dX6_bough_146 : decode cX6_bough 146 = .ok (.invokestatic 121, 3) := by decide +kernel
theorem dX6_bough_149 : decode cX6_bough 149 = .ok (.ireturn, 1) := by decide +kernel
theorem dX6_bough_150 : decode cX6_bough 150 = .ok (.iconst (-1), 1) := by decide +kernel
theorem dX6_bough_151 : decode cX6_bough 151 = .ok (.ireturn, 1) := by decide +kernel
theorem dX6_tenant_0 : decode cX6_tenant 0 = .ok (.aload_n 0, 1) := by decide +kernel
theorem dX6_tenant_1 : decode cX6_tenant 1 = .ok (.getfield 19, 3) := by decide +kernel
theorem dX6_tenant_4 : decode cX6_tenant 4 = .ok (.iload_n 1, 1) := by decide +kernel
theorem dX6_tenant_5 : decode cX6_tenant 5 = .ok (.invokevirtual 131, 3) := by decide +kernel
theorem dX6_tenant_8 : decode cX6_tenant 8 = .ok (.ifCond .ne 5, 3) := by decide +kernel
theorem dX6_tenant_11 : decode cX6_tenant 11 = .ok (.iconst (-1), 1) := by decide +kernel
theorem dX6_tenant_12 : decode cX6_tenant 12 = .ok (.ireturn, 1) := by decide +kernel
theorem dX6_tenant_13 : decode cX6_tenant 13 = .ok (.iload_n 2, 1) := by decide +kernel
theorem dX6_tenant_14 : decode cX6_tenant 14 = .ok (.tableswitch 99 0 5 #[38, 47, 56, 65, 74, 83], 38) := by decide +kernel
theorem dX6_tenant_52 : decode cX6_tenant 52 = .ok (.aload_n 0, 1) := by decide +kernel
theorem dX6_tenant_53 : decode cX6_tenant 53 = .ok (.getfield 26, 3) := by decide +kernel
theorem dX6_tenant_56 : decode cX6_tenant 56 = .ok (.iload_n 1, 1) := by decide +kernel
theorem dX6_tenant_57 : decode cX6_tenant 57 = .ok (.invokevirtual 134, 3) := by decide +kernel
theorem dX6_tenant_60 : decode cX6_tenant 60 = .ok (.ireturn, 1) := by decide +kernel
theorem dX6_tenant_61 : decode cX6_tenant 61 = .ok (.aload_n 0, 1) := by decide +kernel
theorem dX6_tenant_62 : decode cX6_tenant 62 = .ok (.getfield 19, 3) := by decide +kernel
theorem dX6_tenant_65 : decode cX6_tenant 65 = .ok (.iload_n 1, 1) := by decide +kernel
theorem dX6_tenant_66 : decode cX6_tenant 66 = .ok (.invokevirtual 137, 3) := by decide +kernel
theorem dX6_tenant_69 : decode cX6_tenant 69 = .ok (.ireturn, 1) := by decide +kernel
theorem dX6_tenant_70 : decode cX6_tenant 70 = .ok (.aload_n 0, 1) := by decide +kernel
theorem dX6_tenant_71 : decode cX6_tenant 71 = .ok (.getfield 19, 3) := by decide +kernel
theorem dX6_tenant_74 : decode cX6_tenant 74 = .ok (.iload_n 1, 1) := by decide +kernel
theorem dX6_tenant_75 : decode cX6_tenant 75 = .ok (.invokevirtual 140, 3) := by decide +kernel
theorem dX6_tenant_78 : decode cX6_tenant 78 = .ok (.ireturn, 1) := by decide +kernel
theorem dX6_tenant_79 : decode cX6_tenant 79 = .ok (.aload_n 0, 1) := by decide +kernel
theorem dX6_tenant_80 : decode cX6_tenant 80 = .ok (.getfield 26, 3) := by decide +kernel
theorem dX6_tenant_83 : decode cX6_tenant 83 = .ok (.iload_n 1, 1) := by decide +kernel
theorem dX6_tenant_84 : decode cX6_tenant 84 = .ok (.invokevirtual 143, 3) := by decide +kernel
theorem dX6_tenant_87 : decode cX6_tenant 87 = .ok (.ireturn, 1) := by decide +kernel
theorem dX6_tenant_88 : decode cX6_tenant 88 = .ok (.aload_n 0, 1) := by decide +kernel
theorem dX6_tenant_89 : decode cX6_tenant 89 = .ok (.getfield 26, 3) := by decide +kernel
theorem dX6_tenant_92 : decode cX6_tenant 92 = .ok (.iload_n 1, 1) := by decide +kernel
theorem dX6_tenant_93 : decode cX6_tenant 93 = .ok (.invokevirtual 146, 3) := by decide +kernel
theorem dX6_tenant_96 : decode cX6_tenant 96 = .ok (.ireturn, 1) := by decide +kernel
theorem dX6_tenant_97 : decode cX6_tenant 97 = .ok (.aload_n 0, 1) := by decide +kernel
theorem dX6_tenant_98 : decode cX6_tenant 98 = .ok (.getfield 19, 3) := by decide +kernel
theorem dX6_tenant_101 : decode cX6_tenant 101 = .ok (.aload_n 0, 1) := by decide +kernel
theorem dX6_tenant_102 : decode cX6_tenant 102 = .ok (.getfield 26, 3) := by decide +kernel
theorem dX6_tenant_105 : decode cX6_tenant 105 = .ok (.iload_n 1, 1) := by decide +kernel
theorem dX6_tenant_106 : decode cX6_tenant 106 = .ok (.invokevirtual 149, 3) := by decide +kernel
theorem dX6_tenant_109 : decode cX6_tenant 109 = .ok (.invokestatic 121, 3) := by decide +kernel
theorem dX6_tenant_112 : decode cX6_tenant 112 = .ok (.ireturn, 1) := by decide +kernel
theorem dX6_tenant_113 : decode cX6_tenant 113 = .ok (.iconst (-1), 1) := by decide +kernel
theorem dX6_tenant_114 : decode cX6_tenant 114 = .ok (.ireturn, 1) := by decide +kernel
theorem dX6_can_0 : decode cX6_can 0 = .ok (.aload_n 0, 1) := by decide +kernel
theorem dX6_can_1 : decode cX6_can 1 = .ok (.getfield 19, 3) := by decide +kernel
theorem dX6_can_4 : decode cX6_can 4 = .ok (.iload_n 1, 1) := by decide +kernel
theorem dX6_can_5 : decode cX6_can 5 = .ok (.invokevirtual 131, 3) := by decide +kernel
theorem dX6_can_8 : decode cX6_can 8 = .ok (.ifCond .eq 14, 3) := by decide +kernel
theorem dX6_can_11 : decode cX6_can 11 = .ok (.aload_n 0, 1) := by decide +kernel
theorem dX6_can_12 : decode cX6_can 12 = .ok (.getfield 19, 3) := by decide +kernel
theorem dX6_can_15 : decode cX6_can 15 = .ok (.iload_n 2, 1) := by decide +kernel
theorem dX6_can_16 : decode cX6_can 16 = .ok (.invokevirtual 97, 3) := by decide +kernel
theorem dX6_can_19 : decode cX6_can 19 = .ok (.ifCond .ne 5, 3) := by decide +kernel
theorem dX6_can_22 : decode cX6_can 22 = .ok (.iconst (-1), 1) := by decide +kernel
theorem dX6_can_23 : decode cX6_can 23 = .ok (.ireturn, 1) := by decide +kernel
theorem dX6_can_24 : decode cX6_can 24 = .ok (.aload_n 0, 1) := by decide +kernel
theorem dX6_can_25 : decode cX6_can 25 = .ok (.getfield 19, 3) := by decide +kernel
theorem dX6_can_28 : decode cX6_can 28 = .ok (.aload_n 0, 1) := by decide +kernel
theorem dX6_can_29 : decode cX6_can 29 = .ok (.getfield 26, 3) := by decide +kernel
theorem dX6_can_32 : decode cX6_can 32 = .ok (.iload_n 1, 1) := by decide +kernel
theorem dX6_can_33 : decode cX6_can 33 = .ok (.iload_n 2, 1) := by decide +kernel
theorem dX6_can_34 : decode cX6_can 34 = .ok (.invokevirtual 153, 3) := by decide +kernel
theorem dX6_can_37 : decode cX6_can 37 = .ok (.invokestatic 121, 3) := by decide +kernel
theorem dX6_can_40 : decode cX6_can 40 = .ok (.ireturn, 1) := by decide +kernel
theorem dX6_take_0 : decode cX6_take 0 = .ok (.aload_n 0, 1) := by decide +kernel
theorem dX6_take_1 : decode cX6_take 1 = .ok (.getfield 19, 3) := by decide +kernel
theorem dX6_take_4 : decode cX6_take 4 = .ok (.iload_n 1, 1) := by decide +kernel
theorem dX6_take_5 : decode cX6_take 5 = .ok (.invokevirtual 131, 3) := by decide +kernel
theorem dX6_take_8 : decode cX6_take 8 = .ok (.ifCond .eq 14, 3) := by decide +kernel
theorem dX6_take_11 : decode cX6_take 11 = .ok (.aload_n 0, 1) := by decide +kernel
theorem dX6_take_12 : decode cX6_take 12 = .ok (.getfield 19, 3) := by decide +kernel
theorem dX6_take_15 : decode cX6_take 15 = .ok (.iload_n 2, 1) := by decide +kernel
theorem dX6_take_16 : decode cX6_take 16 = .ok (.invokevirtual 97, 3) := by decide +kernel
theorem dX6_take_19 : decode cX6_take 19 = .ok (.ifCond .ne 5, 3) := by decide +kernel
theorem dX6_take_22 : decode cX6_take 22 = .ok (.iconst (-1), 1) := by decide +kernel
theorem dX6_take_23 : decode cX6_take 23 = .ok (.ireturn, 1) := by decide +kernel
theorem dX6_take_24 : decode cX6_take 24 = .ok (.aload_n 0, 1) := by decide +kernel
theorem dX6_take_25 : decode cX6_take 25 = .ok (.getfield 19, 3) := by decide +kernel
theorem dX6_take_28 : decode cX6_take 28 = .ok (.aload_n 0, 1) := by decide +kernel
theorem dX6_take_29 : decode cX6_take 29 = .ok (.getfield 26, 3) := by decide +kernel
theorem dX6_take_32 : decode cX6_take 32 = .ok (.iload_n 1, 1) := by decide +kernel
theorem dX6_take_33 : decode cX6_take 33 = .ok (.iload_n 2, 1) := by decide +kernel
theorem dX6_take_34 : decode cX6_take 34 = .ok (.invokevirtual 153, 3) := by decide +kernel
theorem dX6_take_37 : decode cX6_take 37 = .ok (.ifCond .ne 6, 3) := by decide +kernel
theorem dX6_take_40 : decode cX6_take 40 = .ok (.bipush (-2), 2) := by decide +kernel
theorem dX6_take_42 : decode cX6_take 42 = .ok (.ireturn, 1) := by decide +kernel
theorem dX6_take_43 : decode cX6_take 43 = .ok (.aload_n 0, 1) := by decide +kernel
theorem dX6_take_44 : decode cX6_take 44 = .ok (.getfield 19, 3) := by decide +kernel
theorem dX6_take_47 : decode cX6_take 47 = .ok (.aload_n 0, 1) := by decide +kernel
theorem dX6_take_48 : decode cX6_take 48 = .ok (.getfield 26, 3) := by decide +kernel
theorem dX6_take_51 : decode cX6_take 51 = .ok (.iload_n 1, 1) := by decide +kernel
theorem dX6_take_52 : decode cX6_take 52 = .ok (.iload_n 2, 1) := by decide +kernel
theorem dX6_take_53 : decode cX6_take 53 = .ok (.invokevirtual 156, 3) := by decide +kernel
theorem dX6_take_56 : decode cX6_take 56 = .ok (.istore_n 3, 1) := by decide +kernel
theorem dX6_take_57 : decode cX6_take 57 = .ok (.aload_n 0, 1) := by decide +kernel
theorem dX6_take_58 : decode cX6_take 58 = .ok (.getfield 35, 3) := by decide +kernel
theorem dX6_take_61 : decode cX6_take 61 = .ok (.aload_n 0, 1) := by decide +kernel
theorem dX6_take_62 : decode cX6_take 62 = .ok (.getfield 26, 3) := by decide +kernel
theorem dX6_take_65 : decode cX6_take 65 = .ok (.invokevirtual 159, 3) := by decide +kernel
theorem dX6_take_68 : decode cX6_take 68 = .ok (.aload_n 0, 1) := by decide +kernel
theorem dX6_take_69 : decode cX6_take 69 = .ok (.getfield 26, 3) := by decide +kernel
theorem dX6_take_72 : decode cX6_take 72 = .ok (.iload_n 1, 1) := by decide +kernel
theorem dX6_take_73 : decode cX6_take 73 = .ok (.iload_n 2, 1) := by decide +kernel
theorem dX6_take_74 : decode cX6_take 74 = .ok (.aload_n 0, 1) := by decide +kernel
theorem dX6_take_75 : decode cX6_take 75 = .ok (.getfield 19, 3) := by decide +kernel
theorem dX6_take_78 : decode cX6_take 78 = .ok (.iload_n 2, 1) := by decide +kernel
theorem dX6_take_79 : decode cX6_take 79 = .ok (.invokevirtual 108, 3) := by decide +kernel
theorem dX6_take_82 : decode cX6_take 82 = .ok (.invokevirtual 162, 3) := by decide +kernel
theorem dX6_take_85 : decode cX6_take 85 = .ok (.iload_n 3, 1) := by decide +kernel
theorem dX6_take_86 : decode cX6_take 86 = .ok (.ifCond .eq 11, 3) := by decide +kernel
theorem dX6_take_89 : decode cX6_take 89 = .ok (.aload_n 0, 1) := by decide +kernel
theorem dX6_take_90 : decode cX6_take 90 = .ok (.getfield 26, 3) := by decide +kernel
theorem dX6_take_93 : decode cX6_take 93 = .ok (.iload_n 1, 1) := by decide +kernel
theorem dX6_take_94 : decode cX6_take 94 = .ok (.invokevirtual 166, 3) := by decide +kernel
theorem dX6_take_97 : decode cX6_take 97 = .ok (.aload_n 0, 1) := by decide +kernel
theorem dX6_take_98 : decode cX6_take 98 = .ok (.getfield 26, 3) := by decide +kernel
theorem dX6_take_101 : decode cX6_take 101 = .ok (.iload_n 1, 1) := by decide +kernel
theorem dX6_take_102 : decode cX6_take 102 = .ok (.invokevirtual 143, 3) := by decide +kernel
theorem dX6_take_105 : decode cX6_take 105 = .ok (.ireturn, 1) := by decide +kernel
theorem dX6_pass_0 : decode cX6_pass 0 = .ok (.iload_n 1, 1) := by decide +kernel
theorem dX6_pass_1 : decode cX6_pass 1 = .ok (.iconst 1, 1) := by decide +kernel
theorem dX6_pass_2 : decode cX6_pass 2 = .ok (.bipush 30, 2) := by decide +kernel
theorem dX6_pass_4 : decode cX6_pass 4 = .ok (.invokestatic 72, 3) := by decide +kernel
theorem dX6_pass_7 : decode cX6_pass 7 = .ok (.ifCond .ne 5, 3) := by decide +kernel
theorem dX6_pass_10 : decode cX6_pass 10 = .ok (.iconst (-1), 1) := by decide +kernel
theorem dX6_pass_11 : decode cX6_pass 11 = .ok (.ireturn, 1) := by decide +kernel
theorem dX6_pass_12 : decode cX6_pass 12 = .ok (.aload_n 0, 1) := by decide +kernel
theorem dX6_pass_13 : decode cX6_pass 13 = .ok (.getfield 26, 3) := by decide +kernel
theorem dX6_pass_16 : decode cX6_pass 16 = .ok (.getfield 114, 3) := by decide +kernel
theorem dX6_pass_19 : decode cX6_pass 19 = .ok (.iload_n 1, 1) := by decide +kernel
theorem dX6_pass_20 : decode cX6_pass 20 = .ok (.iadd, 1) := by decide +kernel
theorem dX6_pass_21 : decode cX6_pass 21 = .ok (.bipush 99, 2) := by decide +kernel
theorem dX6_pass_23 : decode cX6_pass 23 = .ok (.if_icmp .le 6, 3) := by decide +kernel
theorem dX6_pass_26 : decode cX6_pass 26 = .ok (.bipush (-2), 2) := by decide +kernel
theorem dX6_pass_28 : decode cX6_pass 28 = .ok (.ireturn, 1) := by decide +kernel
theorem dX6_pass_29 : decode cX6_pass 29 = .ok (.aload_n 0, 1) := by decide +kernel
theorem dX6_pass_30 : decode cX6_pass 30 = .ok (.getfield 35, 3) := by decide +kernel
theorem dX6_pass_33 : decode cX6_pass 33 = .ok (.aload_n 0, 1) := by decide +kernel
theorem dX6_pass_34 : decode cX6_pass 34 = .ok (.getfield 26, 3) := by decide +kernel
theorem dX6_pass_37 : decode cX6_pass 37 = .ok (.invokevirtual 159, 3) := by decide +kernel
theorem dX6_pass_40 : decode cX6_pass 40 = .ok (.aload_n 0, 1) := by decide +kernel
theorem dX6_pass_41 : decode cX6_pass 41 = .ok (.getfield 26, 3) := by decide +kernel
theorem dX6_pass_44 : decode cX6_pass 44 = .ok (.iload_n 1, 1) := by decide +kernel
theorem dX6_pass_45 : decode cX6_pass 45 = .ok (.invokevirtual 169, 3) := by decide +kernel
theorem dX6_pass_48 : decode cX6_pass 48 = .ok (.aload_n 0, 1) := by decide +kernel
theorem dX6_pass_49 : decode cX6_pass 49 = .ok (.getfield 26, 3) := by decide +kernel
theorem dX6_pass_52 : decode cX6_pass 52 = .ok (.getfield 114, 3) := by decide +kernel
theorem dX6_pass_55 : decode cX6_pass 55 = .ok (.ireturn, 1) := by decide +kernel
theorem dX6_hook_0 : decode cX6_hook 0 = .ok (.aload_n 0, 1) := by decide +kernel
theorem dX6_hook_1 : decode cX6_hook 1 = .ok (.getfield 19, 3) := by decide +kernel
theorem dX6_hook_4 : decode cX6_hook 4 = .ok (.iload_n 1, 1) := by decide +kernel
theorem dX6_hook_5 : decode cX6_hook 5 = .ok (.invokevirtual 131, 3) := by decide +kernel
theorem dX6_hook_8 : decode cX6_hook 8 = .ok (.ifCond .eq 13, 3) := by decide +kernel
theorem dX6_hook_11 : decode cX6_hook 11 = .ok (.iload_n 2, 1) := by decide +kernel
theorem dX6_hook_12 : decode cX6_hook 12 = .ok (.iconst 1, 1) := by decide +kernel
theorem dX6_hook_13 : decode cX6_hook 13 = .ok (.bipush 20, 2) := by decide +kernel
theorem dX6_hook_15 : decode cX6_hook 15 = .ok (.invokestatic 72, 3) := by decide +kernel
theorem dX6_hook_18 : decode cX6_hook 18 = .ok (.ifCond .ne 5, 3) := by decide +kernel
theorem dX6_hook_21 : decode cX6_hook 21 = .ok (.iconst (-1), 1) := by decide +kernel
theorem dX6_hook_22 : decode cX6_hook 22 = .ok (.ireturn, 1) := by decide +kernel
theorem dX6_hook_23 : decode cX6_hook 23 = .ok (.aload_n 0, 1) := by decide +kernel
theorem dX6_hook_24 : decode cX6_hook 24 = .ok (.getfield 26, 3) := by decide +kernel
theorem dX6_hook_27 : decode cX6_hook 27 = .ok (.iload_n 1, 1) := by decide +kernel
theorem dX6_hook_28 : decode cX6_hook 28 = .ok (.invokevirtual 134, 3) := by decide +kernel
theorem dX6_hook_31 : decode cX6_hook 31 = .ok (.istore_n 3, 1) := by decide +kernel
theorem dX6_hook_32 : decode cX6_hook 32 = .ok (.aload_n 0, 1) := by decide +kernel
theorem dX6_hook_33 : decode cX6_hook 33 = .ok (.getfield 35, 3) := by decide +kernel
theorem dX6_hook_36 : decode cX6_hook 36 = .ok (.aload_n 0, 1) := by decide +kernel
theorem dX6_hook_37 : decode cX6_hook 37 = .ok (.getfield 26, 3) := by decide +kernel
theorem dX6_hook_40 : decode cX6_hook 40 = .ok (.invokevirtual 159, 3) := by decide +kernel
theorem dX6_hook_43 : decode cX6_hook 43 = .ok (.aload_n 0, 1) := by decide +kernel
theorem dX6_hook_44 : decode cX6_hook 44 = .ok (.getfield 26, 3) := by decide +kernel
theorem dX6_hook_47 : decode cX6_hook 47 = .ok (.iload_n 1, 1) := by decide +kernel
theorem dX6_hook_48 : decode cX6_hook 48 = .ok (.iload_n 2, 1) := by decide +kernel
theorem dX6_hook_49 : decode cX6_hook 49 = .ok (.invokevirtual 172, 3) := by decide +kernel
theorem dX6_hook_52 : decode cX6_hook 52 = .ok (.iload_n 3, 1) := by decide +kernel
theorem dX6_hook_53 : decode cX6_hook 53 = .ok (.ireturn, 1) := by decide +kernel
theorem dX6_ring_0 : decode cX6_ring 0 = .ok (.aload_n 0, 1) := by decide +kernel
theorem dX6_ring_1 : decode cX6_ring 1 = .ok (.getfield 19, 3) := by decide +kernel
theorem dX6_ring_4 : decode cX6_ring 4 = .ok (.iload_n 1, 1) := by decide +kernel
theorem dX6_ring_5 : decode cX6_ring 5 = .ok (.invokevirtual 97, 3) := by decide +kernel
theorem dX6_ring_8 : decode cX6_ring 8 = .ok (.ifCond .ne 5, 3) := by decide +kernel
theorem dX6_ring_11 : decode cX6_ring 11 = .ok (.iconst (-1), 1) := by decide +kernel
theorem dX6_ring_12 : decode cX6_ring 12 = .ok (.ireturn, 1) := by decide +kernel
theorem dX6_ring_13 : decode cX6_ring 13 = .ok (.aload_n 0, 1) := by decide +kernel
theorem dX6_ring_14 : decode cX6_ring 14 = .ok (.getfield 26, 3) := by decide +kernel
theorem dX6_ring_17 : decode cX6_ring 17 = .ok (.iload_n 1, 1) := by decide +kernel
theorem dX6_ring_18 : decode cX6_ring 18 = .ok (.invokevirtual 128, 3) := by decide +kernel
theorem dX6_ring_21 : decode cX6_ring 21 = .ok (.ifCond .ne 25, 3) := by decide +kernel
theorem dX6_ring_24 : decode cX6_ring 24 = .ok (.aload_n 0, 1) := by decide +kernel
theorem dX6_ring_25 : decode cX6_ring 25 = .ok (.getfield 19, 3) := by decide +kernel
theorem dX6_ring_28 : decode cX6_ring 28 = .ok (.aload_n 0, 1) := by decide +kernel
theorem dX6_ring_29 : decode cX6_ring 29 = .ok (.getfield 26, 3) := by decide +kernel
theorem dX6_ring_32 : decode cX6_ring 32 = .ok (.iload_n 1, 1) := by decide +kernel
theorem dX6_ring_33 : decode cX6_ring 33 = .ok (.aload_n 0, 1) := by decide +kernel
theorem dX6_ring_34 : decode cX6_ring 34 = .ok (.getfield 26, 3) := by decide +kernel
theorem dX6_ring_37 : decode cX6_ring 37 = .ok (.getfield 114, 3) := by decide +kernel
theorem dX6_ring_40 : decode cX6_ring 40 = .ok (.invokevirtual 117, 3) := by decide +kernel
theorem dX6_ring_43 : decode cX6_ring 43 = .ok (.ifCond .eq 6, 3) := by decide +kernel
theorem dX6_ring_46 : decode cX6_ring 46 = .ok (.bipush (-2), 2) := by decide +kernel
theorem dX6_ring_48 : decode cX6_ring 48 = .ok (.ireturn, 1) := by decide +kernel
theorem dX6_ring_49 : decode cX6_ring 49 = .ok (.aload_n 0, 1) := by decide +kernel
theorem dX6_ring_50 : decode cX6_ring 50 = .ok (.getfield 26, 3) := by decide +kernel
theorem dX6_ring_53 : decode cX6_ring 53 = .ok (.iload_n 1, 1) := by decide +kernel
theorem dX6_ring_54 : decode cX6_ring 54 = .ok (.invokevirtual 111, 3) := by decide +kernel
theorem dX6_ring_57 : decode cX6_ring 57 = .ok (.istore_n 2, 1) := by decide +kernel
theorem dX6_ring_58 : decode cX6_ring 58 = .ok (.aload_n 0, 1) := by decide +kernel
theorem dX6_ring_59 : decode cX6_ring 59 = .ok (.getfield 35, 3) := by decide +kernel
theorem dX6_ring_62 : decode cX6_ring 62 = .ok (.aload_n 0, 1) := by decide +kernel
theorem dX6_ring_63 : decode cX6_ring 63 = .ok (.getfield 26, 3) := by decide +kernel
theorem dX6_ring_66 : decode cX6_ring 66 = .ok (.invokevirtual 159, 3) := by decide +kernel
theorem dX6_ring_69 : decode cX6_ring 69 = .ok (.aload_n 0, 1) := by decide +kernel
theorem dX6_ring_70 : decode cX6_ring 70 = .ok (.getfield 26, 3) := by decide +kernel
theorem dX6_ring_73 : decode cX6_ring 73 = .ok (.iload_n 1, 1) := by decide +kernel
theorem dX6_ring_74 : decode cX6_ring 74 = .ok (.aload_n 0, 1) := by decide +kernel
theorem dX6_ring_75 : decode cX6_ring 75 = .ok (.getfield 26, 3) := by decide +kernel
theorem dX6_ring_78 : decode cX6_ring 78 = .ok (.getfield 114, 3) := by decide +kernel
theorem dX6_ring_81 : decode cX6_ring 81 = .ok (.invokevirtual 176, 3) := by decide +kernel
theorem dX6_ring_84 : decode cX6_ring 84 = .ok (.iload_n 2, 1) := by decide +kernel
theorem dX6_ring_85 : decode cX6_ring 85 = .ok (.ireturn, 1) := by decide +kernel
theorem dX6_undo_0 : decode cX6_undo 0 = .ok (.aload_n 0, 1) := by decide +kernel
theorem dX6_undo_1 : decode cX6_undo 1 = .ok (.getfield 35, 3) := by decide +kernel
theorem dX6_undo_4 : decode cX6_undo 4 = .ok (.getfield 179, 3) := by decide +kernel
theorem dX6_undo_7 : decode cX6_undo 7 = .ok (.ifCond .ne 6, 3) := by decide +kernel
theorem dX6_undo_10 : decode cX6_undo 10 = .ok (.bipush (-2), 2) := by decide +kernel
theorem dX6_undo_12 : decode cX6_undo 12 = .ok (.ireturn, 1) := by decide +kernel
theorem dX6_undo_13 : decode cX6_undo 13 = .ok (.aload_n 0, 1) := by decide +kernel
theorem dX6_undo_14 : decode cX6_undo 14 = .ok (.getfield 35, 3) := by decide +kernel
theorem dX6_undo_17 : decode cX6_undo 17 = .ok (.aload_n 0, 1) := by decide +kernel
theorem dX6_undo_18 : decode cX6_undo 18 = .ok (.getfield 26, 3) := by decide +kernel
theorem dX6_undo_21 : decode cX6_undo 21 = .ok (.invokevirtual 182, 3) := by decide +kernel
theorem dX6_undo_24 : decode cX6_undo 24 = .ok (.aload_n 0, 1) := by decide +kernel
theorem dX6_undo_25 : decode cX6_undo 25 = .ok (.getfield 35, 3) := by decide +kernel
theorem dX6_undo_28 : decode cX6_undo 28 = .ok (.getfield 179, 3) := by decide +kernel
theorem dX6_undo_31 : decode cX6_undo 31 = .ok (.ireturn, 1) := by decide +kernel
theorem dX6_warmBy_0 : decode cX6_warmBy 0 = .ok (.iload_n 1, 1) := by decide +kernel
theorem dX6_warmBy_1 : decode cX6_warmBy 1 = .ok (.aload_n 0, 1) := by decide +kernel
theorem dX6_warmBy_2 : decode cX6_warmBy 2 = .ok (.getfield 26, 3) := by decide +kernel
theorem dX6_warmBy_5 : decode cX6_warmBy 5 = .ok (.getfield 114, 3) := by decide +kernel
theorem dX6_warmBy_8 : decode cX6_warmBy 8 = .ok (.bipush 99, 2) := by decide +kernel
theorem dX6_warmBy_10 : decode cX6_warmBy 10 = .ok (.invokestatic 72, 3) := by decide +kernel
theorem dX6_warmBy_13 : decode cX6_warmBy 13 = .ok (.ifCond .ne 5, 3) := by decide +kernel
theorem dX6_warmBy_16 : decode cX6_warmBy 16 = .ok (.iconst (-1), 1) := by decide +kernel
theorem dX6_warmBy_17 : decode cX6_warmBy 17 = .ok (.ireturn, 1) := by decide +kernel
theorem dX6_warmBy_18 : decode cX6_warmBy 18 = .ok (.aload_n 0, 1) := by decide +kernel
theorem dX6_warmBy_19 : decode cX6_warmBy 19 = .ok (.getfield 47, 3) := by decide +kernel
theorem dX6_warmBy_22 : decode cX6_warmBy 22 = .ok (.aload_n 0, 1) := by decide +kernel
theorem dX6_warmBy_23 : decode cX6_warmBy 23 = .ok (.getfield 26, 3) := by decide +kernel
theorem dX6_warmBy_26 : decode cX6_warmBy 26 = .ok (.invokevirtual 185, 3) := by decide +kernel
theorem dX6_warmBy_29 : decode cX6_warmBy 29 = .ok (.aload_n 0, 1) := by decide +kernel
theorem dX6_warmBy_30 : decode cX6_warmBy 30 = .ok (.getfield 47, 3) := by decide +kernel
theorem dX6_warmBy_33 : decode cX6_warmBy 33 = .ok (.iload_n 1, 1) := by decide +kernel
theorem dX6_warmBy_34 : decode cX6_warmBy 34 = .ok (.invokevirtual 188, 3) := by decide +kernel
theorem dX6_warmBy_37 : decode cX6_warmBy 37 = .ok (.aload_n 0, 1) := by decide +kernel
theorem dX6_warmBy_38 : decode cX6_warmBy 38 = .ok (.getfield 19, 3) := by decide +kernel
theorem dX6_warmBy_41 : decode cX6_warmBy 41 = .ok (.aload_n 0, 1) := by decide +kernel
theorem dX6_warmBy_42 : decode cX6_warmBy 42 = .ok (.getfield 47, 3) := by decide +kernel
theorem dX6_warmBy_45 : decode cX6_warmBy 45 = .ok (.getfield 191, 3) := by decide +kernel
theorem dX6_warmBy_48 : decode cX6_warmBy 48 = .ok (.invokevirtual 194, 3) := by decide +kernel
theorem dX6_warmBy_51 : decode cX6_warmBy 51 = .ok (.ireturn, 1) := by decide +kernel
theorem dX6_allWarm_0 : decode cX6_allWarm 0 = .ok (.aload_n 0, 1) := by decide +kernel
theorem dX6_allWarm_1 : decode cX6_allWarm 1 = .ok (.getfield 47, 3) := by decide +kernel
theorem dX6_allWarm_4 : decode cX6_allWarm 4 = .ok (.aload_n 0, 1) := by decide +kernel
theorem dX6_allWarm_5 : decode cX6_allWarm 5 = .ok (.getfield 26, 3) := by decide +kernel
theorem dX6_allWarm_8 : decode cX6_allWarm 8 = .ok (.invokevirtual 185, 3) := by decide +kernel
theorem dX6_allWarm_11 : decode cX6_allWarm 11 = .ok (.aload_n 0, 1) := by decide +kernel
theorem dX6_allWarm_12 : decode cX6_allWarm 12 = .ok (.getfield 47, 3) := by decide +kernel
theorem dX6_allWarm_15 : decode cX6_allWarm 15 = .ok (.invokevirtual 198, 3) := by decide +kernel
theorem dX6_allWarm_18 : decode cX6_allWarm 18 = .ok (.ireturn, 1) := by decide +kernel
theorem dX6_share_0 : decode cX6_share 0 = .ok (.iload_n 1, 1) := by decide +kernel
theorem dX6_share_1 : decode cX6_share 1 = .ok (.iconst (-1), 1) := by decide +kernel
theorem dX6_share_2 : decode cX6_share 2 = .ok (.if_icmp .eq 16, 3) := by decide +kernel
theorem dX6_share_5 : decode cX6_share 5 = .ok (.aload_n 0, 1) := by decide +kernel
theorem dX6_share_6 : decode cX6_share 6 = .ok (.getfield 19, 3) := by decide +kernel
theorem dX6_share_9 : decode cX6_share 9 = .ok (.iload_n 1, 1) := by decide +kernel
theorem dX6_share_10 : decode cX6_share 10 = .ok (.invokevirtual 97, 3) := by decide +kernel
theorem dX6_share_13 : decode cX6_share 13 = .ok (.ifCond .ne 5, 3) := by decide +kernel
theorem dX6_share_16 : decode cX6_share 16 = .ok (.iconst (-1), 1) := by decide +kernel
theorem dX6_share_17 : decode cX6_share 17 = .ok (.ireturn, 1) := by decide +kernel
theorem dX6_share_18 : decode cX6_share 18 = .ok (.aload_n 0, 1) := by decide +kernel
theorem dX6_share_19 : decode cX6_share 19 = .ok (.getfield 54, 3) := by decide +kernel
theorem dX6_share_22 : decode cX6_share 22 = .ok (.aload_n 0, 1) := by decide +kernel
theorem dX6_share_23 : decode cX6_share 23 = .ok (.getfield 26, 3) := by decide +kernel
theorem dX6_share_26 : decode cX6_share 26 = .ok (.invokevirtual 201, 3) := by decide +kernel
theorem dX6_share_29 : decode cX6_share 29 = .ok (.iload_n 1, 1) := by decide +kernel
theorem dX6_share_30 : decode cX6_share 30 = .ok (.iconst (-1), 1) := by decide +kernel
theorem dX6_share_31 : decode cX6_share 31 = .ok (.if_icmp .ne 13, 3) := by decide +kernel
theorem dX6_share_34 : decode cX6_share 34 = .ok (.aload_n 0, 1) := by decide +kernel
theorem dX6_share_35 : decode cX6_share 35 = .ok (.getfield 54, 3) := by decide +kernel
theorem dX6_share_38 : decode cX6_share 38 = .ok (.getfield 204, 3) := by decide +kernel
theorem dX6_share_41 : decode cX6_share 41 = .ok (.goto 11, 3) := by decide +kernel
theorem dX6_share_44 : decode cX6_share 44 = .ok (.aload_n 0, 1) := by decide +kernel
theorem dX6_share_45 : decode cX6_share 45 = .ok (.getfield 54, 3) := by decide +kernel
theorem dX6_share_48 : decode cX6_share 48 = .ok (.iload_n 1, 1) := by decide +kernel
theorem dX6_share_49 : decode cX6_share 49 = .ok (.invokevirtual 207, 3) := by decide +kernel
theorem dX6_share_52 : decode cX6_share 52 = .ok (.ireturn, 1) := by decide +kernel
theorem dX6_leastHook_0 : decode cX6_leastHook 0 = .ok (.aload_n 0, 1) := by decide +kernel
theorem dX6_leastHook_1 : decode cX6_leastHook 1 = .ok (.getfield 19, 3) := by decide +kernel
theorem dX6_leastHook_4 : decode cX6_leastHook 4 = .ok (.iload_n 1, 1) := by decide +kernel
theorem dX6_leastHook_5 : decode cX6_leastHook 5 = .ok (.invokevirtual 131, 3) := by decide +kernel
theorem dX6_leastHook_8 : decode cX6_leastHook 8 = .ok (.ifCond .ne 5, 3) := by decide +kernel
theorem dX6_leastHook_11 : decode cX6_leastHook 11 = .ok (.iconst (-1), 1) := by decide +kernel
theorem dX6_leastHook_12 : decode cX6_leastHook 12 = .ok (.ireturn, 1) := by decide +kernel
theorem dX6_leastHook_13 : decode cX6_leastHook 13 = .ok (.iconst 1, 1) := by decide +kernel
theorem dX6_leastHook_14 : decode cX6_leastHook 14 = .ok (.istore_n 2, 1) := by decide +kernel
theorem dX6_leastHook_15 : decode cX6_leastHook 15 = .ok (.iload_n 2, 1) := by decide +kernel
theorem dX6_leastHook_16 : decode cX6_leastHook 16 = .ok (.bipush 20, 2) := by decide +kernel
theorem dX6_leastHook_18 : decode cX6_leastHook 18 = .ok (.if_icmp .gt 61, 3) := by decide +kernel
theorem dX6_leastHook_21 : decode cX6_leastHook 21 = .ok (.aload_n 0, 1) := by decide +kernel
theorem dX6_leastHook_22 : decode cX6_leastHook 22 = .ok (.getfield 47, 3) := by decide +kernel
theorem dX6_leastHook_25 : decode cX6_leastHook 25 = .ok (.aload_n 0, 1) := by decide +kernel
theorem dX6_leastHook_26 : decode cX6_leastHook 26 = .ok (.getfield 26, 3) := by decide +kernel
theorem dX6_leastHook_29 : decode cX6_leastHook 29 = .ok (.invokevirtual 185, 3) := by decide +kernel
theorem dX6_leastHook_32 : decode cX6_leastHook 32 = .ok (.aload_n 0, 1) := by decide +kernel
theorem dX6_leastHook_33 : decode cX6_leastHook 33 = .ok (.getfield 47, 3) := by decide +kernel
theorem dX6_leastHook_36 : decode cX6_leastHook 36 = .ok (.getfield 191, 3) := by decide +kernel
theorem dX6_leastHook_39 : decode cX6_leastHook 39 = .ok (.iload_n 1, 1) := by decide +kernel
theorem dX6_leastHook_40 : decode cX6_leastHook 40 = .ok (.iload_n 2, 1) := by decide +kernel
theorem dX6_leastHook_41 : decode cX6_leastHook 41 = .ok (.invokevirtual 172, 3) := by decide +kernel
theorem dX6_leastHook_44 : decode cX6_leastHook 44 = .ok (.aload_n 0, 1) := by decide +kernel
theorem dX6_leastHook_45 : decode cX6_leastHook 45 = .ok (.getfield 47, 3) := by decide +kernel
theorem dX6_leastHook_48 : decode cX6_leastHook 48 = .ok (.bipush 99, 2) := by decide +kernel
theorem dX6_leastHook_50 : decode cX6_leastHook 50 = .ok (.invokevirtual 188, 3) := by decide +kernel
theorem dX6_leastHook_53 : decode cX6_leastHook 53 = .ok (.aload_n 0, 1) := by decide +kernel
theorem dX6_leastHook_54 : decode cX6_leastHook 54 = .ok (.getfield 19, 3) := by decide +kernel
theorem dX6_leastHook_57 : decode cX6_leastHook 57 = .ok (.aload_n 0, 1) := by decide +kernel
theorem dX6_leastHook_58 : decode cX6_leastHook 58 = .ok (.getfield 47, 3) := by decide +kernel
theorem dX6_leastHook_61 : decode cX6_leastHook 61 = .ok (.getfield 191, 3) := by decide +kernel
theorem dX6_leastHook_64 : decode cX6_leastHook 64 = .ok (.iload_n 1, 1) := by decide +kernel
theorem dX6_leastHook_65 : decode cX6_leastHook 65 = .ok (.invokevirtual 149, 3) := by decide +kernel
theorem dX6_leastHook_68 : decode cX6_leastHook 68 = .ok (.ifCond .eq 5, 3) := by decide +kernel
theorem dX6_leastHook_71 : decode cX6_leastHook 71 = .ok (.iload_n 2, 1) := by decide +kernel
theorem dX6_leastHook_72 : decode cX6_leastHook 72 = .ok (.ireturn, 1) := by decide +kernel
theorem dX6_leastHook_73 : decode cX6_leastHook 73 = .ok (.iinc 2 1, 3) := by decide +kernel
theorem dX6_leastHook_76 : decode cX6_leastHook 76 = .ok (.goto (-61), 3) := by decide +kernel
theorem dX6_leastHook_79 : decode cX6_leastHook 79 = .ok (.bipush (-4), 2) := by decide +kernel
theorem dX6_leastHook_81 : decode cX6_leastHook 81 = .ok (.ireturn, 1) := by decide +kernel
theorem dX6_pole_0 : decode cX6_pole 0 = .ok (.iconst 1, 1) := by decide +kernel
theorem dX6_pole_1 : decode cX6_pole 1 = .ok (.istore_n 1, 1) := by decide +kernel
theorem dX6_pole_2 : decode cX6_pole 2 = .ok (.iload_n 1, 1) := by decide +kernel
theorem dX6_pole_3 : decode cX6_pole 3 = .ok (.bipush 20, 2) := by decide +kernel
theorem dX6_pole_5 : decode cX6_pole 5 = .ok (.if_icmp .gt 56, 3) := by decide +kernel
theorem dX6_pole_8 : decode cX6_pole 8 = .ok (.aload_n 0, 1) := by decide +kernel
theorem dX6_pole_9 : decode cX6_pole 9 = .ok (.getfield 47, 3) := by decide +kernel
theorem dX6_pole_12 : decode cX6_pole 12 = .ok (.aload_n 0, 1) := by decide +kernel
theorem dX6_pole_13 : decode cX6_pole 13 = .ok (.getfield 26, 3) := by decide +kernel
theorem dX6_pole_16 : decode cX6_pole 16 = .ok (.invokevirtual 185, 3) := by decide +kernel
theorem dX6_pole_19 : decode cX6_pole 19 = .ok (.aload_n 0, 1) := by decide +kernel
theorem dX6_pole_20 : decode cX6_pole 20 = .ok (.getfield 47, 3) := by decide +kernel
theorem dX6_pole_23 : decode cX6_pole 23 = .ok (.iload_n 1, 1) := by decide +kernel
theorem dX6_pole_24 : decode cX6_pole 24 = .ok (.invokevirtual 210, 3) := by decide +kernel
theorem dX6_pole_27 : decode cX6_pole 27 = .ok (.aload_n 0, 1) := by decide +kernel
theorem dX6_pole_28 : decode cX6_pole 28 = .ok (.getfield 47, 3) := by decide +kernel
theorem dX6_pole_31 : decode cX6_pole 31 = .ok (.bipush 99, 2) := by decide +kernel
theorem dX6_pole_33 : decode cX6_pole 33 = .ok (.invokevirtual 188, 3) := by decide +kernel
theorem dX6_pole_36 : decode cX6_pole 36 = .ok (.aload_n 0, 1) := by decide +kernel
theorem dX6_pole_37 : decode cX6_pole 37 = .ok (.getfield 19, 3) := by decide +kernel
theorem dX6_pole_40 : decode cX6_pole 40 = .ok (.aload_n 0, 1) := by decide +kernel
theorem dX6_pole_41 : decode cX6_pole 41 = .ok (.getfield 47, 3) := by decide +kernel
theorem dX6_pole_44 : decode cX6_pole 44 = .ok (.getfield 191, 3) := by decide +kernel
theorem dX6_pole_47 : decode cX6_pole 47 = .ok (.invokevirtual 213, 3) := by decide +kernel
theorem dX6_pole_50 : decode cX6_pole 50 = .ok (.ifCond .eq 5, 3) := by decide +kernel
theorem dX6_pole_53 : decode cX6_pole 53 = .ok (.iload_n 1, 1) := by decide +kernel
theorem dX6_pole_54 : decode cX6_pole 54 = .ok (.ireturn, 1) := by decide +kernel
theorem dX6_pole_55 : decode cX6_pole 55 = .ok (.iinc 1 1, 3) := by decide +kernel
theorem dX6_pole_58 : decode cX6_pole 58 = .ok (.goto (-56), 3) := by decide +kernel
theorem dX6_pole_61 : decode cX6_pole 61 = .ok (.bipush (-4), 2) := by decide +kernel
theorem dX6_pole_63 : decode cX6_pole 63 = .ok (.ireturn, 1) := by decide +kernel
theorem dX6_firstDay_0 : decode cX6_firstDay 0 = .ok (.aload_n 0, 1) := by decide +kernel
theorem dX6_firstDay_1 : decode cX6_firstDay 1 = .ok (.getfield 19, 3) := by decide +kernel
theorem dX6_firstDay_4 : decode cX6_firstDay 4 = .ok (.iload_n 1, 1) := by decide +kernel
theorem dX6_firstDay_5 : decode cX6_firstDay 5 = .ok (.invokevirtual 131, 3) := by decide +kernel
theorem dX6_firstDay_8 : decode cX6_firstDay 8 = .ok (.ifCond .eq 14, 3) := by decide +kernel
theorem dX6_firstDay_11 : decode cX6_firstDay 11 = .ok (.aload_n 0, 1) := by decide +kernel
theorem dX6_firstDay_12 : decode cX6_firstDay 12 = .ok (.getfield 19, 3) := by decide +kernel
theorem dX6_firstDay_15 : decode cX6_firstDay 15 = .ok (.iload_n 2, 1) := by decide +kernel
theorem dX6_firstDay_16 : decode cX6_firstDay 16 = .ok (.invokevirtual 97, 3) := by decide +kernel
theorem dX6_firstDay_19 : decode cX6_firstDay 19 = .ok (.ifCond .ne 5, 3) := by decide +kernel
theorem dX6_firstDay_22 : decode cX6_firstDay 22 = .ok (.iconst (-1), 1) := by decide +kernel
theorem dX6_firstDay_23 : decode cX6_firstDay 23 = .ok (.ireturn, 1) := by decide +kernel
theorem dX6_firstDay_24 : decode cX6_firstDay 24 = .ok (.aload_n 0, 1) := by decide +kernel
theorem dX6_firstDay_25 : decode cX6_firstDay 25 = .ok (.getfield 19, 3) := by decide +kernel
theorem dX6_firstDay_28 : decode cX6_firstDay 28 = .ok (.aload_n 0, 1) := by decide +kernel
theorem dX6_firstDay_29 : decode cX6_firstDay 29 = .ok (.getfield 26, 3) := by decide +kernel
theorem dX6_firstDay_32 : decode cX6_firstDay 32 = .ok (.iload_n 1, 1) := by decide +kernel
theorem dX6_firstDay_33 : decode cX6_firstDay 33 = .ok (.iload_n 2, 1) := by decide +kernel
theorem dX6_firstDay_34 : decode cX6_firstDay 34 = .ok (.invokevirtual 217, 3) := by decide +kernel
theorem dX6_firstDay_37 : decode cX6_firstDay 37 = .ok (.ireturn, 1) := by decide +kernel
theorem dX6_sticks_0 : decode cX6_sticks 0 = .ok (.iload_n 1, 1) := by decide +kernel
theorem dX6_sticks_1 : decode cX6_sticks 1 = .ok (.iconst 0, 1) := by decide +kernel
theorem dX6_sticks_2 : decode cX6_sticks 2 = .ok (.bipush 99, 2) := by decide +kernel
theorem dX6_sticks_4 : decode cX6_sticks 4 = .ok (.invokestatic 72, 3) := by decide +kernel
theorem dX6_sticks_7 : decode cX6_sticks 7 = .ok (.ifCond .eq 12, 3) := by decide +kernel
theorem dX6_sticks_10 : decode cX6_sticks 10 = .ok (.iload_n 2, 1) := by decide +kernel
theorem dX6_sticks_11 : decode cX6_sticks 11 = .ok (.iconst 0, 1) := by decide +kernel
theorem dX6_sticks_12 : decode cX6_sticks 12 = .ok (.iconst 1, 1) := by decide +kernel
theorem dX6_sticks_13 : decode cX6_sticks 13 = .ok (.invokestatic 72, 3) := by decide +kernel
theorem dX6_sticks_16 : decode cX6_sticks 16 = .ok (.ifCond .ne 5, 3) := by decide +kernel
theorem dX6_sticks_19 : decode cX6_sticks 19 = .ok (.iconst (-1), 1) := by decide +kernel
theorem dX6_sticks_20 : decode cX6_sticks 20 = .ok (.ireturn, 1) := by decide +kernel
theorem dX6_sticks_21 : decode cX6_sticks 21 = .ok (.iconst 0, 1) := by decide +kernel
theorem dX6_sticks_22 : decode cX6_sticks 22 = .ok (.istore_n 3, 1) := by decide +kernel
theorem dX6_sticks_23 : decode cX6_sticks 23 = .ok (.bipush (-4), 2) := by decide +kernel
theorem dX6_sticks_25 : decode cX6_sticks 25 = .ok (.istore 4, 2) := by decide +kernel
theorem dX6_sticks_27 : decode cX6_sticks 27 = .ok (.iconst 0, 1) := by decide +kernel
theorem dX6_sticks_28 : decode cX6_sticks 28 = .ok (.istore 5, 2) := by decide +kernel
theorem dX6_sticks_30 : decode cX6_sticks 30 = .ok (.iload 5, 2) := by decide +kernel
theorem dX6_sticks_32 : decode cX6_sticks 32 = .ok (.sipush 256, 3) := by decide +kernel
theorem dX6_sticks_35 : decode cX6_sticks 35 = .ok (.if_icmp .ge 51, 3) := by decide +kernel
theorem dX6_sticks_38 : decode cX6_sticks 38 = .ok (.iload 5, 2) := by decide +kernel
theorem dX6_sticks_40 : decode cX6_sticks 40 = .ok (.aload_n 0, 1) := by decide +kernel
theorem dX6_sticks_41 : decode cX6_sticks 41 = .ok (.getfield 26, 3) := by decide +kernel
theorem dX6_sticks_44 : decode cX6_sticks 44 = .ok (.getfield 221, 3) := by decide +kernel
theorem dX6_sticks_47 : decode cX6_sticks 47 = .ok (.iconst (-1), 1) := by decide +kernel
theorem dX6_sticks_48 : decode cX6_sticks 48 = .ok (.ixor, 1) := by decide +kernel
theorem dX6_sticks_49 : decode cX6_sticks 49 = .ok (.iand, 1) := by decide +kernel
theorem dX6_sticks_50 : decode cX6_sticks 50 = .ok (.ifCond .ne 30, 3) := by decide +kernel
theorem dX6_sticks_53 : decode cX6_sticks 53 = .ok (.aload_n 0, 1) := by decide +kernel
theorem dX6_sticks_54 : decode cX6_sticks 54 = .ok (.getfield 19, 3) := by decide +kernel
theorem dX6_sticks_57 : decode cX6_sticks 57 = .ok (.iload 5, 2) := by decide +kernel
theorem dX6_sticks_59 : decode cX6_sticks 59 = .ok (.invokevirtual 224, 3) := by decide +kernel
theorem dX6_sticks_62 : decode cX6_sticks 62 = .ok (.iload_n 1, 1) := by decide +kernel
theorem dX6_sticks_63 : decode cX6_sticks 63 = .ok (.if_icmp .ne 17, 3) := by decide +kernel
theorem dX6_sticks_66 : decode cX6_sticks 66 = .ok (.iinc 3 1, 3) := by decide +kernel
theorem dX6_sticks_69 : decode cX6_sticks 69 = .ok (.iload 4, 2) := by decide +kernel
theorem dX6_sticks_71 : decode cX6_sticks 71 = .ok (.bipush (-4), 2) := by decide +kernel
theorem dX6_sticks_73 : decode cX6_sticks 73 = .ok (.if_icmp .ne 7, 3) := by decide +kernel
theorem dX6_sticks_76 : decode cX6_sticks 76 = .ok (.iload 5, 2) := by decide +kernel
theorem dX6_sticks_78 : decode cX6_sticks 78 = .ok (.istore 4, 2) := by decide +kernel
theorem dX6_sticks_80 : decode cX6_sticks 80 = .ok (.iinc 5 1, 3) := by decide +kernel
theorem dX6_sticks_83 : decode cX6_sticks 83 = .ok (.goto (-53), 3) := by decide +kernel
theorem dX6_sticks_86 : decode cX6_sticks 86 = .ok (.iload_n 2, 1) := by decide +kernel
theorem dX6_sticks_87 : decode cX6_sticks 87 = .ok (.ifCond .ne 7, 3) := by decide +kernel
theorem dX6_sticks_90 : decode cX6_sticks 90 = .ok (.iload_n 3, 1) := by decide +kernel
theorem dX6_sticks_91 : decode cX6_sticks 91 = .ok (.goto 5, 3) := by decide +kernel
theorem dX6_sticks_94 : decode cX6_sticks 94 = .ok (.iload 4, 2) := by decide +kernel
theorem dX6_sticks_96 : decode cX6_sticks 96 = .ok (.ireturn, 1) := by decide +kernel
theorem dX6_whose_0 : decode cX6_whose 0 = .ok (.aload_n 0, 1) := by decide +kernel
theorem dX6_whose_1 : decode cX6_whose 1 = .ok (.getfield 19, 3) := by decide +kernel
theorem dX6_whose_4 : decode cX6_whose 4 = .ok (.iload_n 1, 1) := by decide +kernel
theorem dX6_whose_5 : decode cX6_whose 5 = .ok (.invokevirtual 97, 3) := by decide +kernel
theorem dX6_whose_8 : decode cX6_whose 8 = .ok (.ifCond .eq 13, 3) := by decide +kernel
theorem dX6_whose_11 : decode cX6_whose 11 = .ok (.iload_n 2, 1) := by decide +kernel
theorem dX6_whose_12 : decode cX6_whose 12 = .ok (.iconst 0, 1) := by decide +kernel
theorem dX6_whose_13 : decode cX6_whose 13 = .ok (.bipush 99, 2) := by decide +kernel
theorem dX6_whose_15 : decode cX6_whose 15 = .ok (.invokestatic 72, 3) := by decide +kernel
theorem dX6_whose_18 : decode cX6_whose 18 = .ok (.ifCond .ne 5, 3) := by decide +kernel
theorem dX6_whose_21 : decode cX6_whose 21 = .ok (.iconst (-1), 1) := by decide +kernel
theorem dX6_whose_22 : decode cX6_whose 22 = .ok (.ireturn, 1) := by decide +kernel
theorem dX6_whose_23 : decode cX6_whose 23 = .ok (.iconst 0, 1) := by decide +kernel
theorem dX6_whose_24 : decode cX6_whose 24 = .ok (.istore_n 3, 1) := by decide +kernel
theorem dX6_whose_25 : decode cX6_whose 25 = .ok (.iconst 0, 1) := by decide +kernel
theorem dX6_whose_26 : decode cX6_whose 26 = .ok (.istore 4, 2) := by decide +kernel
theorem dX6_whose_28 : decode cX6_whose 28 = .ok (.iload 4, 2) := by decide +kernel
theorem dX6_whose_30 : decode cX6_whose 30 = .ok (.aload_n 0, 1) := by decide +kernel
theorem dX6_whose_31 : decode cX6_whose 31 = .ok (.getfield 19, 3) := by decide +kernel
theorem dX6_whose_34 : decode cX6_whose 34 = .ok (.getfield 227, 3) := by decide +kernel
theorem dX6_whose_37 : decode cX6_whose 37 = .ok (.if_icmp .ge 35, 3) := by decide +kernel
theorem dX6_whose_40 : decode cX6_whose 40 = .ok (.aload_n 0, 1) := by decide +kernel
theorem dX6_whose_41 : decode cX6_whose 41 = .ok (.getfield 19, 3) := by decide +kernel
theorem dX6_whose_44 : decode cX6_whose 44 = .ok (.aload_n 0, 1) := by decide +kernel
theorem dX6_whose_45 : decode cX6_whose 45 = .ok (.getfield 26, 3) := by decide +kernel
theorem dX6_whose_48 : decode cX6_whose 48 = .ok (.iload 4, 2) := by decide +kernel
theorem dX6_whose_50 : decode cX6_whose 50 = .ok (.iload_n 1, 1) := by decide +kernel
theorem dX6_whose_51 : decode cX6_whose 51 = .ok (.iload_n 2, 1) := by decide +kernel
theorem dX6_whose_52 : decode cX6_whose 52 = .ok (.iconst 0, 1) := by decide +kernel
theorem dX6_whose_53 : decode cX6_whose 53 = .ok (.invokevirtual 230, 3) := by decide +kernel
theorem dX6_whose_56 : decode cX6_whose 56 = .ok (.ifCond .eq 10, 3) := by decide +kernel
theorem dX6_whose_59 : decode cX6_whose 59 = .ok (.iload_n 3, 1) := by decide +kernel
theorem dX6_whose_60 : decode cX6_whose 60 = .ok (.iconst 1, 1) := by decide +kernel
theorem dX6_whose_61 : decode cX6_whose 61 = .ok (.iload 4, 2) := by decide +kernel
theorem dX6_whose_63 : decode cX6_whose 63 = .ok (.ishl, 1) := by decide +kernel
theorem dX6_whose_64 : decode cX6_whose 64 = .ok (.ior, 1) := by decide +kernel
theorem dX6_whose_65 : decode cX6_whose 65 = .ok (.istore_n 3, 1) := by decide +kernel
theorem dX6_whose_66 : decode cX6_whose 66 = .ok (.iinc 4 1, 3) := by decide +kernel
theorem dX6_whose_69 : decode cX6_whose 69 = .ok (.goto (-41), 3) := by decide +kernel
theorem dX6_whose_72 : decode cX6_whose 72 = .ok (.iload_n 3, 1) := by decide +kernel
theorem dX6_whose_73 : decode cX6_whose 73 = .ok (.ireturn, 1) := by decide +kernel
theorem dX6_sure_0 : decode cX6_sure 0 = .ok (.aload_n 0, 1) := by decide +kernel
theorem dX6_sure_1 : decode cX6_sure 1 = .ok (.getfield 19, 3) := by decide +kernel
theorem dX6_sure_4 : decode cX6_sure 4 = .ok (.iload_n 1, 1) := by decide +kernel
theorem dX6_sure_5 : decode cX6_sure 5 = .ok (.invokevirtual 131, 3) := by decide +kernel
theorem dX6_sure_8 : decode cX6_sure 8 = .ok (.ifCond .eq 33, 3) := by decide +kernel
theorem dX6_sure_11 : decode cX6_sure 11 = .ok (.iload_n 2, 1) := by decide +kernel
theorem dX6_sure_12 : decode cX6_sure 12 = .ok (.iconst 0, 1) := by decide +kernel
theorem dX6_sure_13 : decode cX6_sure 13 = .ok (.bipush 8, 2) := by decide +kernel
theorem dX6_sure_15 : decode cX6_sure 15 = .ok (.invokestatic 72, 3) := by decide +kernel
theorem dX6_sure_18 : decode cX6_sure 18 = .ok (.ifCond .eq 23, 3) := by decide +kernel
theorem dX6_sure_21 : decode cX6_sure 21 = .ok (.iload_n 3, 1) := by decide +kernel
theorem dX6_sure_22 : decode cX6_sure 22 = .ok (.iconst 0, 1) := by decide +kernel
theorem dX6_sure_23 : decode cX6_sure 23 = .ok (.bipush 10, 2) := by decide +kernel
theorem dX6_sure_25 : decode cX6_sure 25 = .ok (.invokestatic 72, 3) := by decide +kernel
theorem dX6_sure_28 : decode cX6_sure 28 = .ok (.ifCond .eq 13, 3) := by decide +kernel
theorem dX6_sure_31 : decode cX6_sure 31 = .ok (.iload 4, 2) := by decide +kernel
theorem dX6_sure_33 : decode cX6_sure 33 = .ok (.iconst 0, 1) := by decide +kernel
theorem dX6_sure_34 : decode cX6_sure 34 = .ok (.iconst 1, 1) := by decide +kernel
theorem dX6_sure_35 : decode cX6_sure 35 = .ok (.invokestatic 72, 3) := by decide +kernel
theorem dX6_sure_38 : decode cX6_sure 38 = .ok (.ifCond .ne 5, 3) := by decide +kernel
theorem dX6_sure_41 : decode cX6_sure 41 = .ok (.iconst (-1), 1) := by decide +kernel
theorem dX6_sure_42 : decode cX6_sure 42 = .ok (.ireturn, 1) := by decide +kernel
theorem dX6_sure_43 : decode cX6_sure 43 = .ok (.aload_n 0, 1) := by decide +kernel
theorem dX6_sure_44 : decode cX6_sure 44 = .ok (.getfield 26, 3) := by decide +kernel
theorem dX6_sure_47 : decode cX6_sure 47 = .ok (.iload_n 1, 1) := by decide +kernel
theorem dX6_sure_48 : decode cX6_sure 48 = .ok (.invokevirtual 134, 3) := by decide +kernel
theorem dX6_sure_51 : decode cX6_sure 51 = .ok (.aload_n 0, 1) := by decide +kernel
theorem dX6_sure_52 : decode cX6_sure 52 = .ok (.getfield 19, 3) := by decide +kernel
theorem dX6_sure_55 : decode cX6_sure 55 = .ok (.getfield 234, 3) := by decide +kernel
theorem dX6_sure_58 : decode cX6_sure 58 = .ok (.if_icmp .gt 5, 3) := by decide +kernel
theorem dX6_sure_61 : decode cX6_sure 61 = .ok (.iconst 1, 1) := by decide +kernel
theorem dX6_sure_62 : decode cX6_sure 62 = .ok (.ireturn, 1) := by decide +kernel
theorem dX6_sure_63 : decode cX6_sure 63 = .ok (.bipush 10, 2) := by decide +kernel
theorem dX6_sure_65 : decode cX6_sure 65 = .ok (.iload_n 3, 1) := by decide +kernel
theorem dX6_sure_66 : decode cX6_sure 66 = .ok (.isub, 1) := by decide +kernel
theorem dX6_sure_67 : decode cX6_sure 67 = .ok (.invokestatic 237, 3) := by decide +kernel
theorem dX6_sure_70 : decode cX6_sure 70 = .ok (.istore 5, 2) := by decide +kernel
theorem dX6_sure_72 : decode cX6_sure 72 = .ok (.iload 4, 2) := by decide +kernel
theorem dX6_sure_74 : decode cX6_sure 74 = .ok (.ifCond .ne 10, 3) := by decide +kernel
theorem dX6_sure_77 : decode cX6_sure 77 = .ok (.bipush 10, 2) := by decide +kernel
theorem dX6_sure_79 : decode cX6_sure 79 = .ok (.iload_n 3, 1) := by decide +kernel
theorem dX6_sure_80 : decode cX6_sure 80 = .ok (.isub, 1) := by decide +kernel
theorem dX6_sure_81 : decode cX6_sure 81 = .ok (.goto 5, 3) := by decide +kernel
theorem dX6_sure_84 : decode cX6_sure 84 = .ok (.bipush 10, 2) := by decide +kernel
theorem dX6_sure_86 : decode cX6_sure 86 = .ok (.iload 5, 2) := by decide +kernel
theorem dX6_sure_88 : decode cX6_sure 88 = .ok (.idiv, 1) := by decide +kernel
theorem dX6_sure_89 : decode cX6_sure 89 = .ok (.istore 6, 2) := by decide +kernel
theorem dX6_sure_91 : decode cX6_sure 91 = .ok (.iconst 1, 1) := by decide +kernel
theorem dX6_sure_92 : decode cX6_sure 92 = .ok (.istore 7, 2) := by decide +kernel
theorem dX6_sure_94 : decode cX6_sure 94 = .ok (.iconst 0, 1) := by decide +kernel
theorem dX6_sure_95 : decode cX6_sure 95 = .ok (.istore 8, 2) := by decide +kernel
theorem dX6_sure_97 : decode cX6_sure 97 = .ok (.iload 8, 2) := by decide +kernel
theorem dX6_sure_99 : decode cX6_sure 99 = .ok (.iload_n 2, 1) := by decide +kernel
theorem dX6_sure_100 : decode cX6_sure 100 = .ok (.if_icmp .ge 16, 3) := by decide +kernel
theorem dX6_sure_103 : decode cX6_sure 103 = .ok (.iload 7, 2) := by decide +kernel
theorem dX6_sure_105 : decode cX6_sure 105 = .ok (.iload 6, 2) := by decide +kernel
theorem dX6_sure_107 : decode cX6_sure 107 = .ok (.imul, 1) := by decide +kernel
theorem dX6_sure_108 : decode cX6_sure 108 = .ok (.istore 7, 2) := by decide +kernel
theorem dX6_sure_110 : decode cX6_sure 110 = .ok (.iinc 8 1, 3) := by decide +kernel
theorem dX6_sure_113 : decode cX6_sure 113 = .ok (.goto (-16), 3) := by decide +kernel
theorem dX6_sure_116 : decode cX6_sure 116 = .ok (.iload 7, 2) := by decide +kernel
theorem dX6_sure_118 : decode cX6_sure 118 = .ok (.ireturn, 1) := by decide +kernel
theorem dX6_waste_0 : decode cX6_waste 0 = .ok (.iconst 0, 1) := by decide +kernel
theorem dX6_waste_1 : decode cX6_waste 1 = .ok (.istore_n 1, 1) := by decide +kernel
theorem dX6_waste_2 : decode cX6_waste 2 = .ok (.iconst 0, 1) := by decide +kernel
theorem dX6_waste_3 : decode cX6_waste 3 = .ok (.istore_n 2, 1) := by decide +kernel
theorem dX6_waste_4 : decode cX6_waste 4 = .ok (.iload_n 2, 1) := by decide +kernel
theorem dX6_waste_5 : decode cX6_waste 5 = .ok (.aload_n 0, 1) := by decide +kernel
theorem dX6_waste_6 : decode cX6_waste 6 = .ok (.getfield 19, 3) := by decide +kernel
theorem dX6_waste_9 : decode cX6_waste 9 = .ok (.getfield 94, 3) := by decide +kernel
theorem dX6_waste_12 : decode cX6_waste 12 = .ok (.if_icmp .ge 46, 3) := by decide +kernel
theorem dX6_waste_15 : decode cX6_waste 15 = .ok (.aload_n 0, 1) := by decide +kernel
theorem dX6_waste_16 : decode cX6_waste 16 = .ok (.getfield 26, 3) := by decide +kernel
theorem dX6_waste_19 : decode cX6_waste 19 = .ok (.iload_n 2, 1) := by decide +kernel
theorem dX6_waste_20 : decode cX6_waste 20 = .ok (.invokevirtual 128, 3) := by decide +kernel
theorem dX6_waste_23 : decode cX6_waste 23 = .ok (.ifCond .ne 29, 3) := by decide +kernel
theorem dX6_waste_26 : decode cX6_waste 26 = .ok (.aload_n 0, 1) := by decide +kernel
theorem dX6_waste_27 : decode cX6_waste 27 = .ok (.getfield 19, 3) := by decide +kernel
theorem dX6_waste_30 : decode cX6_waste 30 = .ok (.aload_n 0, 1) := by decide +kernel
theorem dX6_waste_31 : decode cX6_waste 31 = .ok (.getfield 26, 3) := by decide +kernel
theorem dX6_waste_34 : decode cX6_waste 34 = .ok (.iload_n 2, 1) := by decide +kernel
theorem dX6_waste_35 : decode cX6_waste 35 = .ok (.invokevirtual 240, 3) := by decide +kernel
theorem dX6_waste_38 : decode cX6_waste 38 = .ok (.ifCond .eq 14, 3) := by decide +kernel
theorem dX6_waste_41 : decode cX6_waste 41 = .ok (.iload_n 1, 1) := by decide +kernel
theorem dX6_waste_42 : decode cX6_waste 42 = .ok (.aload_n 0, 1) := by decide +kernel
theorem dX6_waste_43 : decode cX6_waste 43 = .ok (.getfield 19, 3) := by decide +kernel
theorem dX6_waste_46 : decode cX6_waste 46 = .ok (.iload_n 2, 1) := by decide +kernel
theorem dX6_waste_47 : decode cX6_waste 47 = .ok (.invokevirtual 108, 3) := by decide +kernel
theorem dX6_waste_50 : decode cX6_waste 50 = .ok (.iadd, 1) := by decide +kernel
theorem dX6_waste_51 : decode cX6_waste 51 = .ok (.istore_n 1, 1) := by decide +kernel
theorem dX6_waste_52 : decode cX6_waste 52 = .ok (.iinc 2 1, 3) := by decide +kernel
theorem dX6_waste_55 : decode cX6_waste 55 = .ok (.goto (-51), 3) := by decide +kernel
theorem dX6_waste_58 : decode cX6_waste 58 = .ok (.iload_n 1, 1) := by decide +kernel
theorem dX6_waste_59 : decode cX6_waste 59 = .ok (.ireturn, 1) := by decide +kernel
theorem dX6_needs_0 : decode cX6_needs 0 = .ok (.iconst 0, 1) := by decide +kernel
theorem dX6_needs_1 : decode cX6_needs 1 = .ok (.istore_n 1, 1) := by decide +kernel
theorem dX6_needs_2 : decode cX6_needs 2 = .ok (.iconst 0, 1) := by decide +kernel
theorem dX6_needs_3 : decode cX6_needs 3 = .ok (.istore_n 2, 1) := by decide +kernel
theorem dX6_needs_4 : decode cX6_needs 4 = .ok (.iload_n 2, 1) := by decide +kernel
theorem dX6_needs_5 : decode cX6_needs 5 = .ok (.aload_n 0, 1) := by decide +kernel
theorem dX6_needs_6 : decode cX6_needs 6 = .ok (.getfield 19, 3) := by decide +kernel
theorem dX6_needs_9 : decode cX6_needs 9 = .ok (.getfield 227, 3) := by decide +kernel
theorem dX6_needs_12 : decode cX6_needs 12 = .ok (.if_icmp .ge 33, 3) := by decide +kernel
theorem dX6_needs_15 : decode cX6_needs 15 = .ok (.iload_n 1, 1) := by decide +kernel
theorem dX6_needs_16 : decode cX6_needs 16 = .ok (.iconst 0, 1) := by decide +kernel
theorem dX6_needs_17 : decode cX6_needs 17 = .ok (.aload_n 0, 1) := by decide +kernel
theorem dX6_needs_18 : decode cX6_needs 18 = .ok (.getfield 19, 3) := by decide +kernel
theorem dX6_needs_21 : decode cX6_needs 21 = .ok (.iload_n 2, 1) := by decide +kernel
theorem dX6_needs_22 : decode cX6_needs 22 = .ok (.invokevirtual 140, 3) := by decide +kernel
theorem dX6_needs_25 : decode cX6_needs 25 = .ok (.aload_n 0, 1) := by decide +kernel
theorem dX6_needs_26 : decode cX6_needs 26 = .ok (.getfield 26, 3) := by decide +kernel
theorem dX6_needs_29 : decode cX6_needs 29 = .ok (.iload_n 2, 1) := by decide +kernel
theorem dX6_needs_30 : decode cX6_needs 30 = .ok (.invokevirtual 143, 3) := by decide +kernel
theorem dX6_needs_33 : decode cX6_needs 33 = .ok (.isub, 1) := by decide +kernel
theorem dX6_needs_34 : decode cX6_needs 34 = .ok (.invokestatic 243, 3) := by decide +kernel
theorem dX6_needs_37 : decode cX6_needs 37 = .ok (.iadd, 1) := by decide +kernel
theorem dX6_needs_38 : decode cX6_needs 38 = .ok (.istore_n 1, 1) := by decide +kernel
theorem dX6_needs_39 : decode cX6_needs 39 = .ok (.iinc 2 1, 3) := by decide +kernel
theorem dX6_needs_42 : decode cX6_needs 42 = .ok (.goto (-38), 3) := by decide +kernel
theorem dX6_needs_45 : decode cX6_needs 45 = .ok (.iload_n 1, 1) := by decide +kernel
theorem dX6_needs_46 : decode cX6_needs 46 = .ok (.ireturn, 1) := by decide +kernel
theorem dX6_storm_0 : decode cX6_storm 0 = .ok (.iload_n 1, 1) := by decide +kernel
theorem dX6_storm_1 : decode cX6_storm 1 = .ok (.iconst 0, 1) := by decide +kernel
theorem dX6_storm_2 : decode cX6_storm 2 = .ok (.sipush 9999, 3) := by decide +kernel
theorem dX6_storm_5 : decode cX6_storm 5 = .ok (.invokestatic 72, 3) := by decide +kernel
theorem dX6_storm_8 : decode cX6_storm 8 = .ok (.ifCond .eq 22, 3) := by decide +kernel
theorem dX6_storm_11 : decode cX6_storm 11 = .ok (.iload_n 2, 1) := by decide +kernel
theorem dX6_storm_12 : decode cX6_storm 12 = .ok (.iconst 1, 1) := by decide +kernel
theorem dX6_storm_13 : decode cX6_storm 13 = .ok (.bipush 30, 2) := by decide +kernel
theorem dX6_storm_15 : decode cX6_storm 15 = .ok (.invokestatic 72, 3) := by decide +kernel
theorem dX6_storm_18 : decode cX6_storm 18 = .ok (.ifCond .eq 12, 3) := by decide +kernel
theorem dX6_storm_21 : decode cX6_storm 21 = .ok (.iload_n 3, 1) := by decide +kernel
theorem dX6_storm_22 : decode cX6_storm 22 = .ok (.iconst 0, 1) := by decide +kernel
theorem dX6_storm_23 : decode cX6_storm 23 = .ok (.iconst 1, 1) := by decide +kernel
theorem dX6_storm_24 : decode cX6_storm 24 = .ok (.invokestatic 72, 3) := by decide +kernel
theorem dX6_storm_27 : decode cX6_storm 27 = .ok (.ifCond .ne 5, 3) := by decide +kernel
theorem dX6_storm_30 : decode cX6_storm 30 = .ok (.iconst (-1), 1) := by decide +kernel
theorem dX6_storm_31 : decode cX6_storm 31 = .ok (.ireturn, 1) := by decide +kernel
theorem dX6_storm_32 : decode cX6_storm 32 = .ok (.aload_n 0, 1) := by decide +kernel
theorem dX6_storm_33 : decode cX6_storm 33 = .ok (.getfield 26, 3) := by decide +kernel
theorem dX6_storm_36 : decode cX6_storm 36 = .ok (.getfield 114, 3) := by decide +kernel
theorem dX6_storm_39 : decode cX6_storm 39 = .ok (.iload_n 2, 1) := by decide +kernel
theorem dX6_storm_40 : decode cX6_storm 40 = .ok (.iadd, 1) := by decide +kernel
theorem dX6_storm_41 : decode cX6_storm 41 = .ok (.iconst 1, 1) := by decide +kernel
theorem dX6_storm_42 : decode cX6_storm 42 = .ok (.isub, 1) := by decide +kernel
theorem dX6_storm_43 : decode cX6_storm 43 = .ok (.bipush 99, 2) := by decide +kernel
theorem dX6_storm_45 : decode cX6_storm 45 = .ok (.if_icmp .le 6, 3) := by decide +kernel
theorem dX6_storm_48 : decode cX6_storm 48 = .ok (.bipush (-2), 2) := by decide +kernel
theorem dX6_storm_50 : decode cX6_storm 50 = .ok (.ireturn, 1) := by decide +kernel
theorem dX6_storm_51 : decode cX6_storm 51 = .ok (.aload_n 0, 1) := by decide +kernel
theorem dX6_storm_52 : decode cX6_storm 52 = .ok (.getfield 47, 3) := by decide +kernel
theorem dX6_storm_55 : decode cX6_storm 55 = .ok (.aload_n 0, 1) := by decide +kernel
theorem dX6_storm_56 : decode cX6_storm 56 = .ok (.getfield 26, 3) := by decide +kernel
theorem dX6_storm_59 : decode cX6_storm 59 = .ok (.invokevirtual 185, 3) := by decide +kernel
theorem dX6_storm_62 : decode cX6_storm 62 = .ok (.aload_n 0, 1) := by decide +kernel
theorem dX6_storm_63 : decode cX6_storm 63 = .ok (.getfield 47, 3) := by decide +kernel
theorem dX6_storm_66 : decode cX6_storm 66 = .ok (.iload_n 1, 1) := by decide +kernel
theorem dX6_storm_67 : decode cX6_storm 67 = .ok (.iload_n 2, 1) := by decide +kernel
theorem dX6_storm_68 : decode cX6_storm 68 = .ok (.invokevirtual 249, 3) := by decide +kernel
theorem dX6_storm_71 : decode cX6_storm 71 = .ok (.iload_n 3, 1) := by decide +kernel
theorem dX6_storm_72 : decode cX6_storm 72 = .ok (.ifCond .ne 18, 3) := by decide +kernel
theorem dX6_storm_75 : decode cX6_storm 75 = .ok (.aload_n 0, 1) := by decide +kernel
theorem dX6_storm_76 : decode cX6_storm 76 = .ok (.getfield 19, 3) := by decide +kernel
theorem dX6_storm_79 : decode cX6_storm 79 = .ok (.aload_n 0, 1) := by decide +kernel
theorem dX6_storm_80 : decode cX6_storm 80 = .ok (.getfield 47, 3) := by decide +kernel
theorem dX6_storm_83 : decode cX6_storm 83 = .ok (.getfield 191, 3) := by decide +kernel
theorem dX6_storm_86 : decode cX6_storm 86 = .ok (.invokevirtual 194, 3) := by decide +kernel
theorem dX6_storm_89 : decode cX6_storm 89 = .ok (.ireturn, 1) := by decide +kernel
theorem dX6_storm_90 : decode cX6_storm 90 = .ok (.aload_n 0, 1) := by decide +kernel
theorem dX6_storm_91 : decode cX6_storm 91 = .ok (.getfield 19, 3) := by decide +kernel
theorem dX6_storm_94 : decode cX6_storm 94 = .ok (.aload_n 0, 1) := by decide +kernel
theorem dX6_storm_95 : decode cX6_storm 95 = .ok (.getfield 47, 3) := by decide +kernel
theorem dX6_storm_98 : decode cX6_storm 98 = .ok (.getfield 191, 3) := by decide +kernel
theorem dX6_storm_101 : decode cX6_storm 101 = .ok (.getfield 221, 3) := by decide +kernel
theorem dX6_storm_104 : decode cX6_storm 104 = .ok (.aload_n 0, 1) := by decide +kernel
theorem dX6_storm_105 : decode cX6_storm 105 = .ok (.getfield 26, 3) := by decide +kernel
theorem dX6_storm_108 : decode cX6_storm 108 = .ok (.getfield 221, 3) := by decide +kernel
theorem dX6_storm_111 : decode cX6_storm 111 = .ok (.iconst (-1), 1) := by decide +kernel
theorem dX6_storm_112 : decode cX6_storm 112 = .ok (.ixor, 1) := by decide +kernel
theorem dX6_storm_113 : decode cX6_storm 113 = .ok (.iand, 1) := by decide +kernel
theorem dX6_storm_114 : decode cX6_storm 114 = .ok (.invokevirtual 224, 3) := by decide +kernel
theorem dX6_storm_117 : decode cX6_storm 117 = .ok (.ireturn, 1) := by decide +kernel
theorem dX6_keep_0 : decode cX6_keep 0 = .ok (.aload_n 0, 1) := by decide +kernel
theorem dX6_keep_1 : decode cX6_keep 1 = .ok (.getfield 39, 3) := by decide +kernel
theorem dX6_keep_4 : decode cX6_keep 4 = .ok (.invokevirtual 252, 3) := by decide +kernel
theorem dX6_keep_7 : decode cX6_keep 7 = .ok (.ifCond .eq 6, 3) := by decide +kernel
theorem dX6_keep_10 : decode cX6_keep 10 = .ok (.bipush (-3), 2) := by decide +kernel
theorem dX6_keep_12 : decode cX6_keep 12 = .ok (.ireturn, 1) := by decide +kernel
theorem dX6_keep_13 : decode cX6_keep 13 = .ok (.aload_n 0, 1) := by decide +kernel
theorem dX6_keep_14 : decode cX6_keep 14 = .ok (.getfield 39, 3) := by decide +kernel
theorem dX6_keep_17 : decode cX6_keep 17 = .ok (.aload_n 0, 1) := by decide +kernel
theorem dX6_keep_18 : decode cX6_keep 18 = .ok (.getfield 26, 3) := by decide +kernel
theorem dX6_keep_21 : decode cX6_keep 21 = .ok (.invokevirtual 159, 3) := by decide +kernel
theorem dX6_keep_24 : decode cX6_keep 24 = .ok (.aload_n 0, 1) := by decide +kernel
theorem dX6_keep_25 : decode cX6_keep 25 = .ok (.getfield 39, 3) := by decide +kernel
theorem dX6_keep_28 : decode cX6_keep 28 = .ok (.getfield 179, 3) := by decide +kernel
theorem dX6_keep_31 : decode cX6_keep 31 = .ok (.ireturn, 1) := by decide +kernel
theorem dX6_back_0 : decode cX6_back 0 = .ok (.aload_n 0, 1) := by decide +kernel
theorem dX6_back_1 : decode cX6_back 1 = .ok (.getfield 39, 3) := by decide +kernel
theorem dX6_back_4 : decode cX6_back 4 = .ok (.getfield 179, 3) := by decide +kernel
theorem dX6_back_7 : decode cX6_back 7 = .ok (.ifCond .ne 6, 3) := by decide +kernel
theorem dX6_back_10 : decode cX6_back 10 = .ok (.bipush (-2), 2) := by decide +kernel
theorem dX6_back_12 : decode cX6_back 12 = .ok (.ireturn, 1) := by decide +kernel
theorem dX6_back_13 : decode cX6_back 13 = .ok (.aload_n 0, 1) := by decide +kernel
theorem dX6_back_14 : decode cX6_back 14 = .ok (.getfield 39, 3) := by decide +kernel
theorem dX6_back_17 : decode cX6_back 17 = .ok (.aload_n 0, 1) := by decide +kernel
theorem dX6_back_18 : decode cX6_back 18 = .ok (.getfield 26, 3) := by decide +kernel
theorem dX6_back_21 : decode cX6_back 21 = .ok (.invokevirtual 182, 3) := by decide +kernel
theorem dX6_back_24 : decode cX6_back 24 = .ok (.aload_n 0, 1) := by decide +kernel
theorem dX6_back_25 : decode cX6_back 25 = .ok (.getfield 35, 3) := by decide +kernel
theorem dX6_back_28 : decode cX6_back 28 = .ok (.invokevirtual 91, 3) := by decide +kernel
theorem dX6_back_31 : decode cX6_back 31 = .ok (.aload_n 0, 1) := by decide +kernel
theorem dX6_back_32 : decode cX6_back 32 = .ok (.getfield 39, 3) := by decide +kernel
theorem dX6_back_35 : decode cX6_back 35 = .ok (.getfield 179, 3) := by decide +kernel
theorem dX6_back_38 : decode cX6_back 38 = .ok (.ireturn, 1) := by decide +kernel
theorem dX6_count_0 : decode cX6_count 0 = .ok (.iload_n 1, 1) := by decide +kernel
theorem dX6_count_1 : decode cX6_count 1 = .ok (.tableswitch 138 0 9 #[55, 63, 71, 79, 87, 95, 103, 114, 122, 130], 55) := by decide +kernel
theorem dX6_count_56 : decode cX6_count 56 = .ok (.aload_n 0, 1) := by decide +kernel
theorem dX6_count_57 : decode cX6_count 57 = .ok (.getfield 19, 3) := by decide +kernel
theorem dX6_count_60 : decode cX6_count 60 = .ok (.getfield 94, 3) := by decide +kernel
theorem dX6_count_63 : decode cX6_count 63 = .ok (.ireturn, 1) := by decide +kernel
theorem dX6_count_64 : decode cX6_count 64 = .ok (.aload_n 0, 1) := by decide +kernel
theorem dX6_count_65 : decode cX6_count 65 = .ok (.getfield 19, 3) := by decide +kernel
theorem dX6_count_68 : decode cX6_count 68 = .ok (.getfield 227, 3) := by decide +kernel
theorem dX6_count_71 : decode cX6_count 71 = .ok (.ireturn, 1) := by decide +kernel
theorem dX6_count_72 : decode cX6_count 72 = .ok (.aload_n 0, 1) := by decide +kernel
theorem dX6_count_73 : decode cX6_count 73 = .ok (.getfield 26, 3) := by decide +kernel
theorem dX6_count_76 : decode cX6_count 76 = .ok (.getfield 114, 3) := by decide +kernel
theorem dX6_count_79 : decode cX6_count 79 = .ok (.ireturn, 1) := by decide +kernel
theorem dX6_count_80 : decode cX6_count 80 = .ok (.aload_n 0, 1) := by decide +kernel
theorem dX6_count_81 : decode cX6_count 81 = .ok (.getfield 19, 3) := by decide +kernel
theorem dX6_count_84 : decode cX6_count 84 = .ok (.getfield 234, 3) := by decide +kernel
theorem dX6_count_87 : decode cX6_count 87 = .ok (.ireturn, 1) := by decide +kernel
theorem dX6_count_88 : decode cX6_count 88 = .ok (.aload_n 0, 1) := by decide +kernel
theorem dX6_count_89 : decode cX6_count 89 = .ok (.getfield 19, 3) := by decide +kernel
theorem dX6_count_92 : decode cX6_count 92 = .ok (.getfield 253, 3) := by decide +kernel
theorem dX6_count_95 : decode cX6_count 95 = .ok (.ireturn, 1) := by decide +kernel
theorem dX6_count_96 : decode cX6_count 96 = .ok (.aload_n 0, 1) := by decide +kernel
theorem dX6_count_97 : decode cX6_count 97 = .ok (.getfield 19, 3) := by decide +kernel
theorem dX6_count_100 : decode cX6_count 100 = .ok (.getfield 256, 3) := by decide +kernel
theorem dX6_count_103 : decode cX6_count 103 = .ok (.ireturn, 1) := by decide +kernel
theorem dX6_count_104 : decode cX6_count 104 = .ok (.aload_n 0, 1) := by decide +kernel
theorem dX6_count_105 : decode cX6_count 105 = .ok (.getfield 26, 3) := by decide +kernel
theorem dX6_count_108 : decode cX6_count 108 = .ok (.getfield 221, 3) := by decide +kernel
theorem dX6_count_111 : decode cX6_count 111 = .ok (.invokestatic 259, 3) := by decide +kernel
theorem dX6_count_114 : decode cX6_count 114 = .ok (.ireturn, 1) := by decide +kernel
theorem dX6_count_115 : decode cX6_count 115 = .ok (.aload_n 0, 1) := by decide +kernel
theorem dX6_count_116 : decode cX6_count 116 = .ok (.getfield 35, 3) := by decide +kernel
theorem dX6_count_119 : decode cX6_count 119 = .ok (.getfield 179, 3) := by decide +kernel
theorem dX6_count_122 : decode cX6_count 122 = .ok (.ireturn, 1) := by decide +kernel
theorem dX6_count_123 : decode cX6_count 123 = .ok (.aload_n 0, 1) := by decide +kernel
theorem dX6_count_124 : decode cX6_count 124 = .ok (.getfield 39, 3) := by decide +kernel
theorem dX6_count_127 : decode cX6_count 127 = .ok (.getfield 179, 3) := by decide +kernel
theorem dX6_count_130 : decode cX6_count 130 = .ok (.ireturn, 1) := by decide +kernel
theorem dX6_count_131 : decode cX6_count 131 = .ok (.aload_n 0, 1) := by decide +kernel
theorem dX6_count_132 : decode cX6_count 132 = .ok (.getfield 10, 3) := by decide +kernel
theorem dX6_count_135 : decode cX6_count 135 = .ok (.getfield 68, 3) := by decide +kernel
theorem dX6_count_138 : decode cX6_count 138 = .ok (.ireturn, 1) := by decide +kernel
theorem dX6_count_139 : decode cX6_count 139 = .ok (.iconst (-1), 1) := by decide +kernel
theorem dX6_count_140 : decode cX6_count 140 = .ok (.ireturn, 1) := by decide +kernel
theorem dX6_isWithin_0 : decode cX6_isWithin 0 = .ok (.iload_n 0, 1) := by decide +kernel
theorem dX6_isWithin_1 : decode cX6_isWithin 1 = .ok (.iload_n 1, 1) := by decide +kernel
theorem dX6_isWithin_2 : decode cX6_isWithin 2 = .ok (.if_icmp .lt 12, 3) := by decide +kernel
theorem dX6_isWithin_5 : decode cX6_isWithin 5 = .ok (.iload_n 0, 1) := by decide +kernel
theorem dX6_isWithin_6 : decode cX6_isWithin 6 = .ok (.iload_n 2, 1) := by decide +kernel
theorem dX6_isWithin_7 : decode cX6_isWithin 7 = .ok (.if_icmp .gt 7, 3) := by decide +kernel
theorem dX6_isWithin_10 : decode cX6_isWithin 10 = .ok (.iconst 1, 1) := by decide +kernel
theorem dX6_isWithin_11 : decode cX6_isWithin 11 = .ok (.goto 4, 3) := by decide +kernel
theorem dX6_isWithin_14 : decode cX6_isWithin 14 = .ok (.iconst 0, 1) := by decide +kernel
theorem dX6_isWithin_15 : decode cX6_isWithin 15 = .ok (.ireturn, 1) := by decide +kernel
theorem dX6_bit_0 : decode cX6_bit 0 = .ok (.iload_n 0, 1) := by decide +kernel
theorem dX6_bit_1 : decode cX6_bit 1 = .ok (.ifCond .eq 7, 3) := by decide +kernel
theorem dX6_bit_4 : decode cX6_bit 4 = .ok (.iconst 1, 1) := by decide +kernel
theorem dX6_bit_5 : decode cX6_bit 5 = .ok (.goto 4, 3) := by decide +kernel
theorem dX6_bit_8 : decode cX6_bit 8 = .ok (.iconst 0, 1) := by decide +kernel
theorem dX6_bit_9 : decode cX6_bit 9 = .ok (.ireturn, 1) := by decide +kernel
theorem dX6_commonWithTen_0 : decode cX6_commonWithTen 0 = .ok (.bipush 10, 2) := by decide +kernel
theorem dX6_commonWithTen_2 : decode cX6_commonWithTen 2 = .ok (.istore_n 1, 1) := by decide +kernel
theorem dX6_commonWithTen_3 : decode cX6_commonWithTen 3 = .ok (.iload_n 1, 1) := by decide +kernel
theorem dX6_commonWithTen_4 : decode cX6_commonWithTen 4 = .ok (.iconst 1, 1) := by decide +kernel
theorem dX6_commonWithTen_5 : decode cX6_commonWithTen 5 = .ok (.if_icmp .le 24, 3) := by decide +kernel
theorem dX6_commonWithTen_8 : decode cX6_commonWithTen 8 = .ok (.bipush 10, 2) := by decide +kernel
theorem dX6_commonWithTen_10 : decode cX6_commonWithTen 10 = .ok (.iload_n 1, 1) := by decide +kernel
theorem dX6_commonWithTen_11 : decode cX6_commonWithTen 11 = .ok (.irem, 1) := by decide +kernel
theorem dX6_commonWithTen_12 : decode cX6_commonWithTen 12 = .ok (.ifCond .ne 11, 3) := by decide +kernel
theorem dX6_commonWithTen_15 : decode cX6_commonWithTen 15 = .ok (.iload_n 0, 1) := by decide +kernel
theorem dX6_commonWithTen_16 : decode cX6_commonWithTen 16 = .ok (.iload_n 1, 1) := by decide +kernel
theorem dX6_commonWithTen_17 : decode cX6_commonWithTen 17 = .ok (.irem, 1) := by decide +kernel
theorem dX6_commonWithTen_18 : decode cX6_commonWithTen 18 = .ok (.ifCond .ne 5, 3) := by decide +kernel
theorem dX6_commonWithTen_21 : decode cX6_commonWithTen 21 = .ok (.iload_n 1, 1) := by decide +kernel
theorem dX6_commonWithTen_22 : decode cX6_commonWithTen 22 = .ok (.ireturn, 1) := by decide +kernel
theorem dX6_commonWithTen_23 : decode cX6_commonWithTen 23 = .ok (.iinc 1 (-1), 3) := by decide +kernel
theorem dX6_commonWithTen_26 : decode cX6_commonWithTen 26 = .ok (.goto (-23), 3) := by decide +kernel
theorem dX6_commonWithTen_29 : decode cX6_commonWithTen 29 = .ok (.iconst 1, 1) := by decide +kernel
theorem dX6_commonWithTen_30 : decode cX6_commonWithTen 30 = .ok (.ireturn, 1) := by decide +kernel
theorem dX7_init_0 : decode cX7_init 0 = .ok (.aload_n 0, 1) := by decide +kernel
theorem dX7_init_1 : decode cX7_init 1 = .ok (.invokespecial 1, 3) := by decide +kernel
theorem dX7_init_4 : decode cX7_init 4 = .ok (.aload_n 0, 1) := by decide +kernel
theorem dX7_init_5 : decode cX7_init 5 = .ok (.sipush 200, 3) := by decide +kernel
theorem dX7_init_8 : decode cX7_init 8 = .ok (.newarray .int, 2) := by decide +kernel
theorem dX7_init_10 : decode cX7_init 10 = .ok (.putfield 7, 3) := by decide +kernel
theorem dX7_init_13 : decode cX7_init 13 = .ok (.aload_n 0, 1) := by decide +kernel
theorem dX7_init_14 : decode cX7_init 14 = .ok (.bipush 37, 2) := by decide +kernel
theorem dX7_init_16 : decode cX7_init 16 = .ok (.newarray .int, 2) := by decide +kernel
theorem dX7_init_18 : decode cX7_init 18 = .ok (.putfield 13, 3) := by decide +kernel
theorem dX7_init_21 : decode cX7_init 21 = .ok (.aload_n 0, 1) := by decide +kernel
theorem dX7_init_22 : decode cX7_init 22 = .ok (.bipush 37, 2) := by decide +kernel
theorem dX7_init_24 : decode cX7_init 24 = .ok (.newarray .int, 2) := by decide +kernel
theorem dX7_init_26 : decode cX7_init 26 = .ok (.putfield 16, 3) := by decide +kernel
theorem dX7_init_29 : decode cX7_init 29 = .ok (.aload_n 0, 1) := by decide +kernel
theorem dX7_init_30 : decode cX7_init 30 = .ok (.bipush 29, 2) := by decide +kernel
theorem dX7_init_32 : decode cX7_init 32 = .ok (.newarray .int, 2) := by decide +kernel
theorem dX7_init_34 : decode cX7_init 34 = .ok (.putfield 19, 3) := by decide +kernel
theorem dX7_init_37 : decode cX7_init 37 = .ok (.aload_n 0, 1) := by decide +kernel
theorem dX7_init_38 : decode cX7_init 38 = .ok (.bipush 29, 2) := by decide +kernel
theorem dX7_init_40 : decode cX7_init 40 = .ok (.newarray .int, 2) := by decide +kernel
theorem dX7_init_42 : decode cX7_init 42 = .ok (.putfield 22, 3) := by decide +kernel
theorem dX7_init_45 : decode cX7_init 45 = .ok (.aload_n 0, 1) := by decide +kernel
theorem dX7_init_46 : decode cX7_init 46 = .ok (.sipush 232, 3) := by decide +kernel
theorem dX7_init_49 : decode cX7_init 49 = .ok (.newarray .int, 2) := by decide +kernel
theorem dX7_init_51 : decode cX7_init 51 = .ok (.putfield 25, 3) := by decide +kernel
theorem dX7_init_54 : decode cX7_init 54 = .ok (.aload_n 0, 1) := by decide +kernel
theorem dX7_init_55 : decode cX7_init 55 = .ok (.bipush 58, 2) := by decide +kernel
theorem dX7_init_57 : decode cX7_init 57 = .ok (.newarray .int, 2) := by decide +kernel
theorem dX7_init_59 : decode cX7_init 59 = .ok (.putfield 28, 3) := by decide +kernel
theorem dX7_init_62 : decode cX7_init 62 = .ok (.aload_n 0, 1) := by decide +kernel
theorem dX7_init_63 : decode cX7_init 63 = .ok (.bipush 29, 2) := by decide +kernel
theorem dX7_init_65 : decode cX7_init 65 = .ok (.newarray .int, 2) := by decide +kernel
theorem dX7_init_67 : decode cX7_init 67 = .ok (.putfield 31, 3) := by decide +kernel
theorem dX7_init_70 : decode cX7_init 70 = .ok (.aload_n 0, 1) := by decide +kernel
theorem dX7_init_71 : decode cX7_init 71 = .ok (.iconst 4, 1) := by decide +kernel
theorem dX7_init_72 : decode cX7_init 72 = .ok (.newarray .int, 2) := by decide +kernel
theorem dX7_init_74 : decode cX7_init 74 = .ok (.putfield 34, 3) := by decide +kernel
theorem dX7_init_77 : decode cX7_init 77 = .ok (.aload_n 0, 1) := by decide +kernel
theorem dX7_init_78 : decode cX7_init 78 = .ok (.bipush 8, 2) := by decide +kernel
theorem dX7_init_80 : decode cX7_init 80 = .ok (.newarray .int, 2) := by decide +kernel
theorem dX7_init_82 : decode cX7_init 82 = .ok (.putfield 37, 3) := by decide +kernel
theorem dX7_init_85 : decode cX7_init 85 = .ok (.aload_n 0, 1) := by decide +kernel
theorem dX7_init_86 : decode cX7_init 86 = .ok (.invokevirtual 40, 3) := by decide +kernel
theorem dX7_init_89 : decode cX7_init 89 = .ok (.aload_n 0, 1) := by decide +kernel
theorem dX7_init_90 : decode cX7_init 90 = .ok (.iconst 0, 1) := by decide +kernel
theorem dX7_init_91 : decode cX7_init 91 = .ok (.bipush 6, 2) := by decide +kernel
theorem dX7_init_93 : decode cX7_init 93 = .ok (.iconst 4, 1) := by decide +kernel
theorem dX7_init_94 : decode cX7_init 94 = .ok (.iconst 0, 1) := by decide +kernel
theorem dX7_init_95 : decode cX7_init 95 = .ok (.invokevirtual 43, 3) := by decide +kernel
theorem dX7_init_98 : decode cX7_init 98 = .ok (.aload_n 0, 1) := by decide +kernel
theorem dX7_init_99 : decode cX7_init 99 = .ok (.iconst 0, 1) := by decide +kernel
theorem dX7_init_100 : decode cX7_init 100 = .ok (.bipush 9, 2) := by decide +kernel
theorem dX7_init_102 : decode cX7_init 102 = .ok (.bipush 7, 2) := by decide +kernel
theorem dX7_init_104 : decode cX7_init 104 = .ok (.iconst 2, 1) := by decide +kernel
theorem dX7_init_105 : decode cX7_init 105 = .ok (.invokevirtual 43, 3) := by decide +kernel
theorem dX7_init_108 : decode cX7_init 108 = .ok (.aload_n 0, 1) := by decide +kernel
theorem dX7_init_109 : decode cX7_init 109 = .ok (.iconst 1, 1) := by decide +kernel
theorem dX7_init_110 : decode cX7_init 110 = .ok (.iconst 5, 1) := by decide +kernel
theorem dX7_init_111 : decode cX7_init 111 = .ok (.bipush 9, 2) := by decide +kernel
theorem dX7_init_113 : decode cX7_init 113 = .ok (.iconst 0, 1) := by decide +kernel
theorem dX7_init_114 : decode cX7_init 114 = .ok (.invokevirtual 43, 3) := by decide +kernel
theorem dX7_init_117 : decode cX7_init 117 = .ok (.aload_n 0, 1) := by decide +kernel
theorem dX7_init_118 : decode cX7_init 118 = .ok (.iconst 2, 1) := by decide +kernel
theorem dX7_init_119 : decode cX7_init 119 = .ok (.iconst 4, 1) := by decide +kernel
theorem dX7_init_120 : decode cX7_init 120 = .ok (.iconst 5, 1) := by decide +kernel
theorem dX7_init_121 : decode cX7_init 121 = .ok (.iconst 1, 1) := by decide +kernel
theorem dX7_init_122 : decode cX7_init 122 = .ok (.invokevirtual 43, 3) := by decide +kernel
theorem dX7_init_125 : decode cX7_init 125 = .ok (.aload_n 0, 1) := by decide +kernel
theorem dX7_init_126 : decode cX7_init 126 = .ok (.iconst 3, 1) := by decide +kernel
theorem dX7_init_127 : decode cX7_init 127 = .ok (.bipush 15, 2) := by decide +kernel
theorem dX7_init_129 : decode cX7_init 129 = .ok (.iconst 3, 1) := by decide +kernel
theorem dX7_init_130 : decode cX7_init 130 = .ok (.iconst 4, 1) := by decide +kernel
theorem dX7_init_131 : decode cX7_init 131 = .ok (.invokevirtual 43, 3) := by decide +kernel
theorem dX7_init_134 : decode cX7_init 134 = .ok (.aload_n 0, 1) := by decide +kernel
theorem dX7_init_135 : decode cX7_init 135 = .ok (.iconst 0, 1) := by decide +kernel
theorem dX7_init_136 : decode cX7_init 136 = .ok (.bipush 12, 2) := by decide +kernel
theorem dX7_init_138 : decode cX7_init 138 = .ok (.bipush 6, 2) := by decide +kernel
theorem dX7_init_140 : decode cX7_init 140 = .ok (.bipush 8, 2) := by decide +kernel
theorem dX7_init_142 : decode cX7_init 142 = .ok (.invokevirtual 43, 3) := by decide +kernel
theorem dX7_init_145 : decode cX7_init 145 = .ok (.aload_n 0, 1) := by decide +kernel
theorem dX7_init_146 : decode cX7_init 146 = .ok (.bipush 6, 2) := by decide +kernel
theorem dX7_init_148 : decode cX7_init 148 = .ok (.bipush 8, 2) := by decide +kernel
theorem dX7_init_150 : decode cX7_init 150 = .ok (.bipush 9, 2) := by decide +kernel
theorem dX7_init_152 : decode cX7_init 152 = .ok (.invokevirtual 47, 3) := by decide +kernel
theorem dX7_init_155 : decode cX7_init 155 = .ok (.aload_n 0, 1) := by decide +kernel
theorem dX7_init_156 : decode cX7_init 156 = .ok (.bipush 10, 2) := by decide +kernel
theorem dX7_init_158 : decode cX7_init 158 = .ok (.bipush 6, 2) := by decide +kernel
theorem dX7_init_160 : decode cX7_init 160 = .ok (.bipush 12, 2) := by decide +kernel
theorem dX7_init_162 : decode cX7_init 162 = .ok (.invokevirtual 47, 3) := by decide +kernel
theorem dX7_init_165 : decode cX7_init 165 = .ok (.aload_n 0, 1) := by decide +kernel
theorem dX7_init_166 : decode cX7_init 166 = .ok (.bipush 7, 2) := by decide +kernel
theorem dX7_init_168 : decode cX7_init 168 = .ok (.bipush 9, 2) := by decide +kernel
theorem dX7_init_170 : decode cX7_init 170 = .ok (.bipush 6, 2) := by decide +kernel
theorem dX7_init_172 : decode cX7_init 172 = .ok (.invokevirtual 47, 3) := by decide +kernel
theorem dX7_init_175 : decode cX7_init 175 = .ok (.aload_n 0, 1) := by decide +kernel
theorem dX7_init_176 : decode cX7_init 176 = .ok (.getfield 16, 3) := by decide +kernel
theorem dX7_init_179 : decode cX7_init 179 = .ok (.iconst 2, 1) := by decide +kernel
theorem dX7_init_180 : decode cX7_init 180 = .ok (.bipush 8, 2) := by decide +kernel
theorem dX7_init_182 : decode cX7_init 182 = .ok (.iastore, 1) := by decide +kernel
theorem dX7_init_183 : decode cX7_init 183 = .ok (.aload_n 0, 1) := by decide +kernel
theorem dX7_init_184 : decode cX7_init 184 = .ok (.getfield 16, 3) := by decide +kernel
theorem dX7_init_187 : decode cX7_init 187 = .ok (.iconst 3, 1) := by decide +kernel
theorem dX7_init_188 : decode cX7_init 188 = .ok (.iconst 3, 1) := by decide +kernel
theorem dX7_init_189 : decode cX7_init 189 = .ok (.iastore, 1) := by decide +kernel
theorem dX7_init_190 : decode cX7_init 190 = .ok (.aload_n 0, 1) := by decide +kernel
theorem dX7_init_191 : decode cX7_init 191 = .ok (.getfield 16, 3) := by decide +kernel
theorem dX7_init_194 : decode cX7_init 194 = .ok (.iconst 4, 1) := by decide +kernel
theorem dX7_init_195 : decode cX7_init 195 = .ok (.bipush 6, 2) := by decide +kernel
theorem dX7_init_197 : decode cX7_init 197 = .ok (.iastore, 1) := by decide +kernel
theorem dX7_init_198 : decode cX7_init 198 = .ok (.aload_n 0, 1) := by decide +kernel
theorem dX7_init_199 : decode cX7_init 199 = .ok (.invokevirtual 51, 3) := by decide +kernel
theorem dX7_init_202 : decode cX7_init 202 = .ok (.return_, 1) := by decide +kernel
theorem dX7_in_0 : decode cX7_in 0 = .ok (.iload_n 0, 1) := by decide +kernel
theorem dX7_in_1 : decode cX7_in 1 = .ok (.iload_n 1, 1) := by decide +kernel
theorem dX7_in_2 : decode cX7_in 2 = .ok (.if_icmp .lt 12, 3) := by decide +kernel
theorem dX7_in_5 : decode cX7_in 5 = .ok (.iload_n 0, 1) := by decide +kernel
theorem dX7_in_6 : decode cX7_in 6 = .ok (.iload_n 2, 1) := by decide +kernel
theorem dX7_in_7 : decode cX7_in 7 = .ok (.if_icmp .gt 7, 3) := by decide +kernel
theorem dX7_in_10 : decode cX7_in 10 = .ok (.iconst 1, 1) := by decide +kernel
theorem dX7_in_11 : decode cX7_in 11 = .ok (.goto 4, 3) := by decide +kernel
theorem dX7_in_14 : decode cX7_in 14 = .ok (.iconst 0, 1) := by decide +kernel
theorem dX7_in_15 : decode cX7_in 15 = .ok (.ireturn, 1) := by decide +kernel
theorem dX7_isBough_0 : decode cX7_isBough 0 = .ok (.iload_n 1, 1) := by decide +kernel
theorem dX7_isBough_1 : decode cX7_isBough 1 = .ok (.iconst 0, 1) := by decide +kernel
theorem dX7_isBough_2 : decode cX7_isBough 2 = .ok (.aload_n 0, 1) := by decide +kernel
theorem dX7_isBough_3 : decode cX7_isBough 3 = .ok (.getfield 13, 3) := by decide +kernel
theorem dX7_isBough_6 : decode cX7_isBough 6 = .ok (.iconst 0, 1) := by decide +kernel
theorem dX7_isBough_7 : decode cX7_isBough 7 = .ok (.iaload, 1) := by decide +kernel
theorem dX7_isBough_8 : decode cX7_isBough 8 = .ok (.iconst 1, 1) := by decide +kernel
theorem dX7_isBough_9 : decode cX7_isBough 9 = .ok (.isub, 1) := by decide +kernel
theorem dX7_isBough_10 : decode cX7_isBough 10 = .ok (.invokestatic 54, 3) := by decide +kernel
theorem dX7_isBough_13 : decode cX7_isBough 13 = .ok (.ireturn, 1) := by decide +kernel
theorem dX7_isTenant_0 : decode cX7_isTenant 0 = .ok (.iload_n 1, 1) := by decide +kernel
theorem dX7_isTenant_1 : decode cX7_isTenant 1 = .ok (.iconst 0, 1) := by decide +kernel
theorem dX7_isTenant_2 : decode cX7_isTenant 2 = .ok (.aload_n 0, 1) := by decide +kernel
theorem dX7_isTenant_3 : decode cX7_isTenant 3 = .ok (.getfield 13, 3) := by decide +kernel
theorem dX7_isTenant_6 : decode cX7_isTenant 6 = .ok (.iconst 1, 1) := by decide +kernel
theorem dX7_isTenant_7 : decode cX7_isTenant 7 = .ok (.iaload, 1) := by decide +kernel
theorem dX7_isTenant_8 : decode cX7_isTenant 8 = .ok (.iconst 1, 1) := by decide +kernel
theorem dX7_isTenant_9 : decode cX7_isTenant 9 = .ok (.isub, 1) := by decide +kernel
theorem dX7_isTenant_10 : decode cX7_isTenant 10 = .ok (.invokestatic 54, 3) := by decide +kernel
theorem dX7_isTenant_13 : decode cX7_isTenant 13 = .ok (.ireturn, 1) := by decide +kernel
theorem dX7_write_0 : decode cX7_write 0 = .ok (.iload_n 1, 1) := by decide +kernel
theorem dX7_write_1 : decode cX7_write 1 = .ok (.bipush 32, 2) := by decide +kernel
theorem dX7_write_3 : decode cX7_write 3 = .ok (.bipush 126, 2) := by decide +kernel
theorem dX7_write_5 : decode cX7_write 5 = .ok (.invokestatic 54, 3) := by decide +kernel
theorem dX7_write_8 : decode cX7_write 8 = .ok (.ifCond .ne 5, 3) := by decide +kernel
theorem dX7_write_11 : decode cX7_write 11 = .ok (.iconst (-1), 1) := by decide +kernel
theorem dX7_write_12 : decode cX7_write 12 = .ok (.ireturn, 1) := by decide +kernel
theorem dX7_write_13 : decode cX7_write 13 = .ok (.aload_n 0, 1) := by decide +kernel
theorem dX7_write_14 : decode cX7_write 14 = .ok (.getfield 58, 3) := by decide +kernel
theorem dX7_write_17 : decode cX7_write 17 = .ok (.sipush 200, 3) := by decide +kernel
theorem dX7_write_20 : decode cX7_write 20 = .ok (.if_icmp .ne 6, 3) := by decide +kernel
theorem dX7_write_23 : decode cX7_write 23 = .ok (.bipush (-3), 2) := by decide +kernel
theorem dX7_write_25 : decode cX7_write 25 = .ok (.ireturn, 1) := by decide +kernel
theorem dX7_write_26 : decode cX7_write 26 = .ok (.aload_n 0, 1) := by decide +kernel
theorem dX7_write_27 : decode cX7_write 27 = .ok (.getfield 7, 3) := by decide +kernel
theorem dX7_write_30 : decode cX7_write 30 = .ok (.aload_n 0, 1) := by decide +kernel
theorem dX7_write_31 : decode cX7_write 31 = .ok (.getfield 58, 3) := by decide +kernel
theorem dX7_write_34 : decode cX7_write 34 = .ok (.iload_n 1, 1) := by decide +kernel
theorem dX7_write_35 : decode cX7_write 35 = .ok (.iastore, 1) := by decide +kernel
theorem dX7_write_36 : decode cX7_write 36 = .ok (.aload_n 0, 1) := by decide +kernel
theorem dX7_write_37 : decode cX7_write 37 = .ok (.dup, 1) := by decide +kernel
theorem dX7_write_38 : decode cX7_write 38 = .ok (.getfield 58, 3) := by decide +kernel
theorem dX7_write_41 : decode cX7_write 41 = .ok (.iconst 1, 1) := by decide +kernel
theorem dX7_write_42 : decode cX7_write 42 = .ok (.iadd, 1) := by decide +kernel
theorem dX7_write_43 : decode cX7_write 43 = .ok (.putfield 58, 3) := by decide +kernel
theorem dX7_write_46 : decode cX7_write 46 = .ok (.aload_n 0, 1) := by decide +kernel
theorem dX7_write_47 : decode cX7_write 47 = .ok (.getfield 58, 3) := by decide +kernel
theorem dX7_write_50 : decode cX7_write 50 = .ok (.ireturn, 1) := by decide +kernel
theorem dX7_wipe_0 : decode cX7_wipe 0 = .ok (.aload_n 0, 1) := by decide +kernel
theorem dX7_wipe_1 : decode cX7_wipe 1 = .ok (.getfield 58, 3) := by decide +kernel
theorem dX7_wipe_4 : decode cX7_wipe 4 = .ok (.istore_n 1, 1) := by decide +kernel
theorem dX7_wipe_5 : decode cX7_wipe 5 = .ok (.aload_n 0, 1) := by decide +kernel
theorem dX7_wipe_6 : decode cX7_wipe 6 = .ok (.iconst 0, 1) := by decide +kernel
theorem dX7_wipe_7 : decode cX7_wipe 7 = .ok (.putfield 58, 3) := by decide +kernel
theorem dX7_wipe_10 : decode cX7_wipe 10 = .ok (.iload_n 1, 1) := by decide +kernel
theorem dX7_wipe_11 : decode cX7_wipe 11 = .ok (.ireturn, 1) := by decide +kernel
theorem dX7_letterAt_0 : decode cX7_letterAt 0 = .ok (.iload_n 1, 1) := by decide +kernel
theorem dX7_letterAt_1 : decode cX7_letterAt 1 = .ok (.aload_n 0, 1) := by decide +kernel
theorem dX7_letterAt_2 : decode cX7_letterAt 2 = .ok (.getfield 58, 3) := by decide +kernel
theorem dX7_letterAt_5 : decode cX7_letterAt 5 = .ok (.if_icmp .ge 12, 3) := by decide +kernel
theorem dX7_letterAt_8 : decode cX7_letterAt 8 = .ok (.aload_n 0, 1) := by decide +kernel
theorem dX7_letterAt_9 : decode cX7_letterAt 9 = .ok (.getfield 7, 3) := by decide +kernel
theorem dX7_letterAt_12 : decode cX7_letterAt 12 = .ok (.iload_n 1, 1) := by decide +kernel
theorem dX7_letterAt_13 : decode cX7_letterAt 13 = .ok (.iaload, 1) := by decide +kernel
theorem dX7_letterAt_14 : decode cX7_letterAt 14 = .ok (.goto 4, 3) := by decide +kernel
theorem dX7_letterAt_17 : decode cX7_letterAt 17 = .ok (.iconst (-1), 1) := by decide +kernel
theorem dX7_letterAt_18 : decode cX7_letterAt 18 = .ok (.ireturn, 1) := by decide +kernel
theorem dX7_isFigure_0 : decode cX7_isFigure 0 = .ok (.iload_n 0, 1) := by decide +kernel
theorem dX7_isFigure_1 : decode cX7_isFigure 1 = .ok (.bipush 48, 2) := by decide +kernel
theorem dX7_isFigure_3 : decode cX7_isFigure 3 = .ok (.bipush 57, 2) := by decide +kernel
theorem dX7_isFigure_5 : decode cX7_isFigure 5 = .ok (.invokestatic 54, 3) := by decide +kernel
theorem dX7_isFigure_8 : decode cX7_isFigure 8 = .ok (.ireturn, 1) := by decide +kernel
theorem dX7_number_0 : decode cX7_number 0 = .ok (.aload_n 0, 1) := by decide +kernel
theorem dX7_number_1 : decode cX7_number 1 = .ok (.aload_n 0, 1) := by decide +kernel
theorem dX7_number_2 : decode cX7_number 2 = .ok (.getfield 62, 3) := by decide +kernel
theorem dX7_number_5 : decode cX7_number 5 = .ok (.invokevirtual 65, 3) := by decide +kernel
theorem dX7_number_8 : decode cX7_number 8 = .ok (.invokestatic 69, 3) := by decide +kernel
theorem dX7_number_11 : decode cX7_number 11 = .ok (.ifCond .ne 5, 3) := by decide +kernel
theorem dX7_number_14 : decode cX7_number 14 = .ok (.iconst (-1), 1) := by decide +kernel
theorem dX7_number_15 : decode cX7_number 15 = .ok (.ireturn, 1) := by decide +kernel
theorem dX7_number_16 : decode cX7_number 16 = .ok (.aload_n 0, 1) := by decide +kernel
theorem dX7_number_17 : decode cX7_number 17 = .ok (.aload_n 0, 1) := by decide +kernel
theorem dX7_number_18 : decode cX7_number 18 = .ok (.getfield 62, 3) := by decide +kernel
theorem dX7_number_21 : decode cX7_number 21 = .ok (.invokevirtual 65, 3) := by decide +kernel
theorem dX7_number_24 : decode cX7_number 24 = .ok (.bipush 48, 2) := by decide +kernel
theorem dX7_number_26 : decode cX7_number 26 = .ok (.isub, 1) := by decide +kernel
theorem dX7_number_27 : decode cX7_number 27 = .ok (.istore 4, 2) := by decide +kernel
theorem dX7_number_29 : decode cX7_number 29 = .ok (.aload_n 0, 1) := by decide +kernel
theorem dX7_number_30 : decode cX7_number 30 = .ok (.dup, 1) := by decide +kernel
theorem dX7_number_31 : decode cX7_number 31 = .ok (.getfield 62, 3) := by decide +kernel
theorem dX7_number_34 : decode cX7_number 34 = .ok (.iconst 1, 1) := by decide +kernel
theorem dX7_number_35 : decode cX7_number 35 = .ok (.iadd, 1) := by decide +kernel
theorem dX7_number_36 : decode cX7_number 36 = .ok (.putfield 62, 3) := by decide +kernel
theorem dX7_number_39 : decode cX7_number 39 = .ok (.aload_n 0, 1) := by decide +kernel
theorem dX7_number_40 : decode cX7_number 40 = .ok (.aload_n 0, 1) := by decide +kernel
theorem dX7_number_41 : decode cX7_number 41 = .ok (.getfield 62, 3) := by decide +kernel
theorem dX7_number_44 : decode cX7_number 44 = .ok (.invokevirtual 65, 3) := by decide +kernel
theorem dX7_number_47 : decode cX7_number 47 = .ok (.invokestatic 69, 3) := by decide +kernel
theorem dX7_number_50 : decode cX7_number 50 = .ok (.ifCond .eq 32, 3) := by decide +kernel
theorem dX7_number_53 : decode cX7_number 53 = .ok (.bipush 10, 2) := by decide +kernel
theorem dX7_number_55 : decode cX7_number 55 = .ok (.iload 4, 2) := by decide +kernel
theorem dX7_number_57 : decode cX7_number 57 = .ok (.imul, 1) := by decide +kernel
theorem dX7_number_58 : decode cX7_number 58 = .ok (.aload_n 0, 1) := by decide +kernel
theorem dX7_number_59 : decode cX7_number 59 = .ok (.aload_n 0, 1) := by decide +kernel
theorem dX7_number_60 : decode cX7_number 60 = .ok (.getfield 62, 3) := by decide +kernel
theorem dX7_number_63 : decode cX7_number 63 = .ok (.invokevirtual 65, 3) := by decide +kernel
theorem dX7_number_66 : decode cX7_number 66 = .ok (.iadd, 1) := by decide +kernel
theorem dX7_number_67 : decode cX7_number 67 = .ok (.bipush 48, 2) := by decide +kernel
theorem dX7_number_69 : decode cX7_number 69 = .ok (.isub, 1) := by decide +kernel
theorem dX7_number_70 : decode cX7_number 70 = .ok (.istore 4, 2) := by decide +kernel
theorem dX7_number_72 : decode cX7_number 72 = .ok (.aload_n 0, 1) := by decide +kernel
theorem dX7_number_73 : decode cX7_number 73 = .ok (.dup, 1) := by decide +kernel
theorem dX7_number_74 : decode cX7_number 74 = .ok (.getfield 62, 3) := by decide +kernel
theorem dX7_number_77 : decode cX7_number 77 = .ok (.iconst 1, 1) := by decide +kernel
theorem dX7_number_78 : decode cX7_number 78 = .ok (.iadd, 1) := by decide +kernel
theorem dX7_number_79 : decode cX7_number 79 = .ok (.putfield 62, 3) := by decide +kernel
theorem dX7_number_82 : decode cX7_number 82 = .ok (.aload_n 0, 1) := by decide +kernel
theorem dX7_number_83 : decode cX7_number 83 = .ok (.aload_n 0, 1) := by decide +kernel
theorem dX7_number_84 : decode cX7_number 84 = .ok (.getfield 62, 3) := by decide +kernel
theorem dX7_number_87 : decode cX7_number 87 = .ok (.invokevirtual 65, 3) := by decide +kernel
theorem dX7_number_90 : decode cX7_number 90 = .ok (.iload_n 3, 1) := by decide +kernel
theorem dX7_number_91 : decode cX7_number 91 = .ok (.if_icmp .ne 17, 3) := by decide +kernel
theorem dX7_number_94 : decode cX7_number 94 = .ok (.iload 4, 2) := by decide +kernel
theorem dX7_number_96 : decode cX7_number 96 = .ok (.iload_n 1, 1) := by decide +kernel
theorem dX7_number_97 : decode cX7_number 97 = .ok (.iload_n 2, 1) := by decide +kernel
theorem dX7_number_98 : decode cX7_number 98 = .ok (.invokestatic 54, 3) := by decide +kernel
theorem dX7_number_101 : decode cX7_number 101 = .ok (.ifCond .eq 7, 3) := by decide +kernel
theorem dX7_number_104 : decode cX7_number 104 = .ok (.iconst 1, 1) := by decide +kernel
theorem dX7_number_105 : decode cX7_number 105 = .ok (.goto 4, 3) := by decide +kernel
theorem dX7_number_108 : decode cX7_number 108 = .ok (.iconst 0, 1) := by decide +kernel
theorem dX7_number_109 : decode cX7_number 109 = .ok (.istore 5, 2) := by decide +kernel
theorem dX7_number_111 : decode cX7_number 111 = .ok (.aload_n 0, 1) := by decide +kernel
theorem dX7_number_112 : decode cX7_number 112 = .ok (.dup, 1) := by decide +kernel
theorem dX7_number_113 : decode cX7_number 113 = .ok (.getfield 62, 3) := by decide +kernel
theorem dX7_number_116 : decode cX7_number 116 = .ok (.iconst 1, 1) := by decide +kernel
theorem dX7_number_117 : decode cX7_number 117 = .ok (.iadd, 1) := by decide +kernel
theorem dX7_number_118 : decode cX7_number 118 = .ok (.putfield 62, 3) := by decide +kernel
theorem dX7_number_121 : decode cX7_number 121 = .ok (.iload 5, 2) := by decide +kernel
theorem dX7_number_123 : decode cX7_number 123 = .ok (.ifCond .eq 8, 3) := by decide +kernel
theorem dX7_number_126 : decode cX7_number 126 = .ok (.iload 4, 2) := by decide +kernel
theorem dX7_number_128 : decode cX7_number 128 = .ok (.goto 4, 3) := by decide +kernel
theorem dX7_number_131 : decode cX7_number 131 = .ok (.iconst (-1), 1) := by decide +kernel
theorem dX7_number_132 : decode cX7_number 132 = .ok (.ireturn, 1) := by decide +kernel
theorem dX7_begins_0 : decode cX7_begins 0 = .ok (.iconst 0, 1) := by decide +kernel
theorem dX7_begins_1 : decode cX7_begins 1 = .ok (.istore_n 1, 1) := by decide +kernel
theorem dX7_begins_2 : decode cX7_begins 2 = .ok (.iload_n 1, 1) := by decide +kernel
theorem dX7_begins_3 : decode cX7_begins 3 = .ok (.bipush 37, 2) := by decide +kernel
theorem dX7_begins_5 : decode cX7_begins 5 = .ok (.if_icmp .ge 16, 3) := by decide +kernel
theorem dX7_begins_8 : decode cX7_begins 8 = .ok (.aload_n 0, 1) := by decide +kernel
theorem dX7_begins_9 : decode cX7_begins 9 = .ok (.getfield 16, 3) := by decide +kernel
theorem dX7_begins_12 : decode cX7_begins 12 = .ok (.iload_n 1, 1) := by decide +kernel
theorem dX7_begins_13 : decode cX7_begins 13 = .ok (.iconst 0, 1) := by decide +kernel
theorem dX7_begins_14 : decode cX7_begins 14 = .ok (.iastore, 1) := by decide +kernel
theorem dX7_begins_15 : decode cX7_begins 15 = .ok (.iinc 1 1, 3) := by decide +kernel
theorem dX7_begins_18 : decode cX7_begins 18 = .ok (.goto (-16), 3) := by decide +kernel
theorem dX7_begins_21 : decode cX7_begins 21 = .ok (.aload_n 0, 1) := by decide +kernel
theorem dX7_begins_22 : decode cX7_begins 22 = .ok (.getfield 16, 3) := by decide +kernel
theorem dX7_begins_25 : decode cX7_begins 25 = .ok (.iconst 2, 1) := by decide +kernel
theorem dX7_begins_26 : decode cX7_begins 26 = .ok (.bipush 20, 2) := by decide +kernel
theorem dX7_begins_28 : decode cX7_begins 28 = .ok (.iastore, 1) := by decide +kernel
theorem dX7_begins_29 : decode cX7_begins 29 = .ok (.aload_n 0, 1) := by decide +kernel
theorem dX7_begins_30 : decode cX7_begins 30 = .ok (.getfield 16, 3) := by decide +kernel
theorem dX7_begins_33 : decode cX7_begins 33 = .ok (.iconst 3, 1) := by decide +kernel
theorem dX7_begins_34 : decode cX7_begins 34 = .ok (.iconst 3, 1) := by decide +kernel
theorem dX7_begins_35 : decode cX7_begins 35 = .ok (.iastore, 1) := by decide +kernel
theorem dX7_begins_36 : decode cX7_begins 36 = .ok (.aload_n 0, 1) := by decide +kernel
theorem dX7_begins_37 : decode cX7_begins 37 = .ok (.getfield 16, 3) := by decide +kernel
theorem dX7_begins_40 : decode cX7_begins 40 = .ok (.iconst 4, 1) := by decide +kernel
theorem dX7_begins_41 : decode cX7_begins 41 = .ok (.bipush 10, 2) := by decide +kernel
theorem dX7_begins_43 : decode cX7_begins 43 = .ok (.iastore, 1) := by decide +kernel
theorem dX7_begins_44 : decode cX7_begins 44 = .ok (.iconst 0, 1) := by decide +kernel
theorem dX7_begins_45 : decode cX7_begins 45 = .ok (.istore_n 1, 1) := by decide +kernel
theorem dX7_begins_46 : decode cX7_begins 46 = .ok (.iload_n 1, 1) := by decide +kernel
theorem dX7_begins_47 : decode cX7_begins 47 = .ok (.bipush 29, 2) := by decide +kernel
theorem dX7_begins_49 : decode cX7_begins 49 = .ok (.if_icmp .ge 16, 3) := by decide +kernel
theorem dX7_begins_52 : decode cX7_begins 52 = .ok (.aload_n 0, 1) := by decide +kernel
theorem dX7_begins_53 : decode cX7_begins 53 = .ok (.getfield 19, 3) := by decide +kernel
theorem dX7_begins_56 : decode cX7_begins 56 = .ok (.iload_n 1, 1) := by decide +kernel
theorem dX7_begins_57 : decode cX7_begins 57 = .ok (.iconst 0, 1) := by decide +kernel
theorem dX7_begins_58 : decode cX7_begins 58 = .ok (.iastore, 1) := by decide +kernel
theorem dX7_begins_59 : decode cX7_begins 59 = .ok (.iinc 1 1, 3) := by decide +kernel
theorem dX7_begins_62 : decode cX7_begins 62 = .ok (.goto (-16), 3) := by decide +kernel
theorem dX7_begins_65 : decode cX7_begins 65 = .ok (.return_, 1) := by decide +kernel
theorem dX7_boughOf_0 : decode cX7_boughOf 0 = .ok (.aload_n 0, 1) := by decide +kernel
theorem dX7_boughOf_1 : decode cX7_boughOf 1 = .ok (.getfield 16, 3) := by decide +kernel
theorem dX7_boughOf_4 : decode cX7_boughOf 4 = .ok (.iconst 0, 1) := by decide +kernel
theorem dX7_boughOf_5 : decode cX7_boughOf 5 = .ok (.iaload, 1) := by decide +kernel
theorem dX7_boughOf_6 : decode cX7_boughOf 6 = .ok (.istore 5, 2) := by decide +kernel
theorem dX7_boughOf_8 : decode cX7_boughOf 8 = .ok (.aload_n 0, 1) := by decide +kernel
theorem dX7_boughOf_9 : decode cX7_boughOf 9 = .ok (.getfield 16, 3) := by decide +kernel
theorem dX7_boughOf_12 : decode cX7_boughOf 12 = .ok (.iconst 5, 1) := by decide +kernel
theorem dX7_boughOf_13 : decode cX7_boughOf 13 = .ok (.iload 5, 2) := by decide +kernel
theorem dX7_boughOf_15 : decode cX7_boughOf 15 = .ok (.iadd, 1) := by decide +kernel
theorem dX7_boughOf_16 : decode cX7_boughOf 16 = .ok (.iload_n 1, 1) := by decide +kernel
end
section
theorem dX7_boughOf_17 : decode cX7_boughOf 17 = .ok (.iastore, 1) := by decide +kernel
theorem dX7_boughOf_18 : decode cX7_boughOf 18 = .ok (.aload_n 0, 1) := by decide +kernel
theorem dX7_boughOf_19 : decode cX7_boughOf 19 = .ok (.getfield 16, 3) := by decide +kernel
theorem dX7_boughOf_22 : decode cX7_boughOf 22 = .ok (.bipush 13, 2) := by decide +kernel
theorem dX7_boughOf_24 : decode cX7_boughOf 24 = .ok (.iload 5, 2) := by decide +kernel
theorem dX7_boughOf_26 : decode cX7_boughOf 26 = .ok (.iadd, 1) := by decide +kernel
theorem dX7_boughOf_27 : decode cX7_boughOf 27 = .ok (.iload_n 2, 1) := by decide +kernel
theorem dX7_boughOf_28 : decode cX7_boughOf 28 = .ok (.iastore, 1) := by decide +kernel
theorem dX7_boughOf_29 : decode cX7_boughOf 29 = .ok (.aload_n 0, 1) := by decide +kernel
theorem dX7_boughOf_30 : decode cX7_boughOf 30 = .ok (.getfield 16, 3) := by decide +kernel
theorem dX7_boughOf_33 : decode cX7_boughOf 33 = .ok (.bipush 21, 2) := by decide +kernel
theorem dX7_boughOf_35 : decode cX7_boughOf 35 = .ok (.iload 5, 2) := by decide +kernel
theorem dX7_boughOf_37 : decode cX7_boughOf 37 = .ok (.iadd, 1) := by decide +kernel
theorem dX7_boughOf_38 : decode cX7_boughOf 38 = .ok (.iload_n 3, 1) := by decide +kernel
theorem dX7_boughOf_39 : decode cX7_boughOf 39 = .ok (.iastore, 1) := by decide +kernel
theorem dX7_boughOf_40 : decode cX7_boughOf 40 = .ok (.aload_n 0, 1) := by decide +kernel
theorem dX7_boughOf_41 : decode cX7_boughOf 41 = .ok (.getfield 19, 3) := by decide +kernel
theorem dX7_boughOf_44 : decode cX7_boughOf 44 = .ok (.iload 5, 2) := by decide +kernel
theorem dX7_boughOf_46 : decode cX7_boughOf 46 = .ok (.iload 4, 2) := by decide +kernel
theorem dX7_boughOf_48 : decode cX7_boughOf 48 = .ok (.iastore, 1) := by decide +kernel
theorem dX7_boughOf_49 : decode cX7_boughOf 49 = .ok (.aload_n 0, 1) := by decide +kernel
theorem dX7_boughOf_50 : decode cX7_boughOf 50 = .ok (.getfield 16, 3) := by decide +kernel
theorem dX7_boughOf_53 : decode cX7_boughOf 53 = .ok (.iconst 0, 1) := by decide +kernel
theorem dX7_boughOf_54 : decode cX7_boughOf 54 = .ok (.dup2, 1) := by decide +kernel
theorem dX7_boughOf_55 : decode cX7_boughOf 55 = .ok (.iaload, 1) := by decide +kernel
theorem dX7_boughOf_56 : decode cX7_boughOf 56 = .ok (.iconst 1, 1) := by decide +kernel
theorem dX7_boughOf_57 : decode cX7_boughOf 57 = .ok (.iadd, 1) := by decide +kernel
theorem dX7_boughOf_58 : decode cX7_boughOf 58 = .ok (.iastore, 1) := by decide +kernel
theorem dX7_boughOf_59 : decode cX7_boughOf 59 = .ok (.return_, 1) := by decide +kernel
theorem dX7_tenantOf_0 : decode cX7_tenantOf 0 = .ok (.aload_n 0, 1) := by decide +kernel
theorem dX7_tenantOf_1 : decode cX7_tenantOf 1 = .ok (.getfield 16, 3) := by decide +kernel
theorem dX7_tenantOf_4 : decode cX7_tenantOf 4 = .ok (.iconst 1, 1) := by decide +kernel
theorem dX7_tenantOf_5 : decode cX7_tenantOf 5 = .ok (.iaload, 1) := by decide +kernel
theorem dX7_tenantOf_6 : decode cX7_tenantOf 6 = .ok (.istore 4, 2) := by decide +kernel
theorem dX7_tenantOf_8 : decode cX7_tenantOf 8 = .ok (.aload_n 0, 1) := by decide +kernel
theorem dX7_tenantOf_9 : decode cX7_tenantOf 9 = .ok (.getfield 16, 3) := by decide +kernel
theorem dX7_tenantOf_12 : decode cX7_tenantOf 12 = .ok (.bipush 29, 2) := by decide +kernel
theorem dX7_tenantOf_14 : decode cX7_tenantOf 14 = .ok (.iload 4, 2) := by decide +kernel
theorem dX7_tenantOf_16 : decode cX7_tenantOf 16 = .ok (.iadd, 1) := by decide +kernel
theorem dX7_tenantOf_17 : decode cX7_tenantOf 17 = .ok (.iload_n 2, 1) := by decide +kernel
theorem dX7_tenantOf_18 : decode cX7_tenantOf 18 = .ok (.iastore, 1) := by decide +kernel
theorem dX7_tenantOf_19 : decode cX7_tenantOf 19 = .ok (.aload_n 0, 1) := by decide +kernel
theorem dX7_tenantOf_20 : decode cX7_tenantOf 20 = .ok (.getfield 16, 3) := by decide +kernel
theorem dX7_tenantOf_23 : decode cX7_tenantOf 23 = .ok (.bipush 33, 2) := by decide +kernel
theorem dX7_tenantOf_25 : decode cX7_tenantOf 25 = .ok (.iload 4, 2) := by decide +kernel
theorem dX7_tenantOf_27 : decode cX7_tenantOf 27 = .ok (.iadd, 1) := by decide +kernel
theorem dX7_tenantOf_28 : decode cX7_tenantOf 28 = .ok (.iload_n 3, 1) := by decide +kernel
theorem dX7_tenantOf_29 : decode cX7_tenantOf 29 = .ok (.iastore, 1) := by decide +kernel
theorem dX7_tenantOf_30 : decode cX7_tenantOf 30 = .ok (.aload_n 0, 1) := by decide +kernel
theorem dX7_tenantOf_31 : decode cX7_tenantOf 31 = .ok (.getfield 19, 3) := by decide +kernel
theorem dX7_tenantOf_34 : decode cX7_tenantOf 34 = .ok (.bipush 16, 2) := by decide +kernel
theorem dX7_tenantOf_36 : decode cX7_tenantOf 36 = .ok (.iload 4, 2) := by decide +kernel
theorem dX7_tenantOf_38 : decode cX7_tenantOf 38 = .ok (.iadd, 1) := by decide +kernel
theorem dX7_tenantOf_39 : decode cX7_tenantOf 39 = .ok (.iload_n 1, 1) := by decide +kernel
theorem dX7_tenantOf_40 : decode cX7_tenantOf 40 = .ok (.iastore, 1) := by decide +kernel
theorem dX7_tenantOf_41 : decode cX7_tenantOf 41 = .ok (.aload_n 0, 1) := by decide +kernel
theorem dX7_tenantOf_42 : decode cX7_tenantOf 42 = .ok (.getfield 16, 3) := by decide +kernel
theorem dX7_tenantOf_45 : decode cX7_tenantOf 45 = .ok (.iconst 1, 1) := by decide +kernel
theorem dX7_tenantOf_46 : decode cX7_tenantOf 46 = .ok (.dup2, 1) := by decide +kernel
theorem dX7_tenantOf_47 : decode cX7_tenantOf 47 = .ok (.iaload, 1) := by decide +kernel
theorem dX7_tenantOf_48 : decode cX7_tenantOf 48 = .ok (.iconst 1, 1) := by decide +kernel
theorem dX7_tenantOf_49 : decode cX7_tenantOf 49 = .ok (.iadd, 1) := by decide +kernel
theorem dX7_tenantOf_50 : decode cX7_tenantOf 50 = .ok (.iastore, 1) := by decide +kernel
theorem dX7_tenantOf_51 : decode cX7_tenantOf 51 = .ok (.return_, 1) := by decide +kernel
theorem dX7_readsItem_0 : decode cX7_readsItem 0 = .ok (.iload_n 1, 1) := by decide +kernel
theorem dX7_readsItem_1 : decode cX7_readsItem 1 = .ok (.lookupswitch 295 #[(98, 43), (102, 265), (107, 213), (116, 139)], 43) := by decide +kernel
theorem dX7_readsItem_44 : decode cX7_readsItem 44 = .ok (.aload_n 0, 1) := by decide +kernel
theorem dX7_readsItem_45 : decode cX7_readsItem 45 = .ok (.iconst 0, 1) := by decide +kernel
theorem dX7_readsItem_46 : decode cX7_readsItem 46 = .ok (.iconst 3, 1) := by decide +kernel
theorem dX7_readsItem_47 : decode cX7_readsItem 47 = .ok (.bipush 44, 2) := by decide +kernel
theorem dX7_readsItem_49 : decode cX7_readsItem 49 = .ok (.invokevirtual 73, 3) := by decide +kernel
theorem dX7_readsItem_52 : decode cX7_readsItem 52 = .ok (.istore_n 2, 1) := by decide +kernel
theorem dX7_readsItem_53 : decode cX7_readsItem 53 = .ok (.iload_n 2, 1) := by decide +kernel
theorem dX7_readsItem_54 : decode cX7_readsItem 54 = .ok (.ifCond .ge 7, 3) := by decide +kernel
theorem dX7_readsItem_57 : decode cX7_readsItem 57 = .ok (.iconst (-1), 1) := by decide +kernel
theorem dX7_readsItem_58 : decode cX7_readsItem 58 = .ok (.goto 12, 3) := by decide +kernel
theorem dX7_readsItem_61 : decode cX7_readsItem 61 = .ok (.aload_n 0, 1) := by decide +kernel
theorem dX7_readsItem_62 : decode cX7_readsItem 62 = .ok (.iconst 1, 1) := by decide +kernel
theorem dX7_readsItem_63 : decode cX7_readsItem 63 = .ok (.bipush 20, 2) := by decide +kernel
theorem dX7_readsItem_65 : decode cX7_readsItem 65 = .ok (.bipush 44, 2) := by decide +kernel
theorem dX7_readsItem_67 : decode cX7_readsItem 67 = .ok (.invokevirtual 73, 3) := by decide +kernel
theorem dX7_readsItem_70 : decode cX7_readsItem 70 = .ok (.istore_n 3, 1) := by decide +kernel
theorem dX7_readsItem_71 : decode cX7_readsItem 71 = .ok (.iload_n 3, 1) := by decide +kernel
theorem dX7_readsItem_72 : decode cX7_readsItem 72 = .ok (.ifCond .ge 7, 3) := by decide +kernel
theorem dX7_readsItem_75 : decode cX7_readsItem 75 = .ok (.iconst (-1), 1) := by decide +kernel
theorem dX7_readsItem_76 : decode cX7_readsItem 76 = .ok (.goto 12, 3) := by decide +kernel
theorem dX7_readsItem_79 : decode cX7_readsItem 79 = .ok (.aload_n 0, 1) := by decide +kernel
theorem dX7_readsItem_80 : decode cX7_readsItem 80 = .ok (.iconst 1, 1) := by decide +kernel
theorem dX7_readsItem_81 : decode cX7_readsItem 81 = .ok (.bipush 20, 2) := by decide +kernel
theorem dX7_readsItem_83 : decode cX7_readsItem 83 = .ok (.bipush 44, 2) := by decide +kernel
theorem dX7_readsItem_85 : decode cX7_readsItem 85 = .ok (.invokevirtual 73, 3) := by decide +kernel
theorem dX7_readsItem_88 : decode cX7_readsItem 88 = .ok (.istore 4, 2) := by decide +kernel
theorem dX7_readsItem_90 : decode cX7_readsItem 90 = .ok (.iload 4, 2) := by decide +kernel
theorem dX7_readsItem_92 : decode cX7_readsItem 92 = .ok (.ifCond .ge 7, 3) := by decide +kernel
theorem dX7_readsItem_95 : decode cX7_readsItem 95 = .ok (.iconst (-1), 1) := by decide +kernel
theorem dX7_readsItem_96 : decode cX7_readsItem 96 = .ok (.goto 12, 3) := by decide +kernel
theorem dX7_readsItem_99 : decode cX7_readsItem 99 = .ok (.aload_n 0, 1) := by decide +kernel
theorem dX7_readsItem_100 : decode cX7_readsItem 100 = .ok (.iconst 0, 1) := by decide +kernel
theorem dX7_readsItem_101 : decode cX7_readsItem 101 = .ok (.bipush 60, 2) := by decide +kernel
theorem dX7_readsItem_103 : decode cX7_readsItem 103 = .ok (.bipush 59, 2) := by decide +kernel
theorem dX7_readsItem_105 : decode cX7_readsItem 105 = .ok (.invokevirtual 73, 3) := by decide +kernel
theorem dX7_readsItem_108 : decode cX7_readsItem 108 = .ok (.istore 5, 2) := by decide +kernel
theorem dX7_readsItem_110 : decode cX7_readsItem 110 = .ok (.iload 5, 2) := by decide +kernel
theorem dX7_readsItem_112 : decode cX7_readsItem 112 = .ok (.ifCond .lt 14, 3) := by decide +kernel
theorem dX7_readsItem_115 : decode cX7_readsItem 115 = .ok (.aload_n 0, 1) := by decide +kernel
theorem dX7_readsItem_116 : decode cX7_readsItem 116 = .ok (.getfield 16, 3) := by decide +kernel
theorem dX7_readsItem_119 : decode cX7_readsItem 119 = .ok (.iconst 0, 1) := by decide +kernel
theorem dX7_readsItem_120 : decode cX7_readsItem 120 = .ok (.iaload, 1) := by decide +kernel
theorem dX7_readsItem_121 : decode cX7_readsItem 121 = .ok (.bipush 8, 2) := by decide +kernel
theorem dX7_readsItem_123 : decode cX7_readsItem 123 = .ok (.if_icmp .ne 5, 3) := by decide +kernel
theorem dX7_readsItem_126 : decode cX7_readsItem 126 = .ok (.iconst 0, 1) := by decide +kernel
theorem dX7_readsItem_127 : decode cX7_readsItem 127 = .ok (.ireturn, 1) := by decide +kernel
theorem dX7_readsItem_128 : decode cX7_readsItem 128 = .ok (.aload_n 0, 1) := by decide +kernel
theorem dX7_readsItem_129 : decode cX7_readsItem 129 = .ok (.iload_n 2, 1) := by decide +kernel
theorem dX7_readsItem_130 : decode cX7_readsItem 130 = .ok (.iload_n 3, 1) := by decide +kernel
theorem dX7_readsItem_131 : decode cX7_readsItem 131 = .ok (.iload 4, 2) := by decide +kernel
theorem dX7_readsItem_133 : decode cX7_readsItem 133 = .ok (.iload 5, 2) := by decide +kernel
theorem dX7_readsItem_135 : decode cX7_readsItem 135 = .ok (.invokevirtual 43, 3) := by decide +kernel
theorem dX7_readsItem_138 : decode cX7_readsItem 138 = .ok (.iconst 1, 1) := by decide +kernel
theorem dX7_readsItem_139 : decode cX7_readsItem 139 = .ok (.ireturn, 1) := by decide +kernel
theorem dX7_readsItem_140 : decode cX7_readsItem 140 = .ok (.aload_n 0, 1) := by decide +kernel
theorem dX7_readsItem_141 : decode cX7_readsItem 141 = .ok (.iconst 1, 1) := by decide +kernel
theorem dX7_readsItem_142 : decode cX7_readsItem 142 = .ok (.bipush 20, 2) := by decide +kernel
theorem dX7_readsItem_144 : decode cX7_readsItem 144 = .ok (.bipush 44, 2) := by decide +kernel
theorem dX7_readsItem_146 : decode cX7_readsItem 146 = .ok (.invokevirtual 73, 3) := by decide +kernel
theorem dX7_readsItem_149 : decode cX7_readsItem 149 = .ok (.istore_n 2, 1) := by decide +kernel
theorem dX7_readsItem_150 : decode cX7_readsItem 150 = .ok (.iload_n 2, 1) := by decide +kernel
theorem dX7_readsItem_151 : decode cX7_readsItem 151 = .ok (.ifCond .ge 7, 3) := by decide +kernel
theorem dX7_readsItem_154 : decode cX7_readsItem 154 = .ok (.iconst (-1), 1) := by decide +kernel
theorem dX7_readsItem_155 : decode cX7_readsItem 155 = .ok (.goto 12, 3) := by decide +kernel
theorem dX7_readsItem_158 : decode cX7_readsItem 158 = .ok (.aload_n 0, 1) := by decide +kernel
theorem dX7_readsItem_159 : decode cX7_readsItem 159 = .ok (.iconst 1, 1) := by decide +kernel
theorem dX7_readsItem_160 : decode cX7_readsItem 160 = .ok (.bipush 40, 2) := by decide +kernel
theorem dX7_readsItem_162 : decode cX7_readsItem 162 = .ok (.bipush 44, 2) := by decide +kernel
theorem dX7_readsItem_164 : decode cX7_readsItem 164 = .ok (.invokevirtual 73, 3) := by decide +kernel
theorem dX7_readsItem_167 : decode cX7_readsItem 167 = .ok (.istore_n 3, 1) := by decide +kernel
theorem dX7_readsItem_168 : decode cX7_readsItem 168 = .ok (.iload_n 3, 1) := by decide +kernel
theorem dX7_readsItem_169 : decode cX7_readsItem 169 = .ok (.ifCond .ge 7, 3) := by decide +kernel
theorem dX7_readsItem_172 : decode cX7_readsItem 172 = .ok (.iconst (-1), 1) := by decide +kernel
theorem dX7_readsItem_173 : decode cX7_readsItem 173 = .ok (.goto 12, 3) := by decide +kernel
theorem dX7_readsItem_176 : decode cX7_readsItem 176 = .ok (.aload_n 0, 1) := by decide +kernel
theorem dX7_readsItem_177 : decode cX7_readsItem 177 = .ok (.iconst 1, 1) := by decide +kernel
theorem dX7_readsItem_178 : decode cX7_readsItem 178 = .ok (.bipush 60, 2) := by decide +kernel
theorem dX7_readsItem_180 : decode cX7_readsItem 180 = .ok (.bipush 59, 2) := by decide +kernel
theorem dX7_readsItem_182 : decode cX7_readsItem 182 = .ok (.invokevirtual 73, 3) := by decide +kernel
theorem dX7_readsItem_185 : decode cX7_readsItem 185 = .ok (.istore 4, 2) := by decide +kernel
theorem dX7_readsItem_187 : decode cX7_readsItem 187 = .ok (.iload 4, 2) := by decide +kernel
theorem dX7_readsItem_189 : decode cX7_readsItem 189 = .ok (.ifCond .lt 13, 3) := by decide +kernel
theorem dX7_readsItem_192 : decode cX7_readsItem 192 = .ok (.aload_n 0, 1) := by decide +kernel
theorem dX7_readsItem_193 : decode cX7_readsItem 193 = .ok (.getfield 16, 3) := by decide +kernel
theorem dX7_readsItem_196 : decode cX7_readsItem 196 = .ok (.iconst 1, 1) := by decide +kernel
theorem dX7_readsItem_197 : decode cX7_readsItem 197 = .ok (.iaload, 1) := by decide +kernel
theorem dX7_readsItem_198 : decode cX7_readsItem 198 = .ok (.iconst 4, 1) := by decide +kernel
theorem dX7_readsItem_199 : decode cX7_readsItem 199 = .ok (.if_icmp .ne 5, 3) := by decide +kernel
theorem dX7_readsItem_202 : decode cX7_readsItem 202 = .ok (.iconst 0, 1) := by decide +kernel
theorem dX7_readsItem_203 : decode cX7_readsItem 203 = .ok (.ireturn, 1) := by decide +kernel
theorem dX7_readsItem_204 : decode cX7_readsItem 204 = .ok (.aload_n 0, 1) := by decide +kernel
theorem dX7_readsItem_205 : decode cX7_readsItem 205 = .ok (.iload_n 2, 1) := by decide +kernel
theorem dX7_readsItem_206 : decode cX7_readsItem 206 = .ok (.iload_n 3, 1) := by decide +kernel
theorem dX7_readsItem_207 : decode cX7_readsItem 207 = .ok (.iload 4, 2) := by decide +kernel
theorem dX7_readsItem_209 : decode cX7_readsItem 209 = .ok (.invokevirtual 47, 3) := by decide +kernel
theorem dX7_readsItem_212 : decode cX7_readsItem 212 = .ok (.iconst 1, 1) := by decide +kernel
theorem dX7_readsItem_213 : decode cX7_readsItem 213 = .ok (.ireturn, 1) := by decide +kernel
theorem dX7_readsItem_214 : decode cX7_readsItem 214 = .ok (.aload_n 0, 1) := by decide +kernel
theorem dX7_readsItem_215 : decode cX7_readsItem 215 = .ok (.iconst 1, 1) := by decide +kernel
theorem dX7_readsItem_216 : decode cX7_readsItem 216 = .ok (.bipush 20, 2) := by decide +kernel
theorem dX7_readsItem_218 : decode cX7_readsItem 218 = .ok (.bipush 44, 2) := by decide +kernel
theorem dX7_readsItem_220 : decode cX7_readsItem 220 = .ok (.invokevirtual 73, 3) := by decide +kernel
theorem dX7_readsItem_223 : decode cX7_readsItem 223 = .ok (.istore_n 2, 1) := by decide +kernel
theorem dX7_readsItem_224 : decode cX7_readsItem 224 = .ok (.iload_n 2, 1) := by decide +kernel
theorem dX7_readsItem_225 : decode cX7_readsItem 225 = .ok (.ifCond .ge 7, 3) := by decide +kernel
theorem dX7_readsItem_228 : decode cX7_readsItem 228 = .ok (.iconst (-1), 1) := by decide +kernel
theorem dX7_readsItem_229 : decode cX7_readsItem 229 = .ok (.goto 12, 3) := by decide +kernel
theorem dX7_readsItem_232 : decode cX7_readsItem 232 = .ok (.aload_n 0, 1) := by decide +kernel
theorem dX7_readsItem_233 : decode cX7_readsItem 233 = .ok (.iconst 1, 1) := by decide +kernel
theorem dX7_readsItem_234 : decode cX7_readsItem 234 = .ok (.bipush 9, 2) := by decide +kernel
theorem dX7_readsItem_236 : decode cX7_readsItem 236 = .ok (.bipush 59, 2) := by decide +kernel
theorem dX7_readsItem_238 : decode cX7_readsItem 238 = .ok (.invokevirtual 73, 3) := by decide +kernel
theorem dX7_readsItem_241 : decode cX7_readsItem 241 = .ok (.istore_n 3, 1) := by decide +kernel
theorem dX7_readsItem_242 : decode cX7_readsItem 242 = .ok (.aload_n 0, 1) := by decide +kernel
theorem dX7_readsItem_243 : decode cX7_readsItem 243 = .ok (.getfield 16, 3) := by decide +kernel
theorem dX7_readsItem_246 : decode cX7_readsItem 246 = .ok (.iconst 2, 1) := by decide +kernel
theorem dX7_readsItem_247 : decode cX7_readsItem 247 = .ok (.iload_n 2, 1) := by decide +kernel
theorem dX7_readsItem_248 : decode cX7_readsItem 248 = .ok (.iastore, 1) := by decide +kernel
theorem dX7_readsItem_249 : decode cX7_readsItem 249 = .ok (.aload_n 0, 1) := by decide +kernel
theorem dX7_readsItem_250 : decode cX7_readsItem 250 = .ok (.getfield 16, 3) := by decide +kernel
theorem dX7_readsItem_253 : decode cX7_readsItem 253 = .ok (.iconst 3, 1) := by decide +kernel
theorem dX7_readsItem_254 : decode cX7_readsItem 254 = .ok (.iload_n 3, 1) := by decide +kernel
theorem dX7_readsItem_255 : decode cX7_readsItem 255 = .ok (.iastore, 1) := by decide +kernel
theorem dX7_readsItem_256 : decode cX7_readsItem 256 = .ok (.iload_n 3, 1) := by decide +kernel
theorem dX7_readsItem_257 : decode cX7_readsItem 257 = .ok (.ifCond .le 7, 3) := by decide +kernel
theorem dX7_readsItem_260 : decode cX7_readsItem 260 = .ok (.iconst 1, 1) := by decide +kernel
theorem dX7_readsItem_261 : decode cX7_readsItem 261 = .ok (.goto 4, 3) := by decide +kernel
theorem dX7_readsItem_264 : decode cX7_readsItem 264 = .ok (.iconst 0, 1) := by decide +kernel
theorem dX7_readsItem_265 : decode cX7_readsItem 265 = .ok (.ireturn, 1) := by decide +kernel
theorem dX7_readsItem_266 : decode cX7_readsItem 266 = .ok (.aload_n 0, 1) := by decide +kernel
theorem dX7_readsItem_267 : decode cX7_readsItem 267 = .ok (.getfield 16, 3) := by decide +kernel
theorem dX7_readsItem_270 : decode cX7_readsItem 270 = .ok (.iconst 4, 1) := by decide +kernel
theorem dX7_readsItem_271 : decode cX7_readsItem 271 = .ok (.aload_n 0, 1) := by decide +kernel
theorem dX7_readsItem_272 : decode cX7_readsItem 272 = .ok (.iconst 1, 1) := by decide +kernel
theorem dX7_readsItem_273 : decode cX7_readsItem 273 = .ok (.bipush 30, 2) := by decide +kernel
theorem dX7_readsItem_275 : decode cX7_readsItem 275 = .ok (.bipush 59, 2) := by decide +kernel
theorem dX7_readsItem_277 : decode cX7_readsItem 277 = .ok (.invokevirtual 73, 3) := by decide +kernel
theorem dX7_readsItem_280 : decode cX7_readsItem 280 = .ok (.iastore, 1) := by decide +kernel
theorem dX7_readsItem_281 : decode cX7_readsItem 281 = .ok (.aload_n 0, 1) := by decide +kernel
theorem dX7_readsItem_282 : decode cX7_readsItem 282 = .ok (.getfield 16, 3) := by decide +kernel
theorem dX7_readsItem_285 : decode cX7_readsItem 285 = .ok (.iconst 4, 1) := by decide +kernel
theorem dX7_readsItem_286 : decode cX7_readsItem 286 = .ok (.iaload, 1) := by decide +kernel
theorem dX7_readsItem_287 : decode cX7_readsItem 287 = .ok (.ifCond .le 7, 3) := by decide +kernel
theorem dX7_readsItem_290 : decode cX7_readsItem 290 = .ok (.iconst 1, 1) := by decide +kernel
theorem dX7_readsItem_291 : decode cX7_readsItem 291 = .ok (.goto 4, 3) := by decide +kernel
theorem dX7_readsItem_294 : decode cX7_readsItem 294 = .ok (.iconst 0, 1) := by decide +kernel
theorem dX7_readsItem_295 : decode cX7_readsItem 295 = .ok (.ireturn, 1) := by decide +kernel
theorem dX7_readsItem_296 : decode cX7_readsItem 296 = .ok (.iconst 0, 1) := by decide +kernel
theorem dX7_readsItem_297 : decode cX7_readsItem 297 = .ok (.ireturn, 1) := by decide +kernel
theorem dX7_readsAll_0 : decode cX7_readsAll 0 = .ok (.aload_n 0, 1) := by decide +kernel
theorem dX7_readsAll_1 : decode cX7_readsAll 1 = .ok (.invokevirtual 40, 3) := by decide +kernel
theorem dX7_readsAll_4 : decode cX7_readsAll 4 = .ok (.aload_n 0, 1) := by decide +kernel
theorem dX7_readsAll_5 : decode cX7_readsAll 5 = .ok (.iconst 0, 1) := by decide +kernel
theorem dX7_readsAll_6 : decode cX7_readsAll 6 = .ok (.putfield 62, 3) := by decide +kernel
theorem dX7_readsAll_9 : decode cX7_readsAll 9 = .ok (.aload_n 0, 1) := by decide +kernel
theorem dX7_readsAll_10 : decode cX7_readsAll 10 = .ok (.getfield 62, 3) := by decide +kernel
theorem dX7_readsAll_13 : decode cX7_readsAll 13 = .ok (.aload_n 0, 1) := by decide +kernel
theorem dX7_readsAll_14 : decode cX7_readsAll 14 = .ok (.getfield 58, 3) := by decide +kernel
theorem dX7_readsAll_17 : decode cX7_readsAll 17 = .ok (.if_icmp .ge 36, 3) := by decide +kernel
theorem dX7_readsAll_20 : decode cX7_readsAll 20 = .ok (.aload_n 0, 1) := by decide +kernel
theorem dX7_readsAll_21 : decode cX7_readsAll 21 = .ok (.getfield 62, 3) := by decide +kernel
theorem dX7_readsAll_24 : decode cX7_readsAll 24 = .ok (.istore_n 1, 1) := by decide +kernel
theorem dX7_readsAll_25 : decode cX7_readsAll 25 = .ok (.aload_n 0, 1) := by decide +kernel
theorem dX7_readsAll_26 : decode cX7_readsAll 26 = .ok (.dup, 1) := by decide +kernel
theorem dX7_readsAll_27 : decode cX7_readsAll 27 = .ok (.getfield 62, 3) := by decide +kernel
theorem dX7_readsAll_30 : decode cX7_readsAll 30 = .ok (.iconst 1, 1) := by decide +kernel
theorem dX7_readsAll_31 : decode cX7_readsAll 31 = .ok (.iadd, 1) := by decide +kernel
theorem dX7_readsAll_32 : decode cX7_readsAll 32 = .ok (.putfield 62, 3) := by decide +kernel
theorem dX7_readsAll_35 : decode cX7_readsAll 35 = .ok (.aload_n 0, 1) := by decide +kernel
theorem dX7_readsAll_36 : decode cX7_readsAll 36 = .ok (.aload_n 0, 1) := by decide +kernel
theorem dX7_readsAll_37 : decode cX7_readsAll 37 = .ok (.getfield 7, 3) := by decide +kernel
theorem dX7_readsAll_40 : decode cX7_readsAll 40 = .ok (.iload_n 1, 1) := by decide +kernel
theorem dX7_readsAll_41 : decode cX7_readsAll 41 = .ok (.iaload, 1) := by decide +kernel
theorem dX7_readsAll_42 : decode cX7_readsAll 42 = .ok (.invokevirtual 77, 3) := by decide +kernel
theorem dX7_readsAll_45 : decode cX7_readsAll 45 = .ok (.ifCond .ne 5, 3) := by decide +kernel
theorem dX7_readsAll_48 : decode cX7_readsAll 48 = .ok (.iload_n 1, 1) := by decide +kernel
theorem dX7_readsAll_49 : decode cX7_readsAll 49 = .ok (.ireturn, 1) := by decide +kernel
theorem dX7_readsAll_50 : decode cX7_readsAll 50 = .ok (.goto (-41), 3) := by decide +kernel
theorem dX7_readsAll_53 : decode cX7_readsAll 53 = .ok (.bipush (-4), 2) := by decide +kernel
theorem dX7_readsAll_55 : decode cX7_readsAll 55 = .ok (.ireturn, 1) := by decide +kernel
theorem dX7_fault_0 : decode cX7_fault 0 = .ok (.aload_n 0, 1) := by decide +kernel
theorem dX7_fault_1 : decode cX7_fault 1 = .ok (.invokevirtual 80, 3) := by decide +kernel
theorem dX7_fault_4 : decode cX7_fault 4 = .ok (.ireturn, 1) := by decide +kernel
theorem dX7_lays_0 : decode cX7_lays 0 = .ok (.iconst 0, 1) := by decide +kernel
theorem dX7_lays_1 : decode cX7_lays 1 = .ok (.istore_n 1, 1) := by decide +kernel
theorem dX7_lays_2 : decode cX7_lays 2 = .ok (.iload_n 1, 1) := by decide +kernel
theorem dX7_lays_3 : decode cX7_lays 3 = .ok (.bipush 37, 2) := by decide +kernel
theorem dX7_lays_5 : decode cX7_lays 5 = .ok (.if_icmp .ge 21, 3) := by decide +kernel
theorem dX7_lays_8 : decode cX7_lays 8 = .ok (.aload_n 0, 1) := by decide +kernel
theorem dX7_lays_9 : decode cX7_lays 9 = .ok (.getfield 13, 3) := by decide +kernel
theorem dX7_lays_12 : decode cX7_lays 12 = .ok (.iload_n 1, 1) := by decide +kernel
theorem dX7_lays_13 : decode cX7_lays 13 = .ok (.aload_n 0, 1) := by decide +kernel
theorem dX7_lays_14 : decode cX7_lays 14 = .ok (.getfield 16, 3) := by decide +kernel
theorem dX7_lays_17 : decode cX7_lays 17 = .ok (.iload_n 1, 1) := by decide +kernel
theorem dX7_lays_18 : decode cX7_lays 18 = .ok (.iaload, 1) := by decide +kernel
theorem dX7_lays_19 : decode cX7_lays 19 = .ok (.iastore, 1) := by decide +kernel
theorem dX7_lays_20 : decode cX7_lays 20 = .ok (.iinc 1 1, 3) := by decide +kernel
theorem dX7_lays_23 : decode cX7_lays 23 = .ok (.goto (-21), 3) := by decide +kernel
theorem dX7_lays_26 : decode cX7_lays 26 = .ok (.iconst 0, 1) := by decide +kernel
theorem dX7_lays_27 : decode cX7_lays 27 = .ok (.istore_n 1, 1) := by decide +kernel
theorem dX7_lays_28 : decode cX7_lays 28 = .ok (.iload_n 1, 1) := by decide +kernel
theorem dX7_lays_29 : decode cX7_lays 29 = .ok (.bipush 29, 2) := by decide +kernel
theorem dX7_lays_31 : decode cX7_lays 31 = .ok (.if_icmp .ge 21, 3) := by decide +kernel
theorem dX7_lays_34 : decode cX7_lays 34 = .ok (.aload_n 0, 1) := by decide +kernel
theorem dX7_lays_35 : decode cX7_lays 35 = .ok (.getfield 22, 3) := by decide +kernel
theorem dX7_lays_38 : decode cX7_lays 38 = .ok (.iload_n 1, 1) := by decide +kernel
theorem dX7_lays_39 : decode cX7_lays 39 = .ok (.aload_n 0, 1) := by decide +kernel
theorem dX7_lays_40 : decode cX7_lays 40 = .ok (.getfield 19, 3) := by decide +kernel
theorem dX7_lays_43 : decode cX7_lays 43 = .ok (.iload_n 1, 1) := by decide +kernel
theorem dX7_lays_44 : decode cX7_lays 44 = .ok (.iaload, 1) := by decide +kernel
theorem dX7_lays_45 : decode cX7_lays 45 = .ok (.iastore, 1) := by decide +kernel
theorem dX7_lays_46 : decode cX7_lays 46 = .ok (.iinc 1 1, 3) := by decide +kernel
theorem dX7_lays_49 : decode cX7_lays 49 = .ok (.goto (-21), 3) := by decide +kernel
theorem dX7_lays_52 : decode cX7_lays 52 = .ok (.aload_n 0, 1) := by decide +kernel
theorem dX7_lays_53 : decode cX7_lays 53 = .ok (.iconst 0, 1) := by decide +kernel
theorem dX7_lays_54 : decode cX7_lays 54 = .ok (.putfield 84, 3) := by decide +kernel
theorem dX7_lays_57 : decode cX7_lays 57 = .ok (.aload_n 0, 1) := by decide +kernel
theorem dX7_lays_58 : decode cX7_lays 58 = .ok (.iconst 0, 1) := by decide +kernel
theorem dX7_lays_59 : decode cX7_lays 59 = .ok (.putfield 87, 3) := by decide +kernel
theorem dX7_lays_62 : decode cX7_lays 62 = .ok (.return_, 1) := by decide +kernel
theorem dX7_lay_0 : decode cX7_lay 0 = .ok (.aload_n 0, 1) := by decide +kernel
theorem dX7_lay_1 : decode cX7_lay 1 = .ok (.invokevirtual 80, 3) := by decide +kernel
theorem dX7_lay_4 : decode cX7_lay 4 = .ok (.bipush (-4), 2) := by decide +kernel
theorem dX7_lay_6 : decode cX7_lay 6 = .ok (.if_icmp .ne 21, 3) := by decide +kernel
theorem dX7_lay_9 : decode cX7_lay 9 = .ok (.aload_n 0, 1) := by decide +kernel
theorem dX7_lay_10 : decode cX7_lay 10 = .ok (.getfield 16, 3) := by decide +kernel
theorem dX7_lay_13 : decode cX7_lay 13 = .ok (.iconst 0, 1) := by decide +kernel
theorem dX7_lay_14 : decode cX7_lay 14 = .ok (.iaload, 1) := by decide +kernel
theorem dX7_lay_15 : decode cX7_lay 15 = .ok (.ifCond .eq 12, 3) := by decide +kernel
theorem dX7_lay_18 : decode cX7_lay 18 = .ok (.aload_n 0, 1) := by decide +kernel
theorem dX7_lay_19 : decode cX7_lay 19 = .ok (.getfield 16, 3) := by decide +kernel
theorem dX7_lay_22 : decode cX7_lay 22 = .ok (.iconst 1, 1) := by decide +kernel
theorem dX7_lay_23 : decode cX7_lay 23 = .ok (.iaload, 1) := by decide +kernel
theorem dX7_lay_24 : decode cX7_lay 24 = .ok (.ifCond .ne 6, 3) := by decide +kernel
theorem dX7_lay_27 : decode cX7_lay 27 = .ok (.bipush (-2), 2) := by decide +kernel
theorem dX7_lay_29 : decode cX7_lay 29 = .ok (.ireturn, 1) := by decide +kernel
theorem dX7_lay_30 : decode cX7_lay 30 = .ok (.aload_n 0, 1) := by decide +kernel
theorem dX7_lay_31 : decode cX7_lay 31 = .ok (.invokevirtual 51, 3) := by decide +kernel
theorem dX7_lay_34 : decode cX7_lay 34 = .ok (.aload_n 0, 1) := by decide +kernel
theorem dX7_lay_35 : decode cX7_lay 35 = .ok (.getfield 13, 3) := by decide +kernel
theorem dX7_lay_38 : decode cX7_lay 38 = .ok (.iconst 0, 1) := by decide +kernel
theorem dX7_lay_39 : decode cX7_lay 39 = .ok (.iaload, 1) := by decide +kernel
theorem dX7_lay_40 : decode cX7_lay 40 = .ok (.ireturn, 1) := by decide +kernel
theorem dX7_isDead_0 : decode cX7_isDead 0 = .ok (.iload_n 2, 1) := by decide +kernel
theorem dX7_isDead_1 : decode cX7_isDead 1 = .ok (.aload_n 0, 1) := by decide +kernel
theorem dX7_isDead_2 : decode cX7_isDead 2 = .ok (.getfield 22, 3) := by decide +kernel
theorem dX7_isDead_5 : decode cX7_isDead 5 = .ok (.iload_n 1, 1) := by decide +kernel
theorem dX7_isDead_6 : decode cX7_isDead 6 = .ok (.iaload, 1) := by decide +kernel
theorem dX7_isDead_7 : decode cX7_isDead 7 = .ok (.if_icmp .lt 7, 3) := by decide +kernel
theorem dX7_isDead_10 : decode cX7_isDead 10 = .ok (.iconst 1, 1) := by decide +kernel
theorem dX7_isDead_11 : decode cX7_isDead 11 = .ok (.goto 4, 3) := by decide +kernel
theorem dX7_isDead_14 : decode cX7_isDead 14 = .ok (.iconst 0, 1) := by decide +kernel
theorem dX7_isDead_15 : decode cX7_isDead 15 = .ok (.ireturn, 1) := by decide +kernel
theorem dX7_isFallen_0 : decode cX7_isFallen 0 = .ok (.iload_n 2, 1) := by decide +kernel
theorem dX7_isFallen_1 : decode cX7_isFallen 1 = .ok (.aload_n 0, 1) := by decide +kernel
theorem dX7_isFallen_2 : decode cX7_isFallen 2 = .ok (.getfield 22, 3) := by decide +kernel
theorem dX7_isFallen_5 : decode cX7_isFallen 5 = .ok (.iload_n 1, 1) := by decide +kernel
theorem dX7_isFallen_6 : decode cX7_isFallen 6 = .ok (.iaload, 1) := by decide +kernel
theorem dX7_isFallen_7 : decode cX7_isFallen 7 = .ok (.aload_n 0, 1) := by decide +kernel
theorem dX7_isFallen_8 : decode cX7_isFallen 8 = .ok (.getfield 13, 3) := by decide +kernel
theorem dX7_isFallen_11 : decode cX7_isFallen 11 = .ok (.iconst 4, 1) := by decide +kernel
theorem dX7_isFallen_12 : decode cX7_isFallen 12 = .ok (.iaload, 1) := by decide +kernel
theorem dX7_isFallen_13 : decode cX7_isFallen 13 = .ok (.iadd, 1) := by decide +kernel
theorem dX7_isFallen_14 : decode cX7_isFallen 14 = .ok (.if_icmp .lt 7, 3) := by decide +kernel
theorem dX7_isFallen_17 : decode cX7_isFallen 17 = .ok (.iconst 1, 1) := by decide +kernel
theorem dX7_isFallen_18 : decode cX7_isFallen 18 = .ok (.goto 4, 3) := by decide +kernel
theorem dX7_isFallen_21 : decode cX7_isFallen 21 = .ok (.iconst 0, 1) := by decide +kernel
theorem dX7_isFallen_22 : decode cX7_isFallen 22 = .ok (.ireturn, 1) := by decide +kernel
theorem dX7_bough_0 : decode cX7_bough 0 = .ok (.aload_n 0, 1) := by decide +kernel
theorem dX7_bough_1 : decode cX7_bough 1 = .ok (.iload_n 1, 1) := by decide +kernel
theorem dX7_bough_2 : decode cX7_bough 2 = .ok (.invokevirtual 90, 3) := by decide +kernel
theorem dX7_bough_5 : decode cX7_bough 5 = .ok (.ifCond .ne 5, 3) := by decide +kernel
theorem dX7_bough_8 : decode cX7_bough 8 = .ok (.iconst (-1), 1) := by decide +kernel
theorem dX7_bough_9 : decode cX7_bough 9 = .ok (.ireturn, 1) := by decide +kernel
theorem dX7_bough_10 : decode cX7_bough 10 = .ok (.iload_n 2, 1) := by decide +kernel
theorem dX7_bough_11 : decode cX7_bough 11 = .ok (.tableswitch 129 0 6 #[41, 50, 60, 70, 77, 98, 119], 41) := by decide +kernel
theorem dX7_bough_52 : decode cX7_bough 52 = .ok (.aload_n 0, 1) := by decide +kernel
theorem dX7_bough_53 : decode cX7_bough 53 = .ok (.getfield 13, 3) := by decide +kernel
theorem dX7_bough_56 : decode cX7_bough 56 = .ok (.iconst 5, 1) := by decide +kernel
theorem dX7_bough_57 : decode cX7_bough 57 = .ok (.iload_n 1, 1) := by decide +kernel
theorem dX7_bough_58 : decode cX7_bough 58 = .ok (.iadd, 1) := by decide +kernel
theorem dX7_bough_59 : decode cX7_bough 59 = .ok (.iaload, 1) := by decide +kernel
theorem dX7_bough_60 : decode cX7_bough 60 = .ok (.ireturn, 1) := by decide +kernel
theorem dX7_bough_61 : decode cX7_bough 61 = .ok (.aload_n 0, 1) := by decide +kernel
theorem dX7_bough_62 : decode cX7_bough 62 = .ok (.getfield 13, 3) := by decide +kernel
theorem dX7_bough_65 : decode cX7_bough 65 = .ok (.bipush 13, 2) := by decide +kernel
theorem dX7_bough_67 : decode cX7_bough 67 = .ok (.iload_n 1, 1) := by decide +kernel
theorem dX7_bough_68 : decode cX7_bough 68 = .ok (.iadd, 1) := by decide +kernel
theorem dX7_bough_69 : decode cX7_bough 69 = .ok (.iaload, 1) := by decide +kernel
theorem dX7_bough_70 : decode cX7_bough 70 = .ok (.ireturn, 1) := by decide +kernel
theorem dX7_bough_71 : decode cX7_bough 71 = .ok (.aload_n 0, 1) := by decide +kernel
theorem dX7_bough_72 : decode cX7_bough 72 = .ok (.getfield 13, 3) := by decide +kernel
theorem dX7_bough_75 : decode cX7_bough 75 = .ok (.bipush 21, 2) := by decide +kernel
theorem dX7_bough_77 : decode cX7_bough 77 = .ok (.iload_n 1, 1) := by decide +kernel
theorem dX7_bough_78 : decode cX7_bough 78 = .ok (.iadd, 1) := by decide +kernel
theorem dX7_bough_79 : decode cX7_bough 79 = .ok (.iaload, 1) := by decide +kernel
theorem dX7_bough_80 : decode cX7_bough 80 = .ok (.ireturn, 1) := by decide +kernel
theorem dX7_bough_81 : decode cX7_bough 81 = .ok (.aload_n 0, 1) := by decide +kernel
theorem dX7_bough_82 : decode cX7_bough 82 = .ok (.getfield 22, 3) := by decide +kernel
theorem dX7_bough_85 : decode cX7_bough 85 = .ok (.iload_n 1, 1) := by decide +kernel
theorem dX7_bough_86 : decode cX7_bough 86 = .ok (.iaload, 1) := by decide +kernel
theorem dX7_bough_87 : decode cX7_bough 87 = .ok (.ireturn, 1) := by decide +kernel
theorem dX7_bough_88 : decode cX7_bough 88 = .ok (.aload_n 0, 1) := by decide +kernel
theorem dX7_bough_89 : decode cX7_bough 89 = .ok (.iload_n 1, 1) := by decide +kernel
theorem dX7_bough_90 : decode cX7_bough 90 = .ok (.aload_n 0, 1) := by decide +kernel
theorem dX7_bough_91 : decode cX7_bough 91 = .ok (.getfield 22, 3) := by decide +kernel
theorem dX7_bough_94 : decode cX7_bough 94 = .ok (.bipush 28, 2) := by decide +kernel
theorem dX7_bough_96 : decode cX7_bough 96 = .ok (.iaload, 1) := by decide +kernel
theorem dX7_bough_97 : decode cX7_bough 97 = .ok (.invokevirtual 93, 3) := by decide +kernel
theorem dX7_bough_100 : decode cX7_bough 100 = .ok (.ifCond .eq 7, 3) := by decide +kernel
theorem dX7_bough_103 : decode cX7_bough 103 = .ok (.iconst 1, 1) := by decide +kernel
theorem dX7_bough_104 : decode cX7_bough 104 = .ok (.goto 4, 3) := by decide +kernel
theorem dX7_bough_107 : decode cX7_bough 107 = .ok (.iconst 0, 1) := by decide +kernel
theorem dX7_bough_108 : decode cX7_bough 108 = .ok (.ireturn, 1) := by decide +kernel
theorem dX7_bough_109 : decode cX7_bough 109 = .ok (.aload_n 0, 1) := by decide +kernel
theorem dX7_bough_110 : decode cX7_bough 110 = .ok (.iload_n 1, 1) := by decide +kernel
theorem dX7_bough_111 : decode cX7_bough 111 = .ok (.aload_n 0, 1) := by decide +kernel
theorem dX7_bough_112 : decode cX7_bough 112 = .ok (.getfield 22, 3) := by decide +kernel
theorem dX7_bough_115 : decode cX7_bough 115 = .ok (.bipush 28, 2) := by decide +kernel
theorem dX7_bough_117 : decode cX7_bough 117 = .ok (.iaload, 1) := by decide +kernel
theorem dX7_bough_118 : decode cX7_bough 118 = .ok (.invokevirtual 97, 3) := by decide +kernel
theorem dX7_bough_121 : decode cX7_bough 121 = .ok (.ifCond .eq 7, 3) := by decide +kernel
theorem dX7_bough_124 : decode cX7_bough 124 = .ok (.iconst 1, 1) := by decide +kernel
theorem dX7_bough_125 : decode cX7_bough 125 = .ok (.goto 4, 3) := by decide +kernel
theorem dX7_bough_128 : decode cX7_bough 128 = .ok (.iconst 0, 1) := by decide +kernel
theorem dX7_bough_129 : decode cX7_bough 129 = .ok (.ireturn, 1) := by decide +kernel
theorem dX7_bough_130 : decode cX7_bough 130 = .ok (.aload_n 0, 1) := by decide +kernel
theorem dX7_bough_131 : decode cX7_bough 131 = .ok (.getfield 22, 3) := by decide +kernel
theorem dX7_bough_134 : decode cX7_bough 134 = .ok (.bipush 8, 2) := by decide +kernel
theorem dX7_bough_136 : decode cX7_bough 136 = .ok (.iload_n 1, 1) := by decide +kernel
theorem dX7_bough_137 : decode cX7_bough 137 = .ok (.iadd, 1) := by decide +kernel
theorem dX7_bough_138 : decode cX7_bough 138 = .ok (.iaload, 1) := by decide +kernel
theorem dX7_bough_139 : decode cX7_bough 139 = .ok (.ireturn, 1) := by decide +kernel
theorem dX7_bough_140 : decode cX7_bough 140 = .ok (.iconst (-1), 1) := by decide +kernel
theorem dX7_bough_141 : decode cX7_bough 141 = .ok (.ireturn, 1) := by decide +kernel
theorem dX7_isWarm_0 : decode cX7_isWarm 0 = .ok (.aload_n 0, 1) := by decide +kernel
theorem dX7_isWarm_1 : decode cX7_isWarm 1 = .ok (.getfield 22, 3) := by decide +kernel
theorem dX7_isWarm_4 : decode cX7_isWarm 4 = .ok (.bipush 20, 2) := by decide +kernel
theorem dX7_isWarm_6 : decode cX7_isWarm 6 = .ok (.iload_n 1, 1) := by decide +kernel
theorem dX7_isWarm_7 : decode cX7_isWarm 7 = .ok (.iadd, 1) := by decide +kernel
theorem dX7_isWarm_8 : decode cX7_isWarm 8 = .ok (.iaload, 1) := by decide +kernel
theorem dX7_isWarm_9 : decode cX7_isWarm 9 = .ok (.aload_n 0, 1) := by decide +kernel
theorem dX7_isWarm_10 : decode cX7_isWarm 10 = .ok (.getfield 13, 3) := by decide +kernel
theorem dX7_isWarm_13 : decode cX7_isWarm 13 = .ok (.bipush 33, 2) := by decide +kernel
theorem dX7_isWarm_15 : decode cX7_isWarm 15 = .ok (.iload_n 1, 1) := by decide +kernel
theorem dX7_isWarm_16 : decode cX7_isWarm 16 = .ok (.iadd, 1) := by decide +kernel
theorem dX7_isWarm_17 : decode cX7_isWarm 17 = .ok (.iaload, 1) := by decide +kernel
theorem dX7_isWarm_18 : decode cX7_isWarm 18 = .ok (.if_icmp .lt 7, 3) := by decide +kernel
theorem dX7_isWarm_21 : decode cX7_isWarm 21 = .ok (.iconst 1, 1) := by decide +kernel
theorem dX7_isWarm_22 : decode cX7_isWarm 22 = .ok (.goto 4, 3) := by decide +kernel
theorem dX7_isWarm_25 : decode cX7_isWarm 25 = .ok (.iconst 0, 1) := by decide +kernel
theorem dX7_isWarm_26 : decode cX7_isWarm 26 = .ok (.ireturn, 1) := by decide +kernel
theorem dX7_tenant_0 : decode cX7_tenant 0 = .ok (.aload_n 0, 1) := by decide +kernel
theorem dX7_tenant_1 : decode cX7_tenant 1 = .ok (.iload_n 1, 1) := by decide +kernel
theorem dX7_tenant_2 : decode cX7_tenant 2 = .ok (.invokevirtual 100, 3) := by decide +kernel
theorem dX7_tenant_5 : decode cX7_tenant 5 = .ok (.ifCond .ne 5, 3) := by decide +kernel
theorem dX7_tenant_8 : decode cX7_tenant 8 = .ok (.iconst (-1), 1) := by decide +kernel
theorem dX7_tenant_9 : decode cX7_tenant 9 = .ok (.ireturn, 1) := by decide +kernel
theorem dX7_tenant_10 : decode cX7_tenant 10 = .ok (.iload_n 2, 1) := by decide +kernel
theorem dX7_tenant_11 : decode cX7_tenant 11 = .ok (.tableswitch 101 0 5 #[37, 47, 57, 67, 77, 87], 37) := by decide +kernel
theorem dX7_tenant_48 : decode cX7_tenant 48 = .ok (.aload_n 0, 1) := by decide +kernel
theorem dX7_tenant_49 : decode cX7_tenant 49 = .ok (.getfield 22, 3) := by decide +kernel
theorem dX7_tenant_52 : decode cX7_tenant 52 = .ok (.bipush 16, 2) := by decide +kernel
theorem dX7_tenant_54 : decode cX7_tenant 54 = .ok (.iload_n 1, 1) := by decide +kernel
theorem dX7_tenant_55 : decode cX7_tenant 55 = .ok (.iadd, 1) := by decide +kernel
theorem dX7_tenant_56 : decode cX7_tenant 56 = .ok (.iaload, 1) := by decide +kernel
theorem dX7_tenant_57 : decode cX7_tenant 57 = .ok (.ireturn, 1) := by decide +kernel
theorem dX7_tenant_58 : decode cX7_tenant 58 = .ok (.aload_n 0, 1) := by decide +kernel
theorem dX7_tenant_59 : decode cX7_tenant 59 = .ok (.getfield 13, 3) := by decide +kernel
theorem dX7_tenant_62 : decode cX7_tenant 62 = .ok (.bipush 29, 2) := by decide +kernel
theorem dX7_tenant_64 : decode cX7_tenant 64 = .ok (.iload_n 1, 1) := by decide +kernel
theorem dX7_tenant_65 : decode cX7_tenant 65 = .ok (.iadd, 1) := by decide +kernel
theorem dX7_tenant_66 : decode cX7_tenant 66 = .ok (.iaload, 1) := by decide +kernel
theorem dX7_tenant_67 : decode cX7_tenant 67 = .ok (.ireturn, 1) := by decide +kernel
theorem dX7_tenant_68 : decode cX7_tenant 68 = .ok (.aload_n 0, 1) := by decide +kernel
theorem dX7_tenant_69 : decode cX7_tenant 69 = .ok (.getfield 13, 3) := by decide +kernel
theorem dX7_tenant_72 : decode cX7_tenant 72 = .ok (.bipush 33, 2) := by decide +kernel
theorem dX7_tenant_74 : decode cX7_tenant 74 = .ok (.iload_n 1, 1) := by decide +kernel
theorem dX7_tenant_75 : decode cX7_tenant 75 = .ok (.iadd, 1) := by decide +kernel
theorem dX7_tenant_76 : decode cX7_tenant 76 = .ok (.iaload, 1) := by decide +kernel
theorem dX7_tenant_77 : decode cX7_tenant 77 = .ok (.ireturn, 1) := by decide +kernel
theorem dX7_tenant_78 : decode cX7_tenant 78 = .ok (.aload_n 0, 1) := by decide +kernel
theorem dX7_tenant_79 : decode cX7_tenant 79 = .ok (.getfield 22, 3) := by decide +kernel
theorem dX7_tenant_82 : decode cX7_tenant 82 = .ok (.bipush 20, 2) := by decide +kernel
theorem dX7_tenant_84 : decode cX7_tenant 84 = .ok (.iload_n 1, 1) := by decide +kernel
theorem dX7_tenant_85 : decode cX7_tenant 85 = .ok (.iadd, 1) := by decide +kernel
theorem dX7_tenant_86 : decode cX7_tenant 86 = .ok (.iaload, 1) := by decide +kernel
theorem dX7_tenant_87 : decode cX7_tenant 87 = .ok (.ireturn, 1) := by decide +kernel
theorem dX7_tenant_88 : decode cX7_tenant 88 = .ok (.aload_n 0, 1) := by decide +kernel
theorem dX7_tenant_89 : decode cX7_tenant 89 = .ok (.getfield 22, 3) := by decide +kernel
theorem dX7_tenant_92 : decode cX7_tenant 92 = .ok (.bipush 24, 2) := by decide +kernel
theorem dX7_tenant_94 : decode cX7_tenant 94 = .ok (.iload_n 1, 1) := by decide +kernel
theorem dX7_tenant_95 : decode cX7_tenant 95 = .ok (.iadd, 1) := by decide +kernel
theorem dX7_tenant_96 : decode cX7_tenant 96 = .ok (.iaload, 1) := by decide +kernel
theorem dX7_tenant_97 : decode cX7_tenant 97 = .ok (.ireturn, 1) := by decide +kernel
theorem dX7_tenant_98 : decode cX7_tenant 98 = .ok (.aload_n 0, 1) := by decide +kernel
theorem dX7_tenant_99 : decode cX7_tenant 99 = .ok (.iload_n 1, 1) := by decide +kernel
theorem dX7_tenant_100 : decode cX7_tenant 100 = .ok (.invokevirtual 103, 3) := by decide +kernel
theorem dX7_tenant_103 : decode cX7_tenant 103 = .ok (.ifCond .eq 7, 3) := by decide +kernel
theorem dX7_tenant_106 : decode cX7_tenant 106 = .ok (.iconst 1, 1) := by decide +kernel
theorem dX7_tenant_107 : decode cX7_tenant 107 = .ok (.goto 4, 3) := by decide +kernel
theorem dX7_tenant_110 : decode cX7_tenant 110 = .ok (.iconst 0, 1) := by decide +kernel
theorem dX7_tenant_111 : decode cX7_tenant 111 = .ok (.ireturn, 1) := by decide +kernel
theorem dX7_tenant_112 : decode cX7_tenant 112 = .ok (.iconst (-1), 1) := by decide +kernel
theorem dX7_tenant_113 : decode cX7_tenant 113 = .ok (.ireturn, 1) := by decide +kernel
theorem dX7_could_0 : decode cX7_could 0 = .ok (.aload_n 0, 1) := by decide +kernel
theorem dX7_could_1 : decode cX7_could 1 = .ok (.getfield 13, 3) := by decide +kernel
theorem dX7_could_4 : decode cX7_could 4 = .ok (.iconst 5, 1) := by decide +kernel
theorem dX7_could_5 : decode cX7_could 5 = .ok (.iload_n 2, 1) := by decide +kernel
theorem dX7_could_6 : decode cX7_could 6 = .ok (.iadd, 1) := by decide +kernel
theorem dX7_could_7 : decode cX7_could 7 = .ok (.iaload, 1) := by decide +kernel
theorem dX7_could_8 : decode cX7_could 8 = .ok (.istore 5, 2) := by decide +kernel
theorem dX7_could_10 : decode cX7_could 10 = .ok (.aload_n 0, 1) := by decide +kernel
theorem dX7_could_11 : decode cX7_could 11 = .ok (.getfield 22, 3) := by decide +kernel
theorem dX7_could_14 : decode cX7_could 14 = .ok (.bipush 16, 2) := by decide +kernel
theorem dX7_could_16 : decode cX7_could 16 = .ok (.iload_n 1, 1) := by decide +kernel
theorem dX7_could_17 : decode cX7_could 17 = .ok (.iadd, 1) := by decide +kernel
theorem dX7_could_18 : decode cX7_could 18 = .ok (.iaload, 1) := by decide +kernel
theorem dX7_could_19 : decode cX7_could 19 = .ok (.istore 6, 2) := by decide +kernel
theorem dX7_could_21 : decode cX7_could 21 = .ok (.aload_n 0, 1) := by decide +kernel
theorem dX7_could_22 : decode cX7_could 22 = .ok (.getfield 13, 3) := by decide +kernel
theorem dX7_could_25 : decode cX7_could 25 = .ok (.bipush 13, 2) := by decide +kernel
theorem dX7_could_27 : decode cX7_could 27 = .ok (.iload_n 2, 1) := by decide +kernel
theorem dX7_could_28 : decode cX7_could 28 = .ok (.iadd, 1) := by decide +kernel
theorem dX7_could_29 : decode cX7_could 29 = .ok (.iaload, 1) := by decide +kernel
theorem dX7_could_30 : decode cX7_could 30 = .ok (.istore 7, 2) := by decide +kernel
theorem dX7_could_32 : decode cX7_could 32 = .ok (.iload 5, 2) := by decide +kernel
theorem dX7_could_34 : decode cX7_could 34 = .ok (.ifCond .ne 18, 3) := by decide +kernel
theorem dX7_could_37 : decode cX7_could 37 = .ok (.iload 7, 2) := by decide +kernel
theorem dX7_could_39 : decode cX7_could 39 = .ok (.iload 6, 2) := by decide +kernel
theorem dX7_could_41 : decode cX7_could 41 = .ok (.if_icmp .gt 7, 3) := by decide +kernel
theorem dX7_could_44 : decode cX7_could 44 = .ok (.iconst 1, 1) := by decide +kernel
theorem dX7_could_45 : decode cX7_could 45 = .ok (.goto 41, 3) := by decide +kernel
theorem dX7_could_48 : decode cX7_could 48 = .ok (.iconst 0, 1) := by decide +kernel
theorem dX7_could_49 : decode cX7_could 49 = .ok (.goto 37, 3) := by decide +kernel
theorem dX7_could_52 : decode cX7_could 52 = .ok (.iload 5, 2) := by decide +kernel
theorem dX7_could_54 : decode cX7_could 54 = .ok (.iconst 2, 1) := by decide +kernel
theorem dX7_could_55 : decode cX7_could 55 = .ok (.if_icmp .ne 20, 3) := by decide +kernel
theorem dX7_could_58 : decode cX7_could 58 = .ok (.iload 7, 2) := by decide +kernel
theorem dX7_could_60 : decode cX7_could 60 = .ok (.iconst 3, 1) := by decide +kernel
theorem dX7_could_61 : decode cX7_could 61 = .ok (.iadd, 1) := by decide +kernel
theorem dX7_could_62 : decode cX7_could 62 = .ok (.iload 6, 2) := by decide +kernel
theorem dX7_could_64 : decode cX7_could 64 = .ok (.if_icmp .gt 7, 3) := by decide +kernel
theorem dX7_could_67 : decode cX7_could 67 = .ok (.iconst 1, 1) := by decide +kernel
theorem dX7_could_68 : decode cX7_could 68 = .ok (.goto 18, 3) := by decide +kernel
theorem dX7_could_71 : decode cX7_could 71 = .ok (.iconst 0, 1) := by decide +kernel
theorem dX7_could_72 : decode cX7_could 72 = .ok (.goto 14, 3) := by decide +kernel
theorem dX7_could_75 : decode cX7_could 75 = .ok (.iload 5, 2) := by decide +kernel
theorem dX7_could_77 : decode cX7_could 77 = .ok (.iconst 3, 1) := by decide +kernel
theorem dX7_could_78 : decode cX7_could 78 = .ok (.if_icmp .ne 7, 3) := by decide +kernel
theorem dX7_could_81 : decode cX7_could 81 = .ok (.iconst 1, 1) := by decide +kernel
theorem dX7_could_82 : decode cX7_could 82 = .ok (.goto 4, 3) := by decide +kernel
theorem dX7_could_85 : decode cX7_could 85 = .ok (.iconst 0, 1) := by decide +kernel
theorem dX7_could_86 : decode cX7_could 86 = .ok (.istore 8, 2) := by decide +kernel
theorem dX7_could_88 : decode cX7_could 88 = .ok (.aload_n 0, 1) := by decide +kernel
theorem dX7_could_89 : decode cX7_could 89 = .ok (.iload_n 2, 1) := by decide +kernel
theorem dX7_could_90 : decode cX7_could 90 = .ok (.iload_n 3, 1) := by decide +kernel
theorem dX7_could_91 : decode cX7_could 91 = .ok (.invokevirtual 93, 3) := by decide +kernel
theorem dX7_could_94 : decode cX7_could 94 = .ok (.ifCond .eq 45, 3) := by decide +kernel
theorem dX7_could_97 : decode cX7_could 97 = .ok (.iload 8, 2) := by decide +kernel
theorem dX7_could_99 : decode cX7_could 99 = .ok (.ifCond .ne 12, 3) := by decide +kernel
theorem dX7_could_102 : decode cX7_could 102 = .ok (.aload_n 0, 1) := by decide +kernel
theorem dX7_could_103 : decode cX7_could 103 = .ok (.iload_n 2, 1) := by decide +kernel
theorem dX7_could_104 : decode cX7_could 104 = .ok (.iload_n 3, 1) := by decide +kernel
theorem dX7_could_105 : decode cX7_could 105 = .ok (.invokevirtual 97, 3) := by decide +kernel
theorem dX7_could_108 : decode cX7_could 108 = .ok (.ifCond .eq 31, 3) := by decide +kernel
theorem dX7_could_111 : decode cX7_could 111 = .ok (.iload 4, 2) := by decide +kernel
theorem dX7_could_113 : decode cX7_could 113 = .ok (.aload_n 0, 1) := by decide +kernel
theorem dX7_could_114 : decode cX7_could 114 = .ok (.getfield 13, 3) := by decide +kernel
theorem dX7_could_117 : decode cX7_could 117 = .ok (.bipush 21, 2) := by decide +kernel
theorem dX7_could_119 : decode cX7_could 119 = .ok (.iload_n 2, 1) := by decide +kernel
theorem dX7_could_120 : decode cX7_could 120 = .ok (.iadd, 1) := by decide +kernel
theorem dX7_could_121 : decode cX7_could 121 = .ok (.iaload, 1) := by decide +kernel
theorem dX7_could_122 : decode cX7_could 122 = .ok (.iadd, 1) := by decide +kernel
theorem dX7_could_123 : decode cX7_could 123 = .ok (.aload_n 0, 1) := by decide +kernel
theorem dX7_could_124 : decode cX7_could 124 = .ok (.getfield 13, 3) := by decide +kernel
theorem dX7_could_127 : decode cX7_could 127 = .ok (.bipush 29, 2) := by decide +kernel
theorem dX7_could_129 : decode cX7_could 129 = .ok (.iload_n 1, 1) := by decide +kernel
theorem dX7_could_130 : decode cX7_could 130 = .ok (.iadd, 1) := by decide +kernel
theorem dX7_could_131 : decode cX7_could 131 = .ok (.iaload, 1) := by decide +kernel
theorem dX7_could_132 : decode cX7_could 132 = .ok (.if_icmp .gt 7, 3) := by decide +kernel
theorem dX7_could_135 : decode cX7_could 135 = .ok (.iconst 1, 1) := by decide +kernel
theorem dX7_could_136 : decode cX7_could 136 = .ok (.goto 4, 3) := by decide +kernel
theorem dX7_could_139 : decode cX7_could 139 = .ok (.iconst 0, 1) := by decide +kernel
theorem dX7_could_140 : decode cX7_could 140 = .ok (.ireturn, 1) := by decide +kernel
theorem dX7_canNow_0 : decode cX7_canNow 0 = .ok (.aload_n 0, 1) := by decide +kernel
theorem dX7_canNow_1 : decode cX7_canNow 1 = .ok (.getfield 22, 3) := by decide +kernel
theorem dX7_canNow_4 : decode cX7_canNow 4 = .ok (.bipush 8, 2) := by decide +kernel
theorem dX7_canNow_6 : decode cX7_canNow 6 = .ok (.iload_n 2, 1) := by decide +kernel
theorem dX7_canNow_7 : decode cX7_canNow 7 = .ok (.iadd, 1) := by decide +kernel
theorem dX7_canNow_8 : decode cX7_canNow 8 = .ok (.iaload, 1) := by decide +kernel
theorem dX7_canNow_9 : decode cX7_canNow 9 = .ok (.ifCond .ne 32, 3) := by decide +kernel
theorem dX7_canNow_12 : decode cX7_canNow 12 = .ok (.aload_n 0, 1) := by decide +kernel
theorem dX7_canNow_13 : decode cX7_canNow 13 = .ok (.iload_n 1, 1) := by decide +kernel
theorem dX7_canNow_14 : decode cX7_canNow 14 = .ok (.iload_n 2, 1) := by decide +kernel
theorem dX7_canNow_15 : decode cX7_canNow 15 = .ok (.aload_n 0, 1) := by decide +kernel
theorem dX7_canNow_16 : decode cX7_canNow 16 = .ok (.getfield 22, 3) := by decide +kernel
theorem dX7_canNow_19 : decode cX7_canNow 19 = .ok (.bipush 28, 2) := by decide +kernel
theorem dX7_canNow_21 : decode cX7_canNow 21 = .ok (.iaload, 1) := by decide +kernel
theorem dX7_canNow_22 : decode cX7_canNow 22 = .ok (.aload_n 0, 1) := by decide +kernel
theorem dX7_canNow_23 : decode cX7_canNow 23 = .ok (.getfield 22, 3) := by decide +kernel
theorem dX7_canNow_26 : decode cX7_canNow 26 = .ok (.bipush 24, 2) := by decide +kernel
theorem dX7_canNow_28 : decode cX7_canNow 28 = .ok (.iload_n 1, 1) := by decide +kernel
theorem dX7_canNow_29 : decode cX7_canNow 29 = .ok (.iadd, 1) := by decide +kernel
theorem dX7_canNow_30 : decode cX7_canNow 30 = .ok (.iaload, 1) := by decide +kernel
theorem dX7_canNow_31 : decode cX7_canNow 31 = .ok (.invokevirtual 106, 3) := by decide +kernel
theorem dX7_canNow_34 : decode cX7_canNow 34 = .ok (.ifCond .eq 7, 3) := by decide +kernel
theorem dX7_canNow_37 : decode cX7_canNow 37 = .ok (.iconst 1, 1) := by decide +kernel
theorem dX7_canNow_38 : decode cX7_canNow 38 = .ok (.goto 4, 3) := by decide +kernel
theorem dX7_canNow_41 : decode cX7_canNow 41 = .ok (.iconst 0, 1) := by decide +kernel
theorem dX7_canNow_42 : decode cX7_canNow 42 = .ok (.ireturn, 1) := by decide +kernel
theorem dX7_keeps_0 : decode cX7_keeps 0 = .ok (.aload_n 0, 1) := by decide +kernel
theorem dX7_keeps_1 : decode cX7_keeps 1 = .ok (.getfield 84, 3) := by decide +kernel
theorem dX7_keeps_4 : decode cX7_keeps 4 = .ok (.bipush 8, 2) := by decide +kernel
theorem dX7_keeps_6 : decode cX7_keeps 6 = .ok (.if_icmp .ne 43, 3) := by decide +kernel
theorem dX7_keeps_9 : decode cX7_keeps 9 = .ok (.iconst 0, 1) := by decide +kernel
theorem dX7_keeps_10 : decode cX7_keeps 10 = .ok (.istore_n 1, 1) := by decide +kernel
theorem dX7_keeps_11 : decode cX7_keeps 11 = .ok (.iload_n 1, 1) := by decide +kernel
theorem dX7_keeps_12 : decode cX7_keeps 12 = .ok (.sipush 203, 3) := by decide +kernel
theorem dX7_keeps_15 : decode cX7_keeps 15 = .ok (.if_icmp .ge 24, 3) := by decide +kernel
theorem dX7_keeps_18 : decode cX7_keeps 18 = .ok (.aload_n 0, 1) := by decide +kernel
theorem dX7_keeps_19 : decode cX7_keeps 19 = .ok (.getfield 25, 3) := by decide +kernel
theorem dX7_keeps_22 : decode cX7_keeps 22 = .ok (.iload_n 1, 1) := by decide +kernel
theorem dX7_keeps_23 : decode cX7_keeps 23 = .ok (.aload_n 0, 1) := by decide +kernel
theorem dX7_keeps_24 : decode cX7_keeps 24 = .ok (.getfield 25, 3) := by decide +kernel
theorem dX7_keeps_27 : decode cX7_keeps 27 = .ok (.iload_n 1, 1) := by decide +kernel
theorem dX7_keeps_28 : decode cX7_keeps 28 = .ok (.bipush 29, 2) := by decide +kernel
theorem dX7_keeps_30 : decode cX7_keeps 30 = .ok (.iadd, 1) := by decide +kernel
theorem dX7_keeps_31 : decode cX7_keeps 31 = .ok (.iaload, 1) := by decide +kernel
theorem dX7_keeps_32 : decode cX7_keeps 32 = .ok (.iastore, 1) := by decide +kernel
theorem dX7_keeps_33 : decode cX7_keeps 33 = .ok (.iinc 1 1, 3) := by decide +kernel
theorem dX7_keeps_36 : decode cX7_keeps 36 = .ok (.goto (-25), 3) := by decide +kernel
theorem dX7_keeps_39 : decode cX7_keeps 39 = .ok (.aload_n 0, 1) := by decide +kernel
theorem dX7_keeps_40 : decode cX7_keeps 40 = .ok (.dup, 1) := by decide +kernel
theorem dX7_keeps_41 : decode cX7_keeps 41 = .ok (.getfield 84, 3) := by decide +kernel
theorem dX7_keeps_44 : decode cX7_keeps 44 = .ok (.iconst 1, 1) := by decide +kernel
theorem dX7_keeps_45 : decode cX7_keeps 45 = .ok (.isub, 1) := by decide +kernel
theorem dX7_keeps_46 : decode cX7_keeps 46 = .ok (.putfield 84, 3) := by decide +kernel
theorem dX7_keeps_49 : decode cX7_keeps 49 = .ok (.iconst 0, 1) := by decide +kernel
theorem dX7_keeps_50 : decode cX7_keeps 50 = .ok (.istore_n 1, 1) := by decide +kernel
theorem dX7_keeps_51 : decode cX7_keeps 51 = .ok (.iload_n 1, 1) := by decide +kernel
theorem dX7_keeps_52 : decode cX7_keeps 52 = .ok (.bipush 29, 2) := by decide +kernel
theorem dX7_keeps_54 : decode cX7_keeps 54 = .ok (.if_icmp .ge 29, 3) := by decide +kernel
theorem dX7_keeps_57 : decode cX7_keeps 57 = .ok (.aload_n 0, 1) := by decide +kernel
theorem dX7_keeps_58 : decode cX7_keeps 58 = .ok (.getfield 25, 3) := by decide +kernel
theorem dX7_keeps_61 : decode cX7_keeps 61 = .ok (.bipush 29, 2) := by decide +kernel
theorem dX7_keeps_63 : decode cX7_keeps 63 = .ok (.aload_n 0, 1) := by decide +kernel
theorem dX7_keeps_64 : decode cX7_keeps 64 = .ok (.getfield 84, 3) := by decide +kernel
theorem dX7_keeps_67 : decode cX7_keeps 67 = .ok (.imul, 1) := by decide +kernel
theorem dX7_keeps_68 : decode cX7_keeps 68 = .ok (.iload_n 1, 1) := by decide +kernel
theorem dX7_keeps_69 : decode cX7_keeps 69 = .ok (.iadd, 1) := by decide +kernel
theorem dX7_keeps_70 : decode cX7_keeps 70 = .ok (.aload_n 0, 1) := by decide +kernel
theorem dX7_keeps_71 : decode cX7_keeps 71 = .ok (.getfield 22, 3) := by decide +kernel
theorem dX7_keeps_74 : decode cX7_keeps 74 = .ok (.iload_n 1, 1) := by decide +kernel
theorem dX7_keeps_75 : decode cX7_keeps 75 = .ok (.iaload, 1) := by decide +kernel
theorem dX7_keeps_76 : decode cX7_keeps 76 = .ok (.iastore, 1) := by decide +kernel
theorem dX7_keeps_77 : decode cX7_keeps 77 = .ok (.iinc 1 1, 3) := by decide +kernel
theorem dX7_keeps_80 : decode cX7_keeps 80 = .ok (.goto (-29), 3) := by decide +kernel
theorem dX7_keeps_83 : decode cX7_keeps 83 = .ok (.aload_n 0, 1) := by decide +kernel
theorem dX7_keeps_84 : decode cX7_keeps 84 = .ok (.dup, 1) := by decide +kernel
theorem dX7_keeps_85 : decode cX7_keeps 85 = .ok (.getfield 84, 3) := by decide +kernel
theorem dX7_keeps_88 : decode cX7_keeps 88 = .ok (.iconst 1, 1) := by decide +kernel
theorem dX7_keeps_89 : decode cX7_keeps 89 = .ok (.iadd, 1) := by decide +kernel
theorem dX7_keeps_90 : decode cX7_keeps 90 = .ok (.putfield 84, 3) := by decide +kernel
theorem dX7_keeps_93 : decode cX7_keeps 93 = .ok (.return_, 1) := by decide +kernel
theorem dX7_can_0 : decode cX7_can 0 = .ok (.aload_n 0, 1) := by decide +kernel
theorem dX7_can_1 : decode cX7_can 1 = .ok (.iload_n 1, 1) := by decide +kernel
theorem dX7_can_2 : decode cX7_can 2 = .ok (.invokevirtual 100, 3) := by decide +kernel
theorem dX7_can_5 : decode cX7_can 5 = .ok (.ifCond .eq 11, 3) := by decide +kernel
theorem dX7_can_8 : decode cX7_can 8 = .ok (.aload_n 0, 1) := by decide +kernel
theorem dX7_can_9 : decode cX7_can 9 = .ok (.iload_n 2, 1) := by decide +kernel
theorem dX7_can_10 : decode cX7_can 10 = .ok (.invokevirtual 90, 3) := by decide +kernel
theorem dX7_can_13 : decode cX7_can 13 = .ok (.ifCond .ne 7, 3) := by decide +kernel
theorem dX7_can_16 : decode cX7_can 16 = .ok (.iconst (-1), 1) := by decide +kernel
theorem dX7_can_17 : decode cX7_can 17 = .ok (.goto 17, 3) := by decide +kernel
theorem dX7_can_20 : decode cX7_can 20 = .ok (.aload_n 0, 1) := by decide +kernel
theorem dX7_can_21 : decode cX7_can 21 = .ok (.iload_n 1, 1) := by decide +kernel
theorem dX7_can_22 : decode cX7_can 22 = .ok (.iload_n 2, 1) := by decide +kernel
theorem dX7_can_23 : decode cX7_can 23 = .ok (.invokevirtual 110, 3) := by decide +kernel
theorem dX7_can_26 : decode cX7_can 26 = .ok (.ifCond .eq 7, 3) := by decide +kernel
theorem dX7_can_29 : decode cX7_can 29 = .ok (.iconst 1, 1) := by decide +kernel
theorem dX7_can_30 : decode cX7_can 30 = .ok (.goto 4, 3) := by decide +kernel
theorem dX7_can_33 : decode cX7_can 33 = .ok (.iconst 0, 1) := by decide +kernel
theorem dX7_can_34 : decode cX7_can 34 = .ok (.ireturn, 1) := by decide +kernel
theorem dX7_takes_0 : decode cX7_takes 0 = .ok (.aload_n 0, 1) := by decide +kernel
theorem dX7_takes_1 : decode cX7_takes 1 = .ok (.getfield 22, 3) := by decide +kernel
theorem dX7_takes_4 : decode cX7_takes 4 = .ok (.bipush 8, 2) := by decide +kernel
theorem dX7_takes_6 : decode cX7_takes 6 = .ok (.iload_n 2, 1) := by decide +kernel
theorem dX7_takes_7 : decode cX7_takes 7 = .ok (.iadd, 1) := by decide +kernel
theorem dX7_takes_8 : decode cX7_takes 8 = .ok (.iconst 1, 1) := by decide +kernel
theorem dX7_takes_9 : decode cX7_takes 9 = .ok (.iastore, 1) := by decide +kernel
theorem dX7_takes_10 : decode cX7_takes 10 = .ok (.aload_n 0, 1) := by decide +kernel
theorem dX7_takes_11 : decode cX7_takes 11 = .ok (.getfield 22, 3) := by decide +kernel
theorem dX7_takes_14 : decode cX7_takes 14 = .ok (.bipush 24, 2) := by decide +kernel
theorem dX7_takes_16 : decode cX7_takes 16 = .ok (.iload_n 1, 1) := by decide +kernel
theorem dX7_takes_17 : decode cX7_takes 17 = .ok (.iadd, 1) := by decide +kernel
theorem dX7_takes_18 : decode cX7_takes 18 = .ok (.dup2, 1) := by decide +kernel
theorem dX7_takes_19 : decode cX7_takes 19 = .ok (.iaload, 1) := by decide +kernel
theorem dX7_takes_20 : decode cX7_takes 20 = .ok (.aload_n 0, 1) := by decide +kernel
theorem dX7_takes_21 : decode cX7_takes 21 = .ok (.getfield 13, 3) := by decide +kernel
theorem dX7_takes_24 : decode cX7_takes 24 = .ok (.bipush 21, 2) := by decide +kernel
theorem dX7_takes_26 : decode cX7_takes 26 = .ok (.iload_n 2, 1) := by decide +kernel
theorem dX7_takes_27 : decode cX7_takes 27 = .ok (.iadd, 1) := by decide +kernel
theorem dX7_takes_28 : decode cX7_takes 28 = .ok (.iaload, 1) := by decide +kernel
theorem dX7_takes_29 : decode cX7_takes 29 = .ok (.iadd, 1) := by decide +kernel
theorem dX7_takes_30 : decode cX7_takes 30 = .ok (.iastore, 1) := by decide +kernel
theorem dX7_takes_31 : decode cX7_takes 31 = .ok (.aload_n 0, 1) := by decide +kernel
theorem dX7_takes_32 : decode cX7_takes 32 = .ok (.getfield 22, 3) := by decide +kernel
theorem dX7_takes_35 : decode cX7_takes 35 = .ok (.bipush 20, 2) := by decide +kernel
theorem dX7_takes_37 : decode cX7_takes 37 = .ok (.iload_n 1, 1) := by decide +kernel
theorem dX7_takes_38 : decode cX7_takes 38 = .ok (.iadd, 1) := by decide +kernel
theorem dX7_takes_39 : decode cX7_takes 39 = .ok (.dup2, 1) := by decide +kernel
theorem dX7_takes_40 : decode cX7_takes 40 = .ok (.iaload, 1) := by decide +kernel
theorem dX7_takes_41 : decode cX7_takes 41 = .ok (.aload_n 0, 1) := by decide +kernel
theorem dX7_takes_42 : decode cX7_takes 42 = .ok (.getfield 13, 3) := by decide +kernel
theorem dX7_takes_45 : decode cX7_takes 45 = .ok (.bipush 21, 2) := by decide +kernel
theorem dX7_takes_47 : decode cX7_takes 47 = .ok (.iload_n 2, 1) := by decide +kernel
theorem dX7_takes_48 : decode cX7_takes 48 = .ok (.iadd, 1) := by decide +kernel
theorem dX7_takes_49 : decode cX7_takes 49 = .ok (.iaload, 1) := by decide +kernel
theorem dX7_takes_50 : decode cX7_takes 50 = .ok (.iadd, 1) := by decide +kernel
theorem dX7_takes_51 : decode cX7_takes 51 = .ok (.iastore, 1) := by decide +kernel
theorem dX7_takes_52 : decode cX7_takes 52 = .ok (.return_, 1) := by decide +kernel
theorem dX7_take_0 : decode cX7_take 0 = .ok (.aload_n 0, 1) := by decide +kernel
theorem dX7_take_1 : decode cX7_take 1 = .ok (.iload_n 1, 1) := by decide +kernel
theorem dX7_take_2 : decode cX7_take 2 = .ok (.invokevirtual 100, 3) := by decide +kernel
theorem dX7_take_5 : decode cX7_take 5 = .ok (.ifCond .eq 11, 3) := by decide +kernel
theorem dX7_take_8 : decode cX7_take 8 = .ok (.aload_n 0, 1) := by decide +kernel
theorem dX7_take_9 : decode cX7_take 9 = .ok (.iload_n 2, 1) := by decide +kernel
theorem dX7_take_10 : decode cX7_take 10 = .ok (.invokevirtual 90, 3) := by decide +kernel
theorem dX7_take_13 : decode cX7_take 13 = .ok (.ifCond .ne 5, 3) := by decide +kernel
theorem dX7_take_16 : decode cX7_take 16 = .ok (.iconst (-1), 1) := by decide +kernel
theorem dX7_take_17 : decode cX7_take 17 = .ok (.ireturn, 1) := by decide +kernel
theorem dX7_take_18 : decode cX7_take 18 = .ok (.aload_n 0, 1) := by decide +kernel
theorem dX7_take_19 : decode cX7_take 19 = .ok (.iload_n 1, 1) := by decide +kernel
theorem dX7_take_20 : decode cX7_take 20 = .ok (.iload_n 2, 1) := by decide +kernel
theorem dX7_take_21 : decode cX7_take 21 = .ok (.invokevirtual 110, 3) := by decide +kernel
theorem dX7_take_24 : decode cX7_take 24 = .ok (.ifCond .ne 6, 3) := by decide +kernel
theorem dX7_take_27 : decode cX7_take 27 = .ok (.bipush (-2), 2) := by decide +kernel
theorem dX7_take_29 : decode cX7_take 29 = .ok (.ireturn, 1) := by decide +kernel
theorem dX7_take_30 : decode cX7_take 30 = .ok (.aload_n 0, 1) := by decide +kernel
theorem dX7_take_31 : decode cX7_take 31 = .ok (.invokevirtual 113, 3) := by decide +kernel
theorem dX7_take_34 : decode cX7_take 34 = .ok (.aload_n 0, 1) := by decide +kernel
theorem dX7_take_35 : decode cX7_take 35 = .ok (.iload_n 1, 1) := by decide +kernel
theorem dX7_take_36 : decode cX7_take 36 = .ok (.iload_n 2, 1) := by decide +kernel
theorem dX7_take_37 : decode cX7_take 37 = .ok (.invokevirtual 116, 3) := by decide +kernel
theorem dX7_take_40 : decode cX7_take 40 = .ok (.aload_n 0, 1) := by decide +kernel
theorem dX7_take_41 : decode cX7_take 41 = .ok (.iload_n 2, 1) := by decide +kernel
theorem dX7_take_42 : decode cX7_take 42 = .ok (.aload_n 0, 1) := by decide +kernel
theorem dX7_take_43 : decode cX7_take 43 = .ok (.getfield 22, 3) := by decide +kernel
theorem dX7_take_46 : decode cX7_take 46 = .ok (.bipush 28, 2) := by decide +kernel
theorem dX7_take_48 : decode cX7_take 48 = .ok (.iaload, 1) := by decide +kernel
theorem dX7_take_49 : decode cX7_take 49 = .ok (.invokevirtual 97, 3) := by decide +kernel
theorem dX7_take_52 : decode cX7_take 52 = .ok (.ifCond .ne 54, 3) := by decide +kernel
theorem dX7_take_55 : decode cX7_take 55 = .ok (.aload_n 0, 1) := by decide +kernel
theorem dX7_take_56 : decode cX7_take 56 = .ok (.getfield 13, 3) := by decide +kernel
theorem dX7_take_59 : decode cX7_take 59 = .ok (.iconst 5, 1) := by decide +kernel
theorem dX7_take_60 : decode cX7_take 60 = .ok (.iload_n 2, 1) := by decide +kernel
theorem dX7_take_61 : decode cX7_take 61 = .ok (.iadd, 1) := by decide +kernel
theorem dX7_take_62 : decode cX7_take 62 = .ok (.iaload, 1) := by decide +kernel
theorem dX7_take_63 : decode cX7_take 63 = .ok (.iconst 3, 1) := by decide +kernel
theorem dX7_take_64 : decode cX7_take 64 = .ok (.if_icmp .eq 42, 3) := by decide +kernel
theorem dX7_take_67 : decode cX7_take 67 = .ok (.aload_n 0, 1) := by decide +kernel
theorem dX7_take_68 : decode cX7_take 68 = .ok (.getfield 22, 3) := by decide +kernel
theorem dX7_take_71 : decode cX7_take 71 = .ok (.bipush 28, 2) := by decide +kernel
theorem dX7_take_73 : decode cX7_take 73 = .ok (.iaload, 1) := by decide +kernel
theorem dX7_take_74 : decode cX7_take 74 = .ok (.aload_n 0, 1) := by decide +kernel
theorem dX7_take_75 : decode cX7_take 75 = .ok (.getfield 13, 3) := by decide +kernel
theorem dX7_take_78 : decode cX7_take 78 = .ok (.iconst 3, 1) := by decide +kernel
theorem dX7_take_79 : decode cX7_take 79 = .ok (.iaload, 1) := by decide +kernel
theorem dX7_take_80 : decode cX7_take 80 = .ok (.irem, 1) := by decide +kernel
theorem dX7_take_81 : decode cX7_take 81 = .ok (.ifCond .ne 25, 3) := by decide +kernel
theorem dX7_take_84 : decode cX7_take 84 = .ok (.aload_n 0, 1) := by decide +kernel
theorem dX7_take_85 : decode cX7_take 85 = .ok (.getfield 22, 3) := by decide +kernel
theorem dX7_take_88 : decode cX7_take 88 = .ok (.bipush 16, 2) := by decide +kernel
theorem dX7_take_90 : decode cX7_take 90 = .ok (.iload_n 1, 1) := by decide +kernel
theorem dX7_take_91 : decode cX7_take 91 = .ok (.iadd, 1) := by decide +kernel
theorem dX7_take_92 : decode cX7_take 92 = .ok (.iaload, 1) := by decide +kernel
theorem dX7_take_93 : decode cX7_take 93 = .ok (.aload_n 0, 1) := by decide +kernel
theorem dX7_take_94 : decode cX7_take 94 = .ok (.getfield 13, 3) := by decide +kernel
theorem dX7_take_97 : decode cX7_take 97 = .ok (.iconst 2, 1) := by decide +kernel
theorem dX7_take_98 : decode cX7_take 98 = .ok (.iaload, 1) := by decide +kernel
theorem dX7_take_99 : decode cX7_take 99 = .ok (.if_icmp .le 7, 3) := by decide +kernel
theorem dX7_take_102 : decode cX7_take 102 = .ok (.iconst 1, 1) := by decide +kernel
theorem dX7_take_103 : decode cX7_take 103 = .ok (.goto 4, 3) := by decide +kernel
theorem dX7_take_106 : decode cX7_take 106 = .ok (.iconst 0, 1) := by decide +kernel
theorem dX7_take_107 : decode cX7_take 107 = .ok (.istore_n 3, 1) := by decide +kernel
theorem dX7_take_108 : decode cX7_take 108 = .ok (.aload_n 0, 1) := by decide +kernel
theorem dX7_take_109 : decode cX7_take 109 = .ok (.getfield 22, 3) := by decide +kernel
theorem dX7_take_112 : decode cX7_take 112 = .ok (.bipush 20, 2) := by decide +kernel
theorem dX7_take_114 : decode cX7_take 114 = .ok (.iload_n 1, 1) := by decide +kernel
theorem dX7_take_115 : decode cX7_take 115 = .ok (.iadd, 1) := by decide +kernel
theorem dX7_take_116 : decode cX7_take 116 = .ok (.iload_n 3, 1) := by decide +kernel
theorem dX7_take_117 : decode cX7_take 117 = .ok (.ifCond .eq 7, 3) := by decide +kernel
theorem dX7_take_120 : decode cX7_take 120 = .ok (.iconst 0, 1) := by decide +kernel
theorem dX7_take_121 : decode cX7_take 121 = .ok (.goto 12, 3) := by decide +kernel
theorem dX7_take_124 : decode cX7_take 124 = .ok (.aload_n 0, 1) := by decide +kernel
theorem dX7_take_125 : decode cX7_take 125 = .ok (.getfield 22, 3) := by decide +kernel
theorem dX7_take_128 : decode cX7_take 128 = .ok (.bipush 20, 2) := by decide +kernel
theorem dX7_take_130 : decode cX7_take 130 = .ok (.iload_n 1, 1) := by decide +kernel
theorem dX7_take_131 : decode cX7_take 131 = .ok (.iadd, 1) := by decide +kernel
theorem dX7_take_132 : decode cX7_take 132 = .ok (.iaload, 1) := by decide +kernel
theorem dX7_take_133 : decode cX7_take 133 = .ok (.iastore, 1) := by decide +kernel
theorem dX7_take_134 : decode cX7_take 134 = .ok (.aload_n 0, 1) := by decide +kernel
theorem dX7_take_135 : decode cX7_take 135 = .ok (.getfield 22, 3) := by decide +kernel
theorem dX7_take_138 : decode cX7_take 138 = .ok (.bipush 20, 2) := by decide +kernel
theorem dX7_take_140 : decode cX7_take 140 = .ok (.iload_n 1, 1) := by decide +kernel
theorem dX7_take_141 : decode cX7_take 141 = .ok (.iadd, 1) := by decide +kernel
theorem dX7_take_142 : decode cX7_take 142 = .ok (.iaload, 1) := by decide +kernel
theorem dX7_take_143 : decode cX7_take 143 = .ok (.ireturn, 1) := by decide +kernel
theorem dX7_passes_0 : decode cX7_passes 0 = .ok (.aload_n 0, 1) := by decide +kernel
theorem dX7_passes_1 : decode cX7_passes 1 = .ok (.getfield 22, 3) := by decide +kernel
theorem dX7_passes_4 : decode cX7_passes 4 = .ok (.bipush 28, 2) := by decide +kernel
theorem dX7_passes_6 : decode cX7_passes 6 = .ok (.dup2, 1) := by decide +kernel
theorem dX7_passes_7 : decode cX7_passes 7 = .ok (.iaload, 1) := by decide +kernel
theorem dX7_passes_8 : decode cX7_passes 8 = .ok (.iconst 1, 1) := by decide +kernel
theorem dX7_passes_9 : decode cX7_passes 9 = .ok (.iadd, 1) := by decide +kernel
theorem dX7_passes_10 : decode cX7_passes 10 = .ok (.iastore, 1) := by decide +kernel
theorem dX7_passes_11 : decode cX7_passes 11 = .ok (.iconst 0, 1) := by decide +kernel
theorem dX7_passes_12 : decode cX7_passes 12 = .ok (.istore_n 1, 1) := by decide +kernel
theorem dX7_passes_13 : decode cX7_passes 13 = .ok (.iload_n 1, 1) := by decide +kernel
theorem dX7_passes_14 : decode cX7_passes 14 = .ok (.iconst 4, 1) := by decide +kernel
theorem dX7_passes_15 : decode cX7_passes 15 = .ok (.if_icmp .ge 19, 3) := by decide +kernel
theorem dX7_passes_18 : decode cX7_passes 18 = .ok (.aload_n 0, 1) := by decide +kernel
theorem dX7_passes_19 : decode cX7_passes 19 = .ok (.getfield 22, 3) := by decide +kernel
theorem dX7_passes_22 : decode cX7_passes 22 = .ok (.bipush 24, 2) := by decide +kernel
theorem dX7_passes_24 : decode cX7_passes 24 = .ok (.iload_n 1, 1) := by decide +kernel
theorem dX7_passes_25 : decode cX7_passes 25 = .ok (.iadd, 1) := by decide +kernel
theorem dX7_passes_26 : decode cX7_passes 26 = .ok (.iconst 0, 1) := by decide +kernel
theorem dX7_passes_27 : decode cX7_passes 27 = .ok (.iastore, 1) := by decide +kernel
theorem dX7_passes_28 : decode cX7_passes 28 = .ok (.iinc 1 1, 3) := by decide +kernel
theorem dX7_passes_31 : decode cX7_passes 31 = .ok (.goto (-18), 3) := by decide +kernel
theorem dX7_passes_34 : decode cX7_passes 34 = .ok (.return_, 1) := by decide +kernel
theorem dX7_pass_0 : decode cX7_pass 0 = .ok (.iload_n 1, 1) := by decide +kernel
theorem dX7_pass_1 : decode cX7_pass 1 = .ok (.iconst 1, 1) := by decide +kernel
theorem dX7_pass_2 : decode cX7_pass 2 = .ok (.bipush 30, 2) := by decide +kernel
theorem dX7_pass_4 : decode cX7_pass 4 = .ok (.invokestatic 54, 3) := by decide +kernel
theorem dX7_pass_7 : decode cX7_pass 7 = .ok (.ifCond .ne 5, 3) := by decide +kernel
theorem dX7_pass_10 : decode cX7_pass 10 = .ok (.iconst (-1), 1) := by decide +kernel
theorem dX7_pass_11 : decode cX7_pass 11 = .ok (.ireturn, 1) := by decide +kernel
theorem dX7_pass_12 : decode cX7_pass 12 = .ok (.aload_n 0, 1) := by decide +kernel
theorem dX7_pass_13 : decode cX7_pass 13 = .ok (.getfield 22, 3) := by decide +kernel
theorem dX7_pass_16 : decode cX7_pass 16 = .ok (.bipush 28, 2) := by decide +kernel
theorem dX7_pass_18 : decode cX7_pass 18 = .ok (.iaload, 1) := by decide +kernel
theorem dX7_pass_19 : decode cX7_pass 19 = .ok (.iload_n 1, 1) := by decide +kernel
theorem dX7_pass_20 : decode cX7_pass 20 = .ok (.iadd, 1) := by decide +kernel
theorem dX7_pass_21 : decode cX7_pass 21 = .ok (.bipush 99, 2) := by decide +kernel
theorem dX7_pass_23 : decode cX7_pass 23 = .ok (.if_icmp .le 6, 3) := by decide +kernel
theorem dX7_pass_26 : decode cX7_pass 26 = .ok (.bipush (-2), 2) := by decide +kernel
theorem dX7_pass_28 : decode cX7_pass 28 = .ok (.ireturn, 1) := by decide +kernel
theorem dX7_pass_29 : decode cX7_pass 29 = .ok (.aload_n 0, 1) := by decide +kernel
theorem dX7_pass_30 : decode cX7_pass 30 = .ok (.invokevirtual 113, 3) := by decide +kernel
theorem dX7_pass_33 : decode cX7_pass 33 = .ok (.iconst 0, 1) := by decide +kernel
theorem dX7_pass_34 : decode cX7_pass 34 = .ok (.istore_n 2, 1) := by decide +kernel
theorem dX7_pass_35 : decode cX7_pass 35 = .ok (.iload_n 2, 1) := by decide +kernel
theorem dX7_pass_36 : decode cX7_pass 36 = .ok (.iload_n 1, 1) := by decide +kernel
theorem dX7_pass_37 : decode cX7_pass 37 = .ok (.if_icmp .ge 13, 3) := by decide +kernel
theorem dX7_pass_40 : decode cX7_pass 40 = .ok (.aload_n 0, 1) := by decide +kernel
theorem dX7_pass_41 : decode cX7_pass 41 = .ok (.invokevirtual 120, 3) := by decide +kernel
theorem dX7_pass_44 : decode cX7_pass 44 = .ok (.iinc 2 1, 3) := by decide +kernel
theorem dX7_pass_47 : decode cX7_pass 47 = .ok (.goto (-12), 3) := by decide +kernel
theorem dX7_pass_50 : decode cX7_pass 50 = .ok (.aload_n 0, 1) := by decide +kernel
theorem dX7_pass_51 : decode cX7_pass 51 = .ok (.getfield 22, 3) := by decide +kernel
theorem dX7_pass_54 : decode cX7_pass 54 = .ok (.bipush 28, 2) := by decide +kernel
theorem dX7_pass_56 : decode cX7_pass 56 = .ok (.iaload, 1) := by decide +kernel
theorem dX7_pass_57 : decode cX7_pass 57 = .ok (.ireturn, 1) := by decide +kernel
theorem dX7_hook_0 : decode cX7_hook 0 = .ok (.aload_n 0, 1) := by decide +kernel
theorem dX7_hook_1 : decode cX7_hook 1 = .ok (.iload_n 1, 1) := by decide +kernel
theorem dX7_hook_2 : decode cX7_hook 2 = .ok (.invokevirtual 100, 3) := by decide +kernel
theorem dX7_hook_5 : decode cX7_hook 5 = .ok (.ifCond .eq 13, 3) := by decide +kernel
theorem dX7_hook_8 : decode cX7_hook 8 = .ok (.iload_n 2, 1) := by decide +kernel
theorem dX7_hook_9 : decode cX7_hook 9 = .ok (.iconst 1, 1) := by decide +kernel
theorem dX7_hook_10 : decode cX7_hook 10 = .ok (.bipush 20, 2) := by decide +kernel
theorem dX7_hook_12 : decode cX7_hook 12 = .ok (.invokestatic 54, 3) := by decide +kernel
theorem dX7_hook_15 : decode cX7_hook 15 = .ok (.ifCond .ne 5, 3) := by decide +kernel
theorem dX7_hook_18 : decode cX7_hook 18 = .ok (.iconst (-1), 1) := by decide +kernel
theorem dX7_hook_19 : decode cX7_hook 19 = .ok (.ireturn, 1) := by decide +kernel
theorem dX7_hook_20 : decode cX7_hook 20 = .ok (.aload_n 0, 1) := by decide +kernel
theorem dX7_hook_21 : decode cX7_hook 21 = .ok (.invokevirtual 113, 3) := by decide +kernel
theorem dX7_hook_24 : decode cX7_hook 24 = .ok (.aload_n 0, 1) := by decide +kernel
theorem dX7_hook_25 : decode cX7_hook 25 = .ok (.getfield 22, 3) := by decide +kernel
theorem dX7_hook_28 : decode cX7_hook 28 = .ok (.bipush 16, 2) := by decide +kernel
theorem dX7_hook_30 : decode cX7_hook 30 = .ok (.iload_n 1, 1) := by decide +kernel
theorem dX7_hook_31 : decode cX7_hook 31 = .ok (.iadd, 1) := by decide +kernel
theorem dX7_hook_32 : decode cX7_hook 32 = .ok (.iaload, 1) := by decide +kernel
theorem dX7_hook_33 : decode cX7_hook 33 = .ok (.istore_n 3, 1) := by decide +kernel
theorem dX7_hook_34 : decode cX7_hook 34 = .ok (.aload_n 0, 1) := by decide +kernel
theorem dX7_hook_35 : decode cX7_hook 35 = .ok (.getfield 22, 3) := by decide +kernel
theorem dX7_hook_38 : decode cX7_hook 38 = .ok (.bipush 16, 2) := by decide +kernel
theorem dX7_hook_40 : decode cX7_hook 40 = .ok (.iload_n 1, 1) := by decide +kernel
theorem dX7_hook_41 : decode cX7_hook 41 = .ok (.iadd, 1) := by decide +kernel
theorem dX7_hook_42 : decode cX7_hook 42 = .ok (.iload_n 2, 1) := by decide +kernel
theorem dX7_hook_43 : decode cX7_hook 43 = .ok (.iastore, 1) := by decide +kernel
theorem dX7_hook_44 : decode cX7_hook 44 = .ok (.iload_n 3, 1) := by decide +kernel
theorem dX7_hook_45 : decode cX7_hook 45 = .ok (.ireturn, 1) := by decide +kernel
theorem dX7_ring_0 : decode cX7_ring 0 = .ok (.aload_n 0, 1) := by decide +kernel
theorem dX7_ring_1 : decode cX7_ring 1 = .ok (.iload_n 1, 1) := by decide +kernel
theorem dX7_ring_2 : decode cX7_ring 2 = .ok (.invokevirtual 90, 3) := by decide +kernel
theorem dX7_ring_5 : decode cX7_ring 5 = .ok (.ifCond .ne 5, 3) := by decide +kernel
theorem dX7_ring_8 : decode cX7_ring 8 = .ok (.iconst (-1), 1) := by decide +kernel
theorem dX7_ring_9 : decode cX7_ring 9 = .ok (.ireturn, 1) := by decide +kernel
theorem dX7_ring_10 : decode cX7_ring 10 = .ok (.aload_n 0, 1) := by decide +kernel
theorem dX7_ring_11 : decode cX7_ring 11 = .ok (.iload_n 1, 1) := by decide +kernel
theorem dX7_ring_12 : decode cX7_ring 12 = .ok (.aload_n 0, 1) := by decide +kernel
theorem dX7_ring_13 : decode cX7_ring 13 = .ok (.getfield 22, 3) := by decide +kernel
theorem dX7_ring_16 : decode cX7_ring 16 = .ok (.bipush 28, 2) := by decide +kernel
theorem dX7_ring_18 : decode cX7_ring 18 = .ok (.iaload, 1) := by decide +kernel
theorem dX7_ring_19 : decode cX7_ring 19 = .ok (.invokevirtual 93, 3) := by decide +kernel
theorem dX7_ring_22 : decode cX7_ring 22 = .ok (.ifCond .ne 16, 3) := by decide +kernel
theorem dX7_ring_25 : decode cX7_ring 25 = .ok (.aload_n 0, 1) := by decide +kernel
theorem dX7_ring_26 : decode cX7_ring 26 = .ok (.getfield 22, 3) := by decide +kernel
theorem dX7_ring_29 : decode cX7_ring 29 = .ok (.bipush 8, 2) := by decide +kernel
theorem dX7_ring_31 : decode cX7_ring 31 = .ok (.iload_n 1, 1) := by decide +kernel
theorem dX7_ring_32 : decode cX7_ring 32 = .ok (.iadd, 1) := by decide +kernel
theorem dX7_ring_33 : decode cX7_ring 33 = .ok (.iaload, 1) := by decide +kernel
theorem dX7_ring_34 : decode cX7_ring 34 = .ok (.iconst 1, 1) := by decide +kernel
theorem dX7_ring_35 : decode cX7_ring 35 = .ok (.if_icmp .ne 6, 3) := by decide +kernel
theorem dX7_ring_38 : decode cX7_ring 38 = .ok (.bipush (-2), 2) := by decide +kernel
theorem dX7_ring_40 : decode cX7_ring 40 = .ok (.ireturn, 1) := by decide +kernel
theorem dX7_ring_41 : decode cX7_ring 41 = .ok (.aload_n 0, 1) := by decide +kernel
theorem dX7_ring_42 : decode cX7_ring 42 = .ok (.invokevirtual 113, 3) := by decide +kernel
theorem dX7_ring_45 : decode cX7_ring 45 = .ok (.aload_n 0, 1) := by decide +kernel
theorem dX7_ring_46 : decode cX7_ring 46 = .ok (.getfield 22, 3) := by decide +kernel
theorem dX7_ring_49 : decode cX7_ring 49 = .ok (.iload_n 1, 1) := by decide +kernel
theorem dX7_ring_50 : decode cX7_ring 50 = .ok (.iaload, 1) := by decide +kernel
theorem dX7_ring_51 : decode cX7_ring 51 = .ok (.istore_n 2, 1) := by decide +kernel
theorem dX7_ring_52 : decode cX7_ring 52 = .ok (.aload_n 0, 1) := by decide +kernel
theorem dX7_ring_53 : decode cX7_ring 53 = .ok (.getfield 22, 3) := by decide +kernel
theorem dX7_ring_56 : decode cX7_ring 56 = .ok (.iload_n 1, 1) := by decide +kernel
theorem dX7_ring_57 : decode cX7_ring 57 = .ok (.aload_n 0, 1) := by decide +kernel
theorem dX7_ring_58 : decode cX7_ring 58 = .ok (.getfield 22, 3) := by decide +kernel
theorem dX7_ring_61 : decode cX7_ring 61 = .ok (.bipush 28, 2) := by decide +kernel
theorem dX7_ring_63 : decode cX7_ring 63 = .ok (.iaload, 1) := by decide +kernel
theorem dX7_ring_64 : decode cX7_ring 64 = .ok (.iastore, 1) := by decide +kernel
theorem dX7_ring_65 : decode cX7_ring 65 = .ok (.iload_n 2, 1) := by decide +kernel
theorem dX7_ring_66 : decode cX7_ring 66 = .ok (.ireturn, 1) := by decide +kernel
theorem dX7_undo_0 : decode cX7_undo 0 = .ok (.aload_n 0, 1) := by decide +kernel
theorem dX7_undo_1 : decode cX7_undo 1 = .ok (.getfield 84, 3) := by decide +kernel
theorem dX7_undo_4 : decode cX7_undo 4 = .ok (.ifCond .ne 6, 3) := by decide +kernel
theorem dX7_undo_7 : decode cX7_undo 7 = .ok (.bipush (-2), 2) := by decide +kernel
theorem dX7_undo_9 : decode cX7_undo 9 = .ok (.ireturn, 1) := by decide +kernel
theorem dX7_undo_10 : decode cX7_undo 10 = .ok (.aload_n 0, 1) := by decide +kernel
theorem dX7_undo_11 : decode cX7_undo 11 = .ok (.dup, 1) := by decide +kernel
theorem dX7_undo_12 : decode cX7_undo 12 = .ok (.getfield 84, 3) := by decide +kernel
theorem dX7_undo_15 : decode cX7_undo 15 = .ok (.iconst 1, 1) := by decide +kernel
theorem dX7_undo_16 : decode cX7_undo 16 = .ok (.isub, 1) := by decide +kernel
theorem dX7_undo_17 : decode cX7_undo 17 = .ok (.putfield 84, 3) := by decide +kernel
theorem dX7_undo_20 : decode cX7_undo 20 = .ok (.iconst 0, 1) := by decide +kernel
theorem dX7_undo_21 : decode cX7_undo 21 = .ok (.istore_n 1, 1) := by decide +kernel
theorem dX7_undo_22 : decode cX7_undo 22 = .ok (.iload_n 1, 1) := by decide +kernel
theorem dX7_undo_23 : decode cX7_undo 23 = .ok (.bipush 29, 2) := by decide +kernel
theorem dX7_undo_25 : decode cX7_undo 25 = .ok (.if_icmp .ge 29, 3) := by decide +kernel
theorem dX7_undo_28 : decode cX7_undo 28 = .ok (.aload_n 0, 1) := by decide +kernel
theorem dX7_undo_29 : decode cX7_undo 29 = .ok (.getfield 22, 3) := by decide +kernel
theorem dX7_undo_32 : decode cX7_undo 32 = .ok (.iload_n 1, 1) := by decide +kernel
theorem dX7_undo_33 : decode cX7_undo 33 = .ok (.aload_n 0, 1) := by decide +kernel
theorem dX7_undo_34 : decode cX7_undo 34 = .ok (.getfield 25, 3) := by decide +kernel
theorem dX7_undo_37 : decode cX7_undo 37 = .ok (.bipush 29, 2) := by decide +kernel
theorem dX7_undo_39 : decode cX7_undo 39 = .ok (.aload_n 0, 1) := by decide +kernel
theorem dX7_undo_40 : decode cX7_undo 40 = .ok (.getfield 84, 3) := by decide +kernel
theorem dX7_undo_43 : decode cX7_undo 43 = .ok (.imul, 1) := by decide +kernel
theorem dX7_undo_44 : decode cX7_undo 44 = .ok (.iload_n 1, 1) := by decide +kernel
theorem dX7_undo_45 : decode cX7_undo 45 = .ok (.iadd, 1) := by decide +kernel
theorem dX7_undo_46 : decode cX7_undo 46 = .ok (.iaload, 1) := by decide +kernel
theorem dX7_undo_47 : decode cX7_undo 47 = .ok (.iastore, 1) := by decide +kernel
theorem dX7_undo_48 : decode cX7_undo 48 = .ok (.iinc 1 1, 3) := by decide +kernel
theorem dX7_undo_51 : decode cX7_undo 51 = .ok (.goto (-29), 3) := by decide +kernel
theorem dX7_undo_54 : decode cX7_undo 54 = .ok (.aload_n 0, 1) := by decide +kernel
theorem dX7_undo_55 : decode cX7_undo 55 = .ok (.getfield 84, 3) := by decide +kernel
theorem dX7_undo_58 : decode cX7_undo 58 = .ok (.ireturn, 1) := by decide +kernel
theorem dX7_holds_0 : decode cX7_holds 0 = .ok (.iconst 0, 1) := by decide +kernel
theorem dX7_holds_1 : decode cX7_holds 1 = .ok (.istore_n 1, 1) := by decide +kernel
theorem dX7_holds_2 : decode cX7_holds 2 = .ok (.iload_n 1, 1) := by decide +kernel
theorem dX7_holds_3 : decode cX7_holds 3 = .ok (.bipush 29, 2) := by decide +kernel
theorem dX7_holds_5 : decode cX7_holds 5 = .ok (.if_icmp .ge 21, 3) := by decide +kernel
theorem dX7_holds_8 : decode cX7_holds 8 = .ok (.aload_n 0, 1) := by decide +kernel
theorem dX7_holds_9 : decode cX7_holds 9 = .ok (.getfield 31, 3) := by decide +kernel
theorem dX7_holds_12 : decode cX7_holds 12 = .ok (.iload_n 1, 1) := by decide +kernel
theorem dX7_holds_13 : decode cX7_holds 13 = .ok (.aload_n 0, 1) := by decide +kernel
theorem dX7_holds_14 : decode cX7_holds 14 = .ok (.getfield 22, 3) := by decide +kernel
theorem dX7_holds_17 : decode cX7_holds 17 = .ok (.iload_n 1, 1) := by decide +kernel
theorem dX7_holds_18 : decode cX7_holds 18 = .ok (.iaload, 1) := by decide +kernel
theorem dX7_holds_19 : decode cX7_holds 19 = .ok (.iastore, 1) := by decide +kernel
theorem dX7_holds_20 : decode cX7_holds 20 = .ok (.iinc 1 1, 3) := by decide +kernel
theorem dX7_holds_23 : decode cX7_holds 23 = .ok (.goto (-21), 3) := by decide +kernel
theorem dX7_holds_26 : decode cX7_holds 26 = .ok (.return_, 1) := by decide +kernel
theorem dX7_lets_0 : decode cX7_lets 0 = .ok (.iconst 0, 1) := by decide +kernel
theorem dX7_lets_1 : decode cX7_lets 1 = .ok (.istore_n 1, 1) := by decide +kernel
theorem dX7_lets_2 : decode cX7_lets 2 = .ok (.iload_n 1, 1) := by decide +kernel
theorem dX7_lets_3 : decode cX7_lets 3 = .ok (.bipush 29, 2) := by decide +kernel
theorem dX7_lets_5 : decode cX7_lets 5 = .ok (.if_icmp .ge 21, 3) := by decide +kernel
theorem dX7_lets_8 : decode cX7_lets 8 = .ok (.aload_n 0, 1) := by decide +kernel
theorem dX7_lets_9 : decode cX7_lets 9 = .ok (.getfield 22, 3) := by decide +kernel
theorem dX7_lets_12 : decode cX7_lets 12 = .ok (.iload_n 1, 1) := by decide +kernel
theorem dX7_lets_13 : decode cX7_lets 13 = .ok (.aload_n 0, 1) := by decide +kernel
theorem dX7_lets_14 : decode cX7_lets 14 = .ok (.getfield 31, 3) := by decide +kernel
theorem dX7_lets_17 : decode cX7_lets 17 = .ok (.iload_n 1, 1) := by decide +kernel
theorem dX7_lets_18 : decode cX7_lets 18 = .ok (.iaload, 1) := by decide +kernel
theorem dX7_lets_19 : decode cX7_lets 19 = .ok (.iastore, 1) := by decide +kernel
theorem dX7_lets_20 : decode cX7_lets 20 = .ok (.iinc 1 1, 3) := by decide +kernel
theorem dX7_lets_23 : decode cX7_lets 23 = .ok (.goto (-21), 3) := by decide +kernel
theorem dX7_lets_26 : decode cX7_lets 26 = .ok (.return_, 1) := by decide +kernel
theorem dX7_eachTakes_0 : decode cX7_eachTakes 0 = .ok (.iconst 0, 1) := by decide +kernel
theorem dX7_eachTakes_1 : decode cX7_eachTakes 1 = .ok (.istore_n 1, 1) := by decide +kernel
theorem dX7_eachTakes_2 : decode cX7_eachTakes 2 = .ok (.iload_n 1, 1) := by decide +kernel
theorem dX7_eachTakes_3 : decode cX7_eachTakes 3 = .ok (.aload_n 0, 1) := by decide +kernel
theorem dX7_eachTakes_4 : decode cX7_eachTakes 4 = .ok (.getfield 13, 3) := by decide +kernel
theorem dX7_eachTakes_7 : decode cX7_eachTakes 7 = .ok (.iconst 1, 1) := by decide +kernel
theorem dX7_eachTakes_8 : decode cX7_eachTakes 8 = .ok (.iaload, 1) := by decide +kernel
theorem dX7_eachTakes_9 : decode cX7_eachTakes 9 = .ok (.if_icmp .ge 50, 3) := by decide +kernel
theorem dX7_eachTakes_12 : decode cX7_eachTakes 12 = .ok (.iconst 0, 1) := by decide +kernel
theorem dX7_eachTakes_13 : decode cX7_eachTakes 13 = .ok (.istore_n 2, 1) := by decide +kernel
theorem dX7_eachTakes_14 : decode cX7_eachTakes 14 = .ok (.iload_n 2, 1) := by decide +kernel
theorem dX7_eachTakes_15 : decode cX7_eachTakes 15 = .ok (.aload_n 0, 1) := by decide +kernel
theorem dX7_eachTakes_16 : decode cX7_eachTakes 16 = .ok (.getfield 13, 3) := by decide +kernel
theorem dX7_eachTakes_19 : decode cX7_eachTakes 19 = .ok (.iconst 0, 1) := by decide +kernel
theorem dX7_eachTakes_20 : decode cX7_eachTakes 20 = .ok (.iaload, 1) := by decide +kernel
theorem dX7_eachTakes_21 : decode cX7_eachTakes 21 = .ok (.if_icmp .ge 32, 3) := by decide +kernel
theorem dX7_eachTakes_24 : decode cX7_eachTakes 24 = .ok (.aload_n 0, 1) := by decide +kernel
theorem dX7_eachTakes_25 : decode cX7_eachTakes 25 = .ok (.iload_n 1, 1) := by decide +kernel
theorem dX7_eachTakes_26 : decode cX7_eachTakes 26 = .ok (.invokevirtual 103, 3) := by decide +kernel
theorem dX7_eachTakes_29 : decode cX7_eachTakes 29 = .ok (.ifCond .ne 18, 3) := by decide +kernel
theorem dX7_eachTakes_32 : decode cX7_eachTakes 32 = .ok (.aload_n 0, 1) := by decide +kernel
theorem dX7_eachTakes_33 : decode cX7_eachTakes 33 = .ok (.iload_n 1, 1) := by decide +kernel
theorem dX7_eachTakes_34 : decode cX7_eachTakes 34 = .ok (.iload_n 2, 1) := by decide +kernel
theorem dX7_eachTakes_35 : decode cX7_eachTakes 35 = .ok (.invokevirtual 110, 3) := by decide +kernel
theorem dX7_eachTakes_38 : decode cX7_eachTakes 38 = .ok (.ifCond .eq 9, 3) := by decide +kernel
theorem dX7_eachTakes_41 : decode cX7_eachTakes 41 = .ok (.aload_n 0, 1) := by decide +kernel
theorem dX7_eachTakes_42 : decode cX7_eachTakes 42 = .ok (.iload_n 1, 1) := by decide +kernel
theorem dX7_eachTakes_43 : decode cX7_eachTakes 43 = .ok (.iload_n 2, 1) := by decide +kernel
theorem dX7_eachTakes_44 : decode cX7_eachTakes 44 = .ok (.invokevirtual 116, 3) := by decide +kernel
theorem dX7_eachTakes_47 : decode cX7_eachTakes 47 = .ok (.iinc 2 1, 3) := by decide +kernel
theorem dX7_eachTakes_50 : decode cX7_eachTakes 50 = .ok (.goto (-36), 3) := by decide +kernel
theorem dX7_eachTakes_53 : decode cX7_eachTakes 53 = .ok (.iinc 1 1, 3) := by decide +kernel
theorem dX7_eachTakes_56 : decode cX7_eachTakes 56 = .ok (.goto (-54), 3) := by decide +kernel
theorem dX7_eachTakes_59 : decode cX7_eachTakes 59 = .ok (.return_, 1) := by decide +kernel
theorem dX7_warm_0 : decode cX7_warm 0 = .ok (.iconst 0, 1) := by decide +kernel
theorem dX7_warm_1 : decode cX7_warm 1 = .ok (.istore_n 1, 1) := by decide +kernel
theorem dX7_warm_2 : decode cX7_warm 2 = .ok (.iconst 0, 1) := by decide +kernel
theorem dX7_warm_3 : decode cX7_warm 3 = .ok (.istore_n 2, 1) := by decide +kernel
theorem dX7_warm_4 : decode cX7_warm 4 = .ok (.iload_n 2, 1) := by decide +kernel
theorem dX7_warm_5 : decode cX7_warm 5 = .ok (.aload_n 0, 1) := by decide +kernel
theorem dX7_warm_6 : decode cX7_warm 6 = .ok (.getfield 13, 3) := by decide +kernel
theorem dX7_warm_9 : decode cX7_warm 9 = .ok (.iconst 1, 1) := by decide +kernel
theorem dX7_warm_10 : decode cX7_warm 10 = .ok (.iaload, 1) := by decide +kernel
theorem dX7_warm_11 : decode cX7_warm 11 = .ok (.if_icmp .ge 27, 3) := by decide +kernel
theorem dX7_warm_14 : decode cX7_warm 14 = .ok (.iload_n 1, 1) := by decide +kernel
theorem dX7_warm_15 : decode cX7_warm 15 = .ok (.aload_n 0, 1) := by decide +kernel
theorem dX7_warm_16 : decode cX7_warm 16 = .ok (.iload_n 2, 1) := by decide +kernel
theorem dX7_warm_17 : decode cX7_warm 17 = .ok (.invokevirtual 103, 3) := by decide +kernel
theorem dX7_warm_20 : decode cX7_warm 20 = .ok (.ifCond .eq 9, 3) := by decide +kernel
theorem dX7_warm_23 : decode cX7_warm 23 = .ok (.iconst 1, 1) := by decide +kernel
theorem dX7_warm_24 : decode cX7_warm 24 = .ok (.iload_n 2, 1) := by decide +kernel
theorem dX7_warm_25 : decode cX7_warm 25 = .ok (.ishl, 1) := by decide +kernel
theorem dX7_warm_26 : decode cX7_warm 26 = .ok (.goto 4, 3) := by decide +kernel
theorem dX7_warm_29 : decode cX7_warm 29 = .ok (.iconst 0, 1) := by decide +kernel
theorem dX7_warm_30 : decode cX7_warm 30 = .ok (.ior, 1) := by decide +kernel
theorem dX7_warm_31 : decode cX7_warm 31 = .ok (.istore_n 1, 1) := by decide +kernel
theorem dX7_warm_32 : decode cX7_warm 32 = .ok (.iinc 2 1, 3) := by decide +kernel
theorem dX7_warm_35 : decode cX7_warm 35 = .ok (.goto (-31), 3) := by decide +kernel
theorem dX7_warm_38 : decode cX7_warm 38 = .ok (.iload_n 1, 1) := by decide +kernel
theorem dX7_warm_39 : decode cX7_warm 39 = .ok (.ireturn, 1) := by decide +kernel
theorem dX7_warmAt_0 : decode cX7_warmAt 0 = .ok (.aload_n 0, 1) := by decide +kernel
theorem dX7_warmAt_1 : decode cX7_warmAt 1 = .ok (.getfield 22, 3) := by decide +kernel
theorem dX7_warmAt_4 : decode cX7_warmAt 4 = .ok (.bipush 28, 2) := by decide +kernel
theorem dX7_warmAt_6 : decode cX7_warmAt 6 = .ok (.iaload, 1) := by decide +kernel
theorem dX7_warmAt_7 : decode cX7_warmAt 7 = .ok (.iload_n 1, 1) := by decide +kernel
theorem dX7_warmAt_8 : decode cX7_warmAt 8 = .ok (.if_icmp .ge 14, 3) := by decide +kernel
theorem dX7_warmAt_11 : decode cX7_warmAt 11 = .ok (.aload_n 0, 1) := by decide +kernel
theorem dX7_warmAt_12 : decode cX7_warmAt 12 = .ok (.invokevirtual 123, 3) := by decide +kernel
theorem dX7_warmAt_15 : decode cX7_warmAt 15 = .ok (.aload_n 0, 1) := by decide +kernel
theorem dX7_warmAt_16 : decode cX7_warmAt 16 = .ok (.invokevirtual 120, 3) := by decide +kernel
theorem dX7_warmAt_19 : decode cX7_warmAt 19 = .ok (.goto (-19), 3) := by decide +kernel
theorem dX7_warmAt_22 : decode cX7_warmAt 22 = .ok (.aload_n 0, 1) := by decide +kernel
theorem dX7_warmAt_23 : decode cX7_warmAt 23 = .ok (.invokevirtual 123, 3) := by decide +kernel
theorem dX7_warmAt_26 : decode cX7_warmAt 26 = .ok (.aload_n 0, 1) := by decide +kernel
theorem dX7_warmAt_27 : decode cX7_warmAt 27 = .ok (.invokevirtual 126, 3) := by decide +kernel
theorem dX7_warmAt_30 : decode cX7_warmAt 30 = .ok (.ireturn, 1) := by decide +kernel
theorem dX7_warmBy_0 : decode cX7_warmBy 0 = .ok (.iload_n 1, 1) := by decide +kernel
theorem dX7_warmBy_1 : decode cX7_warmBy 1 = .ok (.aload_n 0, 1) := by decide +kernel
theorem dX7_warmBy_2 : decode cX7_warmBy 2 = .ok (.getfield 22, 3) := by decide +kernel
theorem dX7_warmBy_5 : decode cX7_warmBy 5 = .ok (.bipush 28, 2) := by decide +kernel
theorem dX7_warmBy_7 : decode cX7_warmBy 7 = .ok (.iaload, 1) := by decide +kernel
theorem dX7_warmBy_8 : decode cX7_warmBy 8 = .ok (.bipush 99, 2) := by decide +kernel
theorem dX7_warmBy_10 : decode cX7_warmBy 10 = .ok (.invokestatic 54, 3) := by decide +kernel
theorem dX7_warmBy_13 : decode cX7_warmBy 13 = .ok (.ifCond .ne 5, 3) := by decide +kernel
theorem dX7_warmBy_16 : decode cX7_warmBy 16 = .ok (.iconst (-1), 1) := by decide +kernel
theorem dX7_warmBy_17 : decode cX7_warmBy 17 = .ok (.ireturn, 1) := by decide +kernel
theorem dX7_warmBy_18 : decode cX7_warmBy 18 = .ok (.aload_n 0, 1) := by decide +kernel
theorem dX7_warmBy_19 : decode cX7_warmBy 19 = .ok (.invokevirtual 129, 3) := by decide +kernel
theorem dX7_warmBy_22 : decode cX7_warmBy 22 = .ok (.aload_n 0, 1) := by decide +kernel
theorem dX7_warmBy_23 : decode cX7_warmBy 23 = .ok (.iload_n 1, 1) := by decide +kernel
theorem dX7_warmBy_24 : decode cX7_warmBy 24 = .ok (.invokevirtual 132, 3) := by decide +kernel
theorem dX7_warmBy_27 : decode cX7_warmBy 27 = .ok (.istore_n 2, 1) := by decide +kernel
theorem dX7_warmBy_28 : decode cX7_warmBy 28 = .ok (.aload_n 0, 1) := by decide +kernel
theorem dX7_warmBy_29 : decode cX7_warmBy 29 = .ok (.invokevirtual 135, 3) := by decide +kernel
theorem dX7_warmBy_32 : decode cX7_warmBy 32 = .ok (.iload_n 2, 1) := by decide +kernel
theorem dX7_warmBy_33 : decode cX7_warmBy 33 = .ok (.ireturn, 1) := by decide +kernel
theorem dX7_allWarm_0 : decode cX7_allWarm 0 = .ok (.aload_n 0, 1) := by decide +kernel
theorem dX7_allWarm_1 : decode cX7_allWarm 1 = .ok (.invokevirtual 129, 3) := by decide +kernel
theorem dX7_allWarm_4 : decode cX7_allWarm 4 = .ok (.bipush (-4), 2) := by decide +kernel
theorem dX7_allWarm_6 : decode cX7_allWarm 6 = .ok (.istore_n 1, 1) := by decide +kernel
theorem dX7_allWarm_7 : decode cX7_allWarm 7 = .ok (.aload_n 0, 1) := by decide +kernel
theorem dX7_allWarm_8 : decode cX7_allWarm 8 = .ok (.getfield 22, 3) := by decide +kernel
theorem dX7_allWarm_11 : decode cX7_allWarm 11 = .ok (.bipush 28, 2) := by decide +kernel
theorem dX7_allWarm_13 : decode cX7_allWarm 13 = .ok (.iaload, 1) := by decide +kernel
theorem dX7_allWarm_14 : decode cX7_allWarm 14 = .ok (.bipush 99, 2) := by decide +kernel
theorem dX7_allWarm_16 : decode cX7_allWarm 16 = .ok (.if_icmp .gt 50, 3) := by decide +kernel
theorem dX7_allWarm_19 : decode cX7_allWarm 19 = .ok (.iload_n 1, 1) := by decide +kernel
theorem dX7_allWarm_20 : decode cX7_allWarm 20 = .ok (.bipush (-4), 2) := by decide +kernel
theorem dX7_allWarm_22 : decode cX7_allWarm 22 = .ok (.if_icmp .ne 44, 3) := by decide +kernel
theorem dX7_allWarm_25 : decode cX7_allWarm 25 = .ok (.aload_n 0, 1) := by decide +kernel
theorem dX7_allWarm_26 : decode cX7_allWarm 26 = .ok (.invokevirtual 123, 3) := by decide +kernel
theorem dX7_allWarm_29 : decode cX7_allWarm 29 = .ok (.aload_n 0, 1) := by decide +kernel
theorem dX7_allWarm_30 : decode cX7_allWarm 30 = .ok (.invokevirtual 126, 3) := by decide +kernel
theorem dX7_allWarm_33 : decode cX7_allWarm 33 = .ok (.iconst 1, 1) := by decide +kernel
theorem dX7_allWarm_34 : decode cX7_allWarm 34 = .ok (.aload_n 0, 1) := by decide +kernel
theorem dX7_allWarm_35 : decode cX7_allWarm 35 = .ok (.getfield 13, 3) := by decide +kernel
theorem dX7_allWarm_38 : decode cX7_allWarm 38 = .ok (.iconst 1, 1) := by decide +kernel
theorem dX7_allWarm_39 : decode cX7_allWarm 39 = .ok (.iaload, 1) := by decide +kernel
theorem dX7_allWarm_40 : decode cX7_allWarm 40 = .ok (.ishl, 1) := by decide +kernel
theorem dX7_allWarm_41 : decode cX7_allWarm 41 = .ok (.iconst 1, 1) := by decide +kernel
theorem dX7_allWarm_42 : decode cX7_allWarm 42 = .ok (.isub, 1) := by decide +kernel
theorem dX7_allWarm_43 : decode cX7_allWarm 43 = .ok (.if_icmp .ne 13, 3) := by decide +kernel
theorem dX7_allWarm_46 : decode cX7_allWarm 46 = .ok (.aload_n 0, 1) := by decide +kernel
theorem dX7_allWarm_47 : decode cX7_allWarm 47 = .ok (.getfield 22, 3) := by decide +kernel
theorem dX7_allWarm_50 : decode cX7_allWarm 50 = .ok (.bipush 28, 2) := by decide +kernel
theorem dX7_allWarm_52 : decode cX7_allWarm 52 = .ok (.iaload, 1) := by decide +kernel
theorem dX7_allWarm_53 : decode cX7_allWarm 53 = .ok (.goto 5, 3) := by decide +kernel
theorem dX7_allWarm_56 : decode cX7_allWarm 56 = .ok (.bipush (-4), 2) := by decide +kernel
theorem dX7_allWarm_58 : decode cX7_allWarm 58 = .ok (.istore_n 1, 1) := by decide +kernel
theorem dX7_allWarm_59 : decode cX7_allWarm 59 = .ok (.aload_n 0, 1) := by decide +kernel
theorem dX7_allWarm_60 : decode cX7_allWarm 60 = .ok (.invokevirtual 120, 3) := by decide +kernel
theorem dX7_allWarm_63 : decode cX7_allWarm 63 = .ok (.goto (-56), 3) := by decide +kernel
theorem dX7_allWarm_66 : decode cX7_allWarm 66 = .ok (.aload_n 0, 1) := by decide +kernel
theorem dX7_allWarm_67 : decode cX7_allWarm 67 = .ok (.invokevirtual 135, 3) := by decide +kernel
theorem dX7_allWarm_70 : decode cX7_allWarm 70 = .ok (.iload_n 1, 1) := by decide +kernel
theorem dX7_allWarm_71 : decode cX7_allWarm 71 = .ok (.ireturn, 1) := by decide +kernel
theorem dX7_share_0 : decode cX7_share 0 = .ok (.iload_n 1, 1) := by decide +kernel
theorem dX7_share_1 : decode cX7_share 1 = .ok (.iconst (-1), 1) := by decide +kernel
theorem dX7_share_2 : decode cX7_share 2 = .ok (.if_icmp .eq 13, 3) := by decide +kernel
theorem dX7_share_5 : decode cX7_share 5 = .ok (.aload_n 0, 1) := by decide +kernel
theorem dX7_share_6 : decode cX7_share 6 = .ok (.iload_n 1, 1) := by decide +kernel
theorem dX7_share_7 : decode cX7_share 7 = .ok (.invokevirtual 90, 3) := by decide +kernel
theorem dX7_share_10 : decode cX7_share 10 = .ok (.ifCond .ne 5, 3) := by decide +kernel
theorem dX7_share_13 : decode cX7_share 13 = .ok (.iconst (-1), 1) := by decide +kernel
theorem dX7_share_14 : decode cX7_share 14 = .ok (.ireturn, 1) := by decide +kernel
theorem dX7_share_15 : decode cX7_share 15 = .ok (.aload_n 0, 1) := by decide +kernel
theorem dX7_share_16 : decode cX7_share 16 = .ok (.getfield 13, 3) := by decide +kernel
theorem dX7_share_19 : decode cX7_share 19 = .ok (.iconst 0, 1) := by decide +kernel
theorem dX7_share_20 : decode cX7_share 20 = .ok (.iaload, 1) := by decide +kernel
theorem dX7_share_21 : decode cX7_share 21 = .ok (.istore_n 2, 1) := by decide +kernel
theorem dX7_share_22 : decode cX7_share 22 = .ok (.aload_n 0, 1) := by decide +kernel
theorem dX7_share_23 : decode cX7_share 23 = .ok (.getfield 13, 3) := by decide +kernel
theorem dX7_share_26 : decode cX7_share 26 = .ok (.iconst 1, 1) := by decide +kernel
theorem dX7_share_27 : decode cX7_share 27 = .ok (.iaload, 1) := by decide +kernel
theorem dX7_share_28 : decode cX7_share 28 = .ok (.istore_n 3, 1) := by decide +kernel
theorem dX7_share_29 : decode cX7_share 29 = .ok (.iconst 1, 1) := by decide +kernel
theorem dX7_share_30 : decode cX7_share 30 = .ok (.istore 4, 2) := by decide +kernel
theorem dX7_share_32 : decode cX7_share 32 = .ok (.iconst 0, 1) := by decide +kernel
theorem dX7_share_33 : decode cX7_share 33 = .ok (.istore 5, 2) := by decide +kernel
theorem dX7_share_35 : decode cX7_share 35 = .ok (.iload 5, 2) := by decide +kernel
theorem dX7_share_37 : decode cX7_share 37 = .ok (.iload_n 2, 1) := by decide +kernel
theorem dX7_share_38 : decode cX7_share 38 = .ok (.if_icmp .ge 17, 3) := by decide +kernel
theorem dX7_share_41 : decode cX7_share 41 = .ok (.iload 4, 2) := by decide +kernel
theorem dX7_share_43 : decode cX7_share 43 = .ok (.iload_n 3, 1) := by decide +kernel
theorem dX7_share_44 : decode cX7_share 44 = .ok (.iconst 1, 1) := by decide +kernel
theorem dX7_share_45 : decode cX7_share 45 = .ok (.iadd, 1) := by decide +kernel
theorem dX7_share_46 : decode cX7_share 46 = .ok (.imul, 1) := by decide +kernel
theorem dX7_share_47 : decode cX7_share 47 = .ok (.istore 4, 2) := by decide +kernel
theorem dX7_share_49 : decode cX7_share 49 = .ok (.iinc 5 1, 3) := by decide +kernel
theorem dX7_share_52 : decode cX7_share 52 = .ok (.goto (-17), 3) := by decide +kernel
theorem dX7_share_55 : decode cX7_share 55 = .ok (.iconst (-1), 1) := by decide +kernel
theorem dX7_share_56 : decode cX7_share 56 = .ok (.istore 5, 2) := by decide +kernel
theorem dX7_share_58 : decode cX7_share 58 = .ok (.bipush (-4), 2) := by decide +kernel
theorem dX7_share_60 : decode cX7_share 60 = .ok (.istore 6, 2) := by decide +kernel
theorem dX7_share_62 : decode cX7_share 62 = .ok (.iconst 0, 1) := by decide +kernel
theorem dX7_share_63 : decode cX7_share 63 = .ok (.istore 7, 2) := by decide +kernel
theorem dX7_share_65 : decode cX7_share 65 = .ok (.iload 7, 2) := by decide +kernel
theorem dX7_share_67 : decode cX7_share 67 = .ok (.iload 4, 2) := by decide +kernel
theorem dX7_share_69 : decode cX7_share 69 = .ok (.if_icmp .ge 226, 3) := by decide +kernel
theorem dX7_share_72 : decode cX7_share 72 = .ok (.iload 7, 2) := by decide +kernel
theorem dX7_share_74 : decode cX7_share 74 = .ok (.istore 8, 2) := by decide +kernel
theorem dX7_share_76 : decode cX7_share 76 = .ok (.iconst 0, 1) := by decide +kernel
theorem dX7_share_77 : decode cX7_share 77 = .ok (.istore 9, 2) := by decide +kernel
theorem dX7_share_79 : decode cX7_share 79 = .ok (.iconst 1, 1) := by decide +kernel
theorem dX7_share_80 : decode cX7_share 80 = .ok (.istore 10, 2) := by decide +kernel
theorem dX7_share_82 : decode cX7_share 82 = .ok (.iconst 0, 1) := by decide +kernel
theorem dX7_share_83 : decode cX7_share 83 = .ok (.istore 11, 2) := by decide +kernel
theorem dX7_share_85 : decode cX7_share 85 = .ok (.iload 11, 2) := by decide +kernel
theorem dX7_share_87 : decode cX7_share 87 = .ok (.iload_n 3, 1) := by decide +kernel
theorem dX7_share_88 : decode cX7_share 88 = .ok (.if_icmp .ge 26, 3) := by decide +kernel
theorem dX7_share_91 : decode cX7_share 91 = .ok (.aload_n 0, 1) := by decide +kernel
theorem dX7_share_92 : decode cX7_share 92 = .ok (.getfield 34, 3) := by decide +kernel
theorem dX7_share_95 : decode cX7_share 95 = .ok (.iload 11, 2) := by decide +kernel
theorem dX7_share_97 : decode cX7_share 97 = .ok (.aload_n 0, 1) := by decide +kernel
theorem dX7_share_98 : decode cX7_share 98 = .ok (.getfield 22, 3) := by decide +kernel
theorem dX7_share_101 : decode cX7_share 101 = .ok (.bipush 24, 2) := by decide +kernel
theorem dX7_share_103 : decode cX7_share 103 = .ok (.iload 11, 2) := by decide +kernel
theorem dX7_share_105 : decode cX7_share 105 = .ok (.iadd, 1) := by decide +kernel
theorem dX7_share_106 : decode cX7_share 106 = .ok (.iaload, 1) := by decide +kernel
theorem dX7_share_107 : decode cX7_share 107 = .ok (.iastore, 1) := by decide +kernel
theorem dX7_share_108 : decode cX7_share 108 = .ok (.iinc 11 1, 3) := by decide +kernel
theorem dX7_share_111 : decode cX7_share 111 = .ok (.goto (-26), 3) := by decide +kernel
theorem dX7_share_114 : decode cX7_share 114 = .ok (.iload_n 2, 1) := by decide +kernel
theorem dX7_share_115 : decode cX7_share 115 = .ok (.iconst 1, 1) := by decide +kernel
theorem dX7_share_116 : decode cX7_share 116 = .ok (.isub, 1) := by decide +kernel
theorem dX7_share_117 : decode cX7_share 117 = .ok (.istore 11, 2) := by decide +kernel
theorem dX7_share_119 : decode cX7_share 119 = .ok (.iload 11, 2) := by decide +kernel
theorem dX7_share_121 : decode cX7_share 121 = .ok (.ifCond .lt 125, 3) := by decide +kernel
theorem dX7_share_124 : decode cX7_share 124 = .ok (.iload 10, 2) := by decide +kernel
theorem dX7_share_126 : decode cX7_share 126 = .ok (.ifCond .eq 120, 3) := by decide +kernel
theorem dX7_share_129 : decode cX7_share 129 = .ok (.iload 8, 2) := by decide +kernel
theorem dX7_share_131 : decode cX7_share 131 = .ok (.iload_n 3, 1) := by decide +kernel
theorem dX7_share_132 : decode cX7_share 132 = .ok (.iconst 1, 1) := by decide +kernel
theorem dX7_share_133 : decode cX7_share 133 = .ok (.iadd, 1) := by decide +kernel
theorem dX7_share_134 : decode cX7_share 134 = .ok (.irem, 1) := by decide +kernel
theorem dX7_share_135 : decode cX7_share 135 = .ok (.istore 12, 2) := by decide +kernel
theorem dX7_share_137 : decode cX7_share 137 = .ok (.iload 8, 2) := by decide +kernel
theorem dX7_share_139 : decode cX7_share 139 = .ok (.iload_n 3, 1) := by decide +kernel
theorem dX7_share_140 : decode cX7_share 140 = .ok (.iconst 1, 1) := by decide +kernel
theorem dX7_share_141 : decode cX7_share 141 = .ok (.iadd, 1) := by decide +kernel
theorem dX7_share_142 : decode cX7_share 142 = .ok (.idiv, 1) := by decide +kernel
theorem dX7_share_143 : decode cX7_share 143 = .ok (.istore 8, 2) := by decide +kernel
theorem dX7_share_145 : decode cX7_share 145 = .ok (.aload_n 0, 1) := by decide +kernel
theorem dX7_share_146 : decode cX7_share 146 = .ok (.getfield 37, 3) := by decide +kernel
theorem dX7_share_149 : decode cX7_share 149 = .ok (.iload 11, 2) := by decide +kernel
theorem dX7_share_151 : decode cX7_share 151 = .ok (.iload 12, 2) := by decide +kernel
theorem dX7_share_153 : decode cX7_share 153 = .ok (.iastore, 1) := by decide +kernel
theorem dX7_share_154 : decode cX7_share 154 = .ok (.iload 12, 2) := by decide +kernel
theorem dX7_share_156 : decode cX7_share 156 = .ok (.iload_n 3, 1) := by decide +kernel
theorem dX7_share_157 : decode cX7_share 157 = .ok (.if_icmp .ge 83, 3) := by decide +kernel
theorem dX7_share_160 : decode cX7_share 160 = .ok (.aload_n 0, 1) := by decide +kernel
theorem dX7_share_161 : decode cX7_share 161 = .ok (.getfield 22, 3) := by decide +kernel
theorem dX7_share_164 : decode cX7_share 164 = .ok (.bipush 8, 2) := by decide +kernel
theorem dX7_share_166 : decode cX7_share 166 = .ok (.iload 11, 2) := by decide +kernel
theorem dX7_share_168 : decode cX7_share 168 = .ok (.iadd, 1) := by decide +kernel
theorem dX7_share_169 : decode cX7_share 169 = .ok (.iaload, 1) := by decide +kernel
theorem dX7_share_170 : decode cX7_share 170 = .ok (.ifCond .ne 32, 3) := by decide +kernel
theorem dX7_share_173 : decode cX7_share 173 = .ok (.aload_n 0, 1) := by decide +kernel
theorem dX7_share_174 : decode cX7_share 174 = .ok (.iload 12, 2) := by decide +kernel
theorem dX7_share_176 : decode cX7_share 176 = .ok (.iload 11, 2) := by decide +kernel
theorem dX7_share_178 : decode cX7_share 178 = .ok (.aload_n 0, 1) := by decide +kernel
theorem dX7_share_179 : decode cX7_share 179 = .ok (.getfield 22, 3) := by decide +kernel
theorem dX7_share_182 : decode cX7_share 182 = .ok (.bipush 28, 2) := by decide +kernel
theorem dX7_share_184 : decode cX7_share 184 = .ok (.iaload, 1) := by decide +kernel
theorem dX7_share_185 : decode cX7_share 185 = .ok (.aload_n 0, 1) := by decide +kernel
theorem dX7_share_186 : decode cX7_share 186 = .ok (.getfield 34, 3) := by decide +kernel
theorem dX7_share_189 : decode cX7_share 189 = .ok (.iload 12, 2) := by decide +kernel
theorem dX7_share_191 : decode cX7_share 191 = .ok (.iaload, 1) := by decide +kernel
theorem dX7_share_192 : decode cX7_share 192 = .ok (.invokevirtual 106, 3) := by decide +kernel
theorem dX7_share_195 : decode cX7_share 195 = .ok (.ifCond .eq 7, 3) := by decide +kernel
theorem dX7_share_198 : decode cX7_share 198 = .ok (.iconst 1, 1) := by decide +kernel
theorem dX7_share_199 : decode cX7_share 199 = .ok (.goto 4, 3) := by decide +kernel
theorem dX7_share_202 : decode cX7_share 202 = .ok (.iconst 0, 1) := by decide +kernel
theorem dX7_share_203 : decode cX7_share 203 = .ok (.istore 10, 2) := by decide +kernel
theorem dX7_share_205 : decode cX7_share 205 = .ok (.aload_n 0, 1) := by decide +kernel
theorem dX7_share_206 : decode cX7_share 206 = .ok (.getfield 34, 3) := by decide +kernel
theorem dX7_share_209 : decode cX7_share 209 = .ok (.iload 12, 2) := by decide +kernel
theorem dX7_share_211 : decode cX7_share 211 = .ok (.dup2, 1) := by decide +kernel
theorem dX7_share_212 : decode cX7_share 212 = .ok (.iaload, 1) := by decide +kernel
theorem dX7_share_213 : decode cX7_share 213 = .ok (.aload_n 0, 1) := by decide +kernel
theorem dX7_share_214 : decode cX7_share 214 = .ok (.getfield 13, 3) := by decide +kernel
theorem dX7_share_217 : decode cX7_share 217 = .ok (.bipush 21, 2) := by decide +kernel
theorem dX7_share_219 : decode cX7_share 219 = .ok (.iload 11, 2) := by decide +kernel
theorem dX7_share_221 : decode cX7_share 221 = .ok (.iadd, 1) := by decide +kernel
theorem dX7_share_222 : decode cX7_share 222 = .ok (.iaload, 1) := by decide +kernel
theorem dX7_share_223 : decode cX7_share 223 = .ok (.iadd, 1) := by decide +kernel
theorem dX7_share_224 : decode cX7_share 224 = .ok (.iastore, 1) := by decide +kernel
theorem dX7_share_225 : decode cX7_share 225 = .ok (.iload 9, 2) := by decide +kernel
theorem dX7_share_227 : decode cX7_share 227 = .ok (.aload_n 0, 1) := by decide +kernel
theorem dX7_share_228 : decode cX7_share 228 = .ok (.getfield 13, 3) := by decide +kernel
theorem dX7_share_231 : decode cX7_share 231 = .ok (.bipush 21, 2) := by decide +kernel
theorem dX7_share_233 : decode cX7_share 233 = .ok (.iload 11, 2) := by decide +kernel
theorem dX7_share_235 : decode cX7_share 235 = .ok (.iadd, 1) := by decide +kernel
theorem dX7_share_236 : decode cX7_share 236 = .ok (.iaload, 1) := by decide +kernel
theorem dX7_share_237 : decode cX7_share 237 = .ok (.iadd, 1) := by decide +kernel
theorem dX7_share_238 : decode cX7_share 238 = .ok (.istore 9, 2) := by decide +kernel
theorem dX7_share_240 : decode cX7_share 240 = .ok (.iinc 11 (-1), 3) := by decide +kernel
theorem dX7_share_243 : decode cX7_share 243 = .ok (.goto (-124), 3) := by decide +kernel
theorem dX7_share_246 : decode cX7_share 246 = .ok (.iload 10, 2) := by decide +kernel
theorem dX7_share_248 : decode cX7_share 248 = .ok (.ifCond .eq 41, 3) := by decide +kernel
theorem dX7_share_251 : decode cX7_share 251 = .ok (.iload 9, 2) := by decide +kernel
theorem dX7_share_253 : decode cX7_share 253 = .ok (.iload 5, 2) := by decide +kernel
theorem dX7_share_255 : decode cX7_share 255 = .ok (.if_icmp .le 34, 3) := by decide +kernel
theorem dX7_share_258 : decode cX7_share 258 = .ok (.iload 9, 2) := by decide +kernel
theorem dX7_share_260 : decode cX7_share 260 = .ok (.istore 5, 2) := by decide +kernel
theorem dX7_share_262 : decode cX7_share 262 = .ok (.iload_n 1, 1) := by decide +kernel
theorem dX7_share_263 : decode cX7_share 263 = .ok (.ifCond .lt 13, 3) := by decide +kernel
theorem dX7_share_266 : decode cX7_share 266 = .ok (.aload_n 0, 1) := by decide +kernel
theorem dX7_share_267 : decode cX7_share 267 = .ok (.getfield 37, 3) := by decide +kernel
theorem dX7_share_270 : decode cX7_share 270 = .ok (.iload_n 1, 1) := by decide +kernel
theorem dX7_share_271 : decode cX7_share 271 = .ok (.iaload, 1) := by decide +kernel
theorem dX7_share_272 : decode cX7_share 272 = .ok (.iload_n 3, 1) := by decide +kernel
theorem dX7_share_273 : decode cX7_share 273 = .ok (.if_icmp .ne 8, 3) := by decide +kernel
theorem dX7_share_276 : decode cX7_share 276 = .ok (.bipush (-4), 2) := by decide +kernel
theorem dX7_share_278 : decode cX7_share 278 = .ok (.goto 9, 3) := by decide +kernel
theorem dX7_share_281 : decode cX7_share 281 = .ok (.aload_n 0, 1) := by decide +kernel
theorem dX7_share_282 : decode cX7_share 282 = .ok (.getfield 37, 3) := by decide +kernel
theorem dX7_share_285 : decode cX7_share 285 = .ok (.iload_n 1, 1) := by decide +kernel
theorem dX7_share_286 : decode cX7_share 286 = .ok (.iaload, 1) := by decide +kernel
theorem dX7_share_287 : decode cX7_share 287 = .ok (.istore 6, 2) := by decide +kernel
theorem dX7_share_289 : decode cX7_share 289 = .ok (.iinc 7 1, 3) := by decide +kernel
theorem dX7_share_292 : decode cX7_share 292 = .ok (.goto (-227), 3) := by decide +kernel
theorem dX7_share_295 : decode cX7_share 295 = .ok (.iload_n 1, 1) := by decide +kernel
theorem dX7_share_296 : decode cX7_share 296 = .ok (.ifCond .ge 8, 3) := by decide +kernel
theorem dX7_share_299 : decode cX7_share 299 = .ok (.iload 5, 2) := by decide +kernel
theorem dX7_share_301 : decode cX7_share 301 = .ok (.goto 5, 3) := by decide +kernel
theorem dX7_share_304 : decode cX7_share 304 = .ok (.iload 6, 2) := by decide +kernel
theorem dX7_share_306 : decode cX7_share 306 = .ok (.ireturn, 1) := by decide +kernel
theorem dX7_leastHook_0 : decode cX7_leastHook 0 = .ok (.aload_n 0, 1) := by decide +kernel
theorem dX7_leastHook_1 : decode cX7_leastHook 1 = .ok (.iload_n 1, 1) := by decide +kernel
theorem dX7_leastHook_2 : decode cX7_leastHook 2 = .ok (.invokevirtual 100, 3) := by decide +kernel
theorem dX7_leastHook_5 : decode cX7_leastHook 5 = .ok (.ifCond .ne 5, 3) := by decide +kernel
theorem dX7_leastHook_8 : decode cX7_leastHook 8 = .ok (.iconst (-1), 1) := by decide +kernel
theorem dX7_leastHook_9 : decode cX7_leastHook 9 = .ok (.ireturn, 1) := by decide +kernel
theorem dX7_leastHook_10 : decode cX7_leastHook 10 = .ok (.aload_n 0, 1) := by decide +kernel
theorem dX7_leastHook_11 : decode cX7_leastHook 11 = .ok (.invokevirtual 129, 3) := by decide +kernel
theorem dX7_leastHook_14 : decode cX7_leastHook 14 = .ok (.bipush (-4), 2) := by decide +kernel
theorem dX7_leastHook_16 : decode cX7_leastHook 16 = .ok (.istore_n 2, 1) := by decide +kernel
theorem dX7_leastHook_17 : decode cX7_leastHook 17 = .ok (.bipush 20, 2) := by decide +kernel
theorem dX7_leastHook_19 : decode cX7_leastHook 19 = .ok (.istore_n 3, 1) := by decide +kernel
theorem dX7_leastHook_20 : decode cX7_leastHook 20 = .ok (.iload_n 3, 1) := by decide +kernel
theorem dX7_leastHook_21 : decode cX7_leastHook 21 = .ok (.ifCond .le 43, 3) := by decide +kernel
theorem dX7_leastHook_24 : decode cX7_leastHook 24 = .ok (.aload_n 0, 1) := by decide +kernel
theorem dX7_leastHook_25 : decode cX7_leastHook 25 = .ok (.getfield 22, 3) := by decide +kernel
theorem dX7_leastHook_28 : decode cX7_leastHook 28 = .ok (.bipush 16, 2) := by decide +kernel
theorem dX7_leastHook_30 : decode cX7_leastHook 30 = .ok (.iload_n 1, 1) := by decide +kernel
theorem dX7_leastHook_31 : decode cX7_leastHook 31 = .ok (.iadd, 1) := by decide +kernel
theorem dX7_leastHook_32 : decode cX7_leastHook 32 = .ok (.iload_n 3, 1) := by decide +kernel
theorem dX7_leastHook_33 : decode cX7_leastHook 33 = .ok (.iastore, 1) := by decide +kernel
theorem dX7_leastHook_34 : decode cX7_leastHook 34 = .ok (.aload_n 0, 1) := by decide +kernel
theorem dX7_leastHook_35 : decode cX7_leastHook 35 = .ok (.bipush 99, 2) := by decide +kernel
theorem dX7_leastHook_37 : decode cX7_leastHook 37 = .ok (.invokevirtual 132, 3) := by decide +kernel
theorem dX7_leastHook_40 : decode cX7_leastHook 40 = .ok (.iload_n 1, 1) := by decide +kernel
theorem dX7_leastHook_41 : decode cX7_leastHook 41 = .ok (.ishr, 1) := by decide +kernel
theorem dX7_leastHook_42 : decode cX7_leastHook 42 = .ok (.iconst 1, 1) := by decide +kernel
theorem dX7_leastHook_43 : decode cX7_leastHook 43 = .ok (.iand, 1) := by decide +kernel
theorem dX7_leastHook_44 : decode cX7_leastHook 44 = .ok (.iconst 1, 1) := by decide +kernel
theorem dX7_leastHook_45 : decode cX7_leastHook 45 = .ok (.if_icmp .ne 7, 3) := by decide +kernel
theorem dX7_leastHook_48 : decode cX7_leastHook 48 = .ok (.iload_n 3, 1) := by decide +kernel
theorem dX7_leastHook_49 : decode cX7_leastHook 49 = .ok (.goto 4, 3) := by decide +kernel
theorem dX7_leastHook_52 : decode cX7_leastHook 52 = .ok (.iload_n 2, 1) := by decide +kernel
theorem dX7_leastHook_53 : decode cX7_leastHook 53 = .ok (.istore_n 2, 1) := by decide +kernel
theorem dX7_leastHook_54 : decode cX7_leastHook 54 = .ok (.aload_n 0, 1) := by decide +kernel
theorem dX7_leastHook_55 : decode cX7_leastHook 55 = .ok (.invokevirtual 135, 3) := by decide +kernel
theorem dX7_leastHook_58 : decode cX7_leastHook 58 = .ok (.iinc 3 (-1), 3) := by decide +kernel
theorem dX7_leastHook_61 : decode cX7_leastHook 61 = .ok (.goto (-41), 3) := by decide +kernel
theorem dX7_leastHook_64 : decode cX7_leastHook 64 = .ok (.iload_n 2, 1) := by decide +kernel
theorem dX7_leastHook_65 : decode cX7_leastHook 65 = .ok (.ireturn, 1) := by decide +kernel
theorem dX7_pole_0 : decode cX7_pole 0 = .ok (.aload_n 0, 1) := by decide +kernel
theorem dX7_pole_1 : decode cX7_pole 1 = .ok (.invokevirtual 129, 3) := by decide +kernel
theorem dX7_pole_4 : decode cX7_pole 4 = .ok (.bipush (-4), 2) := by decide +kernel
theorem dX7_pole_6 : decode cX7_pole 6 = .ok (.istore_n 1, 1) := by decide +kernel
theorem dX7_pole_7 : decode cX7_pole 7 = .ok (.bipush 20, 2) := by decide +kernel
theorem dX7_pole_9 : decode cX7_pole 9 = .ok (.istore_n 2, 1) := by decide +kernel
theorem dX7_pole_10 : decode cX7_pole 10 = .ok (.iload_n 2, 1) := by decide +kernel
theorem dX7_pole_11 : decode cX7_pole 11 = .ok (.ifCond .le 86, 3) := by decide +kernel
theorem dX7_pole_14 : decode cX7_pole 14 = .ok (.iconst 0, 1) := by decide +kernel
theorem dX7_pole_15 : decode cX7_pole 15 = .ok (.istore_n 3, 1) := by decide +kernel
theorem dX7_pole_16 : decode cX7_pole 16 = .ok (.iload_n 3, 1) := by decide +kernel
theorem dX7_pole_17 : decode cX7_pole 17 = .ok (.iconst 4, 1) := by decide +kernel
theorem dX7_pole_18 : decode cX7_pole 18 = .ok (.if_icmp .ge 44, 3) := by decide +kernel
theorem dX7_pole_21 : decode cX7_pole 21 = .ok (.aload_n 0, 1) := by decide +kernel
theorem dX7_pole_22 : decode cX7_pole 22 = .ok (.getfield 22, 3) := by decide +kernel
theorem dX7_pole_25 : decode cX7_pole 25 = .ok (.bipush 16, 2) := by decide +kernel
theorem dX7_pole_27 : decode cX7_pole 27 = .ok (.iload_n 3, 1) := by decide +kernel
theorem dX7_pole_28 : decode cX7_pole 28 = .ok (.iadd, 1) := by decide +kernel
theorem dX7_pole_29 : decode cX7_pole 29 = .ok (.aload_n 0, 1) := by decide +kernel
theorem dX7_pole_30 : decode cX7_pole 30 = .ok (.getfield 22, 3) := by decide +kernel
theorem dX7_pole_33 : decode cX7_pole 33 = .ok (.bipush 16, 2) := by decide +kernel
theorem dX7_pole_35 : decode cX7_pole 35 = .ok (.iload_n 3, 1) := by decide +kernel
theorem dX7_pole_36 : decode cX7_pole 36 = .ok (.iadd, 1) := by decide +kernel
theorem dX7_pole_37 : decode cX7_pole 37 = .ok (.iaload, 1) := by decide +kernel
theorem dX7_pole_38 : decode cX7_pole 38 = .ok (.iload_n 2, 1) := by decide +kernel
theorem dX7_pole_39 : decode cX7_pole 39 = .ok (.if_icmp .le 7, 3) := by decide +kernel
theorem dX7_pole_42 : decode cX7_pole 42 = .ok (.iload_n 2, 1) := by decide +kernel
theorem dX7_pole_43 : decode cX7_pole 43 = .ok (.goto 12, 3) := by decide +kernel
theorem dX7_pole_46 : decode cX7_pole 46 = .ok (.aload_n 0, 1) := by decide +kernel
theorem dX7_pole_47 : decode cX7_pole 47 = .ok (.getfield 22, 3) := by decide +kernel
theorem dX7_pole_50 : decode cX7_pole 50 = .ok (.bipush 16, 2) := by decide +kernel
theorem dX7_pole_52 : decode cX7_pole 52 = .ok (.iload_n 3, 1) := by decide +kernel
theorem dX7_pole_53 : decode cX7_pole 53 = .ok (.iadd, 1) := by decide +kernel
theorem dX7_pole_54 : decode cX7_pole 54 = .ok (.iaload, 1) := by decide +kernel
theorem dX7_pole_55 : decode cX7_pole 55 = .ok (.iastore, 1) := by decide +kernel
theorem dX7_pole_56 : decode cX7_pole 56 = .ok (.iinc 3 1, 3) := by decide +kernel
theorem dX7_pole_59 : decode cX7_pole 59 = .ok (.goto (-43), 3) := by decide +kernel
theorem dX7_pole_62 : decode cX7_pole 62 = .ok (.aload_n 0, 1) := by decide +kernel
theorem dX7_pole_63 : decode cX7_pole 63 = .ok (.bipush 99, 2) := by decide +kernel
theorem dX7_pole_65 : decode cX7_pole 65 = .ok (.invokevirtual 132, 3) := by decide +kernel
theorem dX7_pole_68 : decode cX7_pole 68 = .ok (.iconst 1, 1) := by decide +kernel
theorem dX7_pole_69 : decode cX7_pole 69 = .ok (.aload_n 0, 1) := by decide +kernel
theorem dX7_pole_70 : decode cX7_pole 70 = .ok (.getfield 13, 3) := by decide +kernel
theorem dX7_pole_73 : decode cX7_pole 73 = .ok (.iconst 1, 1) := by decide +kernel
theorem dX7_pole_74 : decode cX7_pole 74 = .ok (.iaload, 1) := by decide +kernel
theorem dX7_pole_75 : decode cX7_pole 75 = .ok (.ishl, 1) := by decide +kernel
theorem dX7_pole_76 : decode cX7_pole 76 = .ok (.iconst 1, 1) := by decide +kernel
theorem dX7_pole_77 : decode cX7_pole 77 = .ok (.isub, 1) := by decide +kernel
theorem dX7_pole_78 : decode cX7_pole 78 = .ok (.if_icmp .ne 7, 3) := by decide +kernel
theorem dX7_pole_81 : decode cX7_pole 81 = .ok (.iload_n 2, 1) := by decide +kernel
theorem dX7_pole_82 : decode cX7_pole 82 = .ok (.goto 4, 3) := by decide +kernel
theorem dX7_pole_85 : decode cX7_pole 85 = .ok (.iload_n 1, 1) := by decide +kernel
theorem dX7_pole_86 : decode cX7_pole 86 = .ok (.istore_n 1, 1) := by decide +kernel
theorem dX7_pole_87 : decode cX7_pole 87 = .ok (.aload_n 0, 1) := by decide +kernel
theorem dX7_pole_88 : decode cX7_pole 88 = .ok (.invokevirtual 135, 3) := by decide +kernel
theorem dX7_pole_91 : decode cX7_pole 91 = .ok (.iinc 2 (-1), 3) := by decide +kernel
theorem dX7_pole_94 : decode cX7_pole 94 = .ok (.goto (-84), 3) := by decide +kernel
theorem dX7_pole_97 : decode cX7_pole 97 = .ok (.iload_n 1, 1) := by decide +kernel
theorem dX7_pole_98 : decode cX7_pole 98 = .ok (.ireturn, 1) := by decide +kernel
theorem dX7_firstOf_0 : decode cX7_firstOf 0 = .ok (.bipush (-4), 2) := by decide +kernel
theorem dX7_firstOf_2 : decode cX7_firstOf 2 = .ok (.istore_n 3, 1) := by decide +kernel
theorem dX7_firstOf_3 : decode cX7_firstOf 3 = .ok (.bipush 99, 2) := by decide +kernel
theorem dX7_firstOf_5 : decode cX7_firstOf 5 = .ok (.istore 4, 2) := by decide +kernel
theorem dX7_firstOf_7 : decode cX7_firstOf 7 = .ok (.iload 4, 2) := by decide +kernel
theorem dX7_firstOf_9 : decode cX7_firstOf 9 = .ok (.aload_n 0, 1) := by decide +kernel
theorem dX7_firstOf_10 : decode cX7_firstOf 10 = .ok (.getfield 22, 3) := by decide +kernel
theorem dX7_firstOf_13 : decode cX7_firstOf 13 = .ok (.bipush 28, 2) := by decide +kernel
theorem dX7_firstOf_15 : decode cX7_firstOf 15 = .ok (.iaload, 1) := by decide +kernel
theorem dX7_firstOf_16 : decode cX7_firstOf 16 = .ok (.if_icmp .lt 40, 3) := by decide +kernel
theorem dX7_firstOf_19 : decode cX7_firstOf 19 = .ok (.aload_n 0, 1) := by decide +kernel
theorem dX7_firstOf_20 : decode cX7_firstOf 20 = .ok (.getfield 22, 3) := by decide +kernel
theorem dX7_firstOf_23 : decode cX7_firstOf 23 = .ok (.bipush 8, 2) := by decide +kernel
theorem dX7_firstOf_25 : decode cX7_firstOf 25 = .ok (.iload_n 2, 1) := by decide +kernel
theorem dX7_firstOf_26 : decode cX7_firstOf 26 = .ok (.iadd, 1) := by decide +kernel
theorem dX7_firstOf_27 : decode cX7_firstOf 27 = .ok (.iaload, 1) := by decide +kernel
theorem dX7_firstOf_28 : decode cX7_firstOf 28 = .ok (.ifCond .ne 20, 3) := by decide +kernel
theorem dX7_firstOf_31 : decode cX7_firstOf 31 = .ok (.aload_n 0, 1) := by decide +kernel
theorem dX7_firstOf_32 : decode cX7_firstOf 32 = .ok (.iload_n 1, 1) := by decide +kernel
theorem dX7_firstOf_33 : decode cX7_firstOf 33 = .ok (.iload_n 2, 1) := by decide +kernel
theorem dX7_firstOf_34 : decode cX7_firstOf 34 = .ok (.iload 4, 2) := by decide +kernel
theorem dX7_firstOf_36 : decode cX7_firstOf 36 = .ok (.iconst 0, 1) := by decide +kernel
theorem dX7_firstOf_37 : decode cX7_firstOf 37 = .ok (.invokevirtual 106, 3) := by decide +kernel
theorem dX7_firstOf_40 : decode cX7_firstOf 40 = .ok (.ifCond .eq 8, 3) := by decide +kernel
theorem dX7_firstOf_43 : decode cX7_firstOf 43 = .ok (.iload 4, 2) := by decide +kernel
theorem dX7_firstOf_45 : decode cX7_firstOf 45 = .ok (.goto 4, 3) := by decide +kernel
theorem dX7_firstOf_48 : decode cX7_firstOf 48 = .ok (.iload_n 3, 1) := by decide +kernel
theorem dX7_firstOf_49 : decode cX7_firstOf 49 = .ok (.istore_n 3, 1) := by decide +kernel
theorem dX7_firstOf_50 : decode cX7_firstOf 50 = .ok (.iinc 4 (-1), 3) := by decide +kernel
theorem dX7_firstOf_53 : decode cX7_firstOf 53 = .ok (.goto (-46), 3) := by decide +kernel
theorem dX7_firstOf_56 : decode cX7_firstOf 56 = .ok (.iload_n 3, 1) := by decide +kernel
theorem dX7_firstOf_57 : decode cX7_firstOf 57 = .ok (.ireturn, 1) := by decide +kernel
theorem dX7_firstDay_0 : decode cX7_firstDay 0 = .ok (.aload_n 0, 1) := by decide +kernel
theorem dX7_firstDay_1 : decode cX7_firstDay 1 = .ok (.iload_n 1, 1) := by decide +kernel
theorem dX7_firstDay_2 : decode cX7_firstDay 2 = .ok (.invokevirtual 100, 3) := by decide +kernel
theorem dX7_firstDay_5 : decode cX7_firstDay 5 = .ok (.ifCond .eq 20, 3) := by decide +kernel
theorem dX7_firstDay_8 : decode cX7_firstDay 8 = .ok (.aload_n 0, 1) := by decide +kernel
theorem dX7_firstDay_9 : decode cX7_firstDay 9 = .ok (.iload_n 2, 1) := by decide +kernel
theorem dX7_firstDay_10 : decode cX7_firstDay 10 = .ok (.invokevirtual 90, 3) := by decide +kernel
theorem dX7_firstDay_13 : decode cX7_firstDay 13 = .ok (.ifCond .eq 12, 3) := by decide +kernel
theorem dX7_firstDay_16 : decode cX7_firstDay 16 = .ok (.aload_n 0, 1) := by decide +kernel
theorem dX7_firstDay_17 : decode cX7_firstDay 17 = .ok (.iload_n 1, 1) := by decide +kernel
theorem dX7_firstDay_18 : decode cX7_firstDay 18 = .ok (.iload_n 2, 1) := by decide +kernel
theorem dX7_firstDay_19 : decode cX7_firstDay 19 = .ok (.invokevirtual 138, 3) := by decide +kernel
theorem dX7_firstDay_22 : decode cX7_firstDay 22 = .ok (.goto 4, 3) := by decide +kernel
theorem dX7_firstDay_25 : decode cX7_firstDay 25 = .ok (.iconst (-1), 1) := by decide +kernel
theorem dX7_firstDay_26 : decode cX7_firstDay 26 = .ok (.ireturn, 1) := by decide +kernel
theorem dX7_sticks_0 : decode cX7_sticks 0 = .ok (.iload_n 1, 1) := by decide +kernel
theorem dX7_sticks_1 : decode cX7_sticks 1 = .ok (.iconst 0, 1) := by decide +kernel
theorem dX7_sticks_2 : decode cX7_sticks 2 = .ok (.bipush 99, 2) := by decide +kernel
theorem dX7_sticks_4 : decode cX7_sticks 4 = .ok (.invokestatic 54, 3) := by decide +kernel
theorem dX7_sticks_7 : decode cX7_sticks 7 = .ok (.ifCond .eq 12, 3) := by decide +kernel
theorem dX7_sticks_10 : decode cX7_sticks 10 = .ok (.iload_n 2, 1) := by decide +kernel
theorem dX7_sticks_11 : decode cX7_sticks 11 = .ok (.iconst 0, 1) := by decide +kernel
theorem dX7_sticks_12 : decode cX7_sticks 12 = .ok (.iconst 1, 1) := by decide +kernel
theorem dX7_sticks_13 : decode cX7_sticks 13 = .ok (.invokestatic 54, 3) := by decide +kernel
theorem dX7_sticks_16 : decode cX7_sticks 16 = .ok (.ifCond .ne 5, 3) := by decide +kernel
theorem dX7_sticks_19 : decode cX7_sticks 19 = .ok (.iconst (-1), 1) := by decide +kernel
theorem dX7_sticks_20 : decode cX7_sticks 20 = .ok (.ireturn, 1) := by decide +kernel
theorem dX7_sticks_21 : decode cX7_sticks 21 = .ok (.iconst 0, 1) := by decide +kernel
theorem dX7_sticks_22 : decode cX7_sticks 22 = .ok (.istore_n 3, 1) := by decide +kernel
theorem dX7_sticks_23 : decode cX7_sticks 23 = .ok (.bipush (-4), 2) := by decide +kernel
theorem dX7_sticks_25 : decode cX7_sticks 25 = .ok (.istore 4, 2) := by decide +kernel
theorem dX7_sticks_27 : decode cX7_sticks 27 = .ok (.iconst 1, 1) := by decide +kernel
theorem dX7_sticks_28 : decode cX7_sticks 28 = .ok (.aload_n 0, 1) := by decide +kernel
theorem dX7_sticks_29 : decode cX7_sticks 29 = .ok (.getfield 13, 3) := by decide +kernel
theorem dX7_sticks_32 : decode cX7_sticks 32 = .ok (.iconst 0, 1) := by decide +kernel
theorem dX7_sticks_33 : decode cX7_sticks 33 = .ok (.iaload, 1) := by decide +kernel
theorem dX7_sticks_34 : decode cX7_sticks 34 = .ok (.ishl, 1) := by decide +kernel
theorem dX7_sticks_35 : decode cX7_sticks 35 = .ok (.iconst 1, 1) := by decide +kernel
theorem dX7_sticks_36 : decode cX7_sticks 36 = .ok (.isub, 1) := by decide +kernel
theorem dX7_sticks_37 : decode cX7_sticks 37 = .ok (.istore 5, 2) := by decide +kernel
theorem dX7_sticks_39 : decode cX7_sticks 39 = .ok (.iload 5, 2) := by decide +kernel
theorem dX7_sticks_41 : decode cX7_sticks 41 = .ok (.ifCond .lt 147, 3) := by decide +kernel
theorem dX7_sticks_44 : decode cX7_sticks 44 = .ok (.iconst 0, 1) := by decide +kernel
theorem dX7_sticks_45 : decode cX7_sticks 45 = .ok (.istore 6, 2) := by decide +kernel
theorem dX7_sticks_47 : decode cX7_sticks 47 = .ok (.iconst 1, 1) := by decide +kernel
theorem dX7_sticks_48 : decode cX7_sticks 48 = .ok (.istore 7, 2) := by decide +kernel
theorem dX7_sticks_50 : decode cX7_sticks 50 = .ok (.iconst 0, 1) := by decide +kernel
theorem dX7_sticks_51 : decode cX7_sticks 51 = .ok (.istore 8, 2) := by decide +kernel
theorem dX7_sticks_53 : decode cX7_sticks 53 = .ok (.iload 8, 2) := by decide +kernel
theorem dX7_sticks_55 : decode cX7_sticks 55 = .ok (.aload_n 0, 1) := by decide +kernel
theorem dX7_sticks_56 : decode cX7_sticks 56 = .ok (.getfield 13, 3) := by decide +kernel
theorem dX7_sticks_59 : decode cX7_sticks 59 = .ok (.iconst 0, 1) := by decide +kernel
theorem dX7_sticks_60 : decode cX7_sticks 60 = .ok (.iaload, 1) := by decide +kernel
theorem dX7_sticks_61 : decode cX7_sticks 61 = .ok (.if_icmp .ge 82, 3) := by decide +kernel
theorem dX7_sticks_64 : decode cX7_sticks 64 = .ok (.iload 5, 2) := by decide +kernel
theorem dX7_sticks_66 : decode cX7_sticks 66 = .ok (.iload 8, 2) := by decide +kernel
theorem dX7_sticks_68 : decode cX7_sticks 68 = .ok (.ishr, 1) := by decide +kernel
theorem dX7_sticks_69 : decode cX7_sticks 69 = .ok (.iconst 1, 1) := by decide +kernel
theorem dX7_sticks_70 : decode cX7_sticks 70 = .ok (.iand, 1) := by decide +kernel
theorem dX7_sticks_71 : decode cX7_sticks 71 = .ok (.iconst 1, 1) := by decide +kernel
theorem dX7_sticks_72 : decode cX7_sticks 72 = .ok (.if_icmp .ne 7, 3) := by decide +kernel
theorem dX7_sticks_75 : decode cX7_sticks 75 = .ok (.iconst 1, 1) := by decide +kernel
theorem dX7_sticks_76 : decode cX7_sticks 76 = .ok (.goto 4, 3) := by decide +kernel
theorem dX7_sticks_79 : decode cX7_sticks 79 = .ok (.iconst 0, 1) := by decide +kernel
theorem dX7_sticks_80 : decode cX7_sticks 80 = .ok (.istore 9, 2) := by decide +kernel
theorem dX7_sticks_82 : decode cX7_sticks 82 = .ok (.iload 7, 2) := by decide +kernel
theorem dX7_sticks_84 : decode cX7_sticks 84 = .ok (.ifCond .eq 26, 3) := by decide +kernel
theorem dX7_sticks_87 : decode cX7_sticks 87 = .ok (.iload 9, 2) := by decide +kernel
theorem dX7_sticks_89 : decode cX7_sticks 89 = .ok (.ifCond .eq 17, 3) := by decide +kernel
theorem dX7_sticks_92 : decode cX7_sticks 92 = .ok (.aload_n 0, 1) := by decide +kernel
theorem dX7_sticks_93 : decode cX7_sticks 93 = .ok (.getfield 22, 3) := by decide +kernel
theorem dX7_sticks_96 : decode cX7_sticks 96 = .ok (.bipush 8, 2) := by decide +kernel
theorem dX7_sticks_98 : decode cX7_sticks 98 = .ok (.iload 8, 2) := by decide +kernel
theorem dX7_sticks_100 : decode cX7_sticks 100 = .ok (.iadd, 1) := by decide +kernel
theorem dX7_sticks_101 : decode cX7_sticks 101 = .ok (.iaload, 1) := by decide +kernel
theorem dX7_sticks_102 : decode cX7_sticks 102 = .ok (.iconst 1, 1) := by decide +kernel
theorem dX7_sticks_103 : decode cX7_sticks 103 = .ok (.if_icmp .ne 7, 3) := by decide +kernel
theorem dX7_sticks_106 : decode cX7_sticks 106 = .ok (.iconst 1, 1) := by decide +kernel
theorem dX7_sticks_107 : decode cX7_sticks 107 = .ok (.goto 4, 3) := by decide +kernel
theorem dX7_sticks_110 : decode cX7_sticks 110 = .ok (.iconst 0, 1) := by decide +kernel
theorem dX7_sticks_111 : decode cX7_sticks 111 = .ok (.istore 7, 2) := by decide +kernel
theorem dX7_sticks_113 : decode cX7_sticks 113 = .ok (.iload 6, 2) := by decide +kernel
theorem dX7_sticks_115 : decode cX7_sticks 115 = .ok (.iload 9, 2) := by decide +kernel
theorem dX7_sticks_117 : decode cX7_sticks 117 = .ok (.ifCond .eq 16, 3) := by decide +kernel
theorem dX7_sticks_120 : decode cX7_sticks 120 = .ok (.aload_n 0, 1) := by decide +kernel
theorem dX7_sticks_121 : decode cX7_sticks 121 = .ok (.getfield 13, 3) := by decide +kernel
theorem dX7_sticks_124 : decode cX7_sticks 124 = .ok (.bipush 21, 2) := by decide +kernel
theorem dX7_sticks_126 : decode cX7_sticks 126 = .ok (.iload 8, 2) := by decide +kernel
theorem dX7_sticks_128 : decode cX7_sticks 128 = .ok (.iadd, 1) := by decide +kernel
theorem dX7_sticks_129 : decode cX7_sticks 129 = .ok (.iaload, 1) := by decide +kernel
theorem dX7_sticks_130 : decode cX7_sticks 130 = .ok (.goto 4, 3) := by decide +kernel
theorem dX7_sticks_133 : decode cX7_sticks 133 = .ok (.iconst 0, 1) := by decide +kernel
theorem dX7_sticks_134 : decode cX7_sticks 134 = .ok (.iadd, 1) := by decide +kernel
theorem dX7_sticks_135 : decode cX7_sticks 135 = .ok (.istore 6, 2) := by decide +kernel
end
section
theorem dX7_sticks_137 : decode cX7_sticks 137 = .ok (.iinc 8 1, 3) := by decide +kernel
theorem dX7_sticks_140 : decode cX7_sticks 140 = .ok (.goto (-87), 3) := by decide +kernel
theorem dX7_sticks_143 : decode cX7_sticks 143 = .ok (.iload_n 3, 1) := by decide +kernel
theorem dX7_sticks_144 : decode cX7_sticks 144 = .ok (.iload 7, 2) := by decide +kernel
theorem dX7_sticks_146 : decode cX7_sticks 146 = .ok (.ifCond .eq 13, 3) := by decide +kernel
theorem dX7_sticks_149 : decode cX7_sticks 149 = .ok (.iload 6, 2) := by decide +kernel
theorem dX7_sticks_151 : decode cX7_sticks 151 = .ok (.iload_n 1, 1) := by decide +kernel
theorem dX7_sticks_152 : decode cX7_sticks 152 = .ok (.if_icmp .ne 7, 3) := by decide +kernel
theorem dX7_sticks_155 : decode cX7_sticks 155 = .ok (.iconst 1, 1) := by decide +kernel
theorem dX7_sticks_156 : decode cX7_sticks 156 = .ok (.goto 4, 3) := by decide +kernel
theorem dX7_sticks_159 : decode cX7_sticks 159 = .ok (.iconst 0, 1) := by decide +kernel
theorem dX7_sticks_160 : decode cX7_sticks 160 = .ok (.iadd, 1) := by decide +kernel
theorem dX7_sticks_161 : decode cX7_sticks 161 = .ok (.istore_n 3, 1) := by decide +kernel
theorem dX7_sticks_162 : decode cX7_sticks 162 = .ok (.iload 7, 2) := by decide +kernel
theorem dX7_sticks_164 : decode cX7_sticks 164 = .ok (.ifCond .eq 14, 3) := by decide +kernel
theorem dX7_sticks_167 : decode cX7_sticks 167 = .ok (.iload 6, 2) := by decide +kernel
theorem dX7_sticks_169 : decode cX7_sticks 169 = .ok (.iload_n 1, 1) := by decide +kernel
theorem dX7_sticks_170 : decode cX7_sticks 170 = .ok (.if_icmp .ne 8, 3) := by decide +kernel
theorem dX7_sticks_173 : decode cX7_sticks 173 = .ok (.iload 5, 2) := by decide +kernel
theorem dX7_sticks_175 : decode cX7_sticks 175 = .ok (.goto 5, 3) := by decide +kernel
theorem dX7_sticks_178 : decode cX7_sticks 178 = .ok (.iload 4, 2) := by decide +kernel
theorem dX7_sticks_180 : decode cX7_sticks 180 = .ok (.istore 4, 2) := by decide +kernel
theorem dX7_sticks_182 : decode cX7_sticks 182 = .ok (.iinc 5 (-1), 3) := by decide +kernel
theorem dX7_sticks_185 : decode cX7_sticks 185 = .ok (.goto (-146), 3) := by decide +kernel
theorem dX7_sticks_188 : decode cX7_sticks 188 = .ok (.iload_n 2, 1) := by decide +kernel
theorem dX7_sticks_189 : decode cX7_sticks 189 = .ok (.ifCond .ne 7, 3) := by decide +kernel
theorem dX7_sticks_192 : decode cX7_sticks 192 = .ok (.iload_n 3, 1) := by decide +kernel
theorem dX7_sticks_193 : decode cX7_sticks 193 = .ok (.goto 5, 3) := by decide +kernel
theorem dX7_sticks_196 : decode cX7_sticks 196 = .ok (.iload 4, 2) := by decide +kernel
theorem dX7_sticks_198 : decode cX7_sticks 198 = .ok (.ireturn, 1) := by decide +kernel
theorem dX7_whose_0 : decode cX7_whose 0 = .ok (.aload_n 0, 1) := by decide +kernel
theorem dX7_whose_1 : decode cX7_whose 1 = .ok (.iload_n 1, 1) := by decide +kernel
theorem dX7_whose_2 : decode cX7_whose 2 = .ok (.invokevirtual 90, 3) := by decide +kernel
theorem dX7_whose_5 : decode cX7_whose 5 = .ok (.ifCond .eq 13, 3) := by decide +kernel
theorem dX7_whose_8 : decode cX7_whose 8 = .ok (.iload_n 2, 1) := by decide +kernel
theorem dX7_whose_9 : decode cX7_whose 9 = .ok (.iconst 0, 1) := by decide +kernel
theorem dX7_whose_10 : decode cX7_whose 10 = .ok (.bipush 99, 2) := by decide +kernel
theorem dX7_whose_12 : decode cX7_whose 12 = .ok (.invokestatic 54, 3) := by decide +kernel
theorem dX7_whose_15 : decode cX7_whose 15 = .ok (.ifCond .ne 5, 3) := by decide +kernel
theorem dX7_whose_18 : decode cX7_whose 18 = .ok (.iconst (-1), 1) := by decide +kernel
theorem dX7_whose_19 : decode cX7_whose 19 = .ok (.ireturn, 1) := by decide +kernel
theorem dX7_whose_20 : decode cX7_whose 20 = .ok (.iconst 0, 1) := by decide +kernel
theorem dX7_whose_21 : decode cX7_whose 21 = .ok (.istore_n 3, 1) := by decide +kernel
theorem dX7_whose_22 : decode cX7_whose 22 = .ok (.iconst 0, 1) := by decide +kernel
theorem dX7_whose_23 : decode cX7_whose 23 = .ok (.istore 4, 2) := by decide +kernel
theorem dX7_whose_25 : decode cX7_whose 25 = .ok (.iload 4, 2) := by decide +kernel
theorem dX7_whose_27 : decode cX7_whose 27 = .ok (.aload_n 0, 1) := by decide +kernel
theorem dX7_whose_28 : decode cX7_whose 28 = .ok (.getfield 13, 3) := by decide +kernel
theorem dX7_whose_31 : decode cX7_whose 31 = .ok (.iconst 1, 1) := by decide +kernel
theorem dX7_whose_32 : decode cX7_whose 32 = .ok (.iaload, 1) := by decide +kernel
theorem dX7_whose_33 : decode cX7_whose 33 = .ok (.if_icmp .ge 32, 3) := by decide +kernel
theorem dX7_whose_36 : decode cX7_whose 36 = .ok (.iload_n 3, 1) := by decide +kernel
theorem dX7_whose_37 : decode cX7_whose 37 = .ok (.aload_n 0, 1) := by decide +kernel
theorem dX7_whose_38 : decode cX7_whose 38 = .ok (.iload 4, 2) := by decide +kernel
theorem dX7_whose_40 : decode cX7_whose 40 = .ok (.iload_n 1, 1) := by decide +kernel
theorem dX7_whose_41 : decode cX7_whose 41 = .ok (.iload_n 2, 1) := by decide +kernel
theorem dX7_whose_42 : decode cX7_whose 42 = .ok (.iconst 0, 1) := by decide +kernel
theorem dX7_whose_43 : decode cX7_whose 43 = .ok (.invokevirtual 106, 3) := by decide +kernel
theorem dX7_whose_46 : decode cX7_whose 46 = .ok (.ifCond .eq 10, 3) := by decide +kernel
theorem dX7_whose_49 : decode cX7_whose 49 = .ok (.iconst 1, 1) := by decide +kernel
theorem dX7_whose_50 : decode cX7_whose 50 = .ok (.iload 4, 2) := by decide +kernel
theorem dX7_whose_52 : decode cX7_whose 52 = .ok (.ishl, 1) := by decide +kernel
theorem dX7_whose_53 : decode cX7_whose 53 = .ok (.goto 4, 3) := by decide +kernel
theorem dX7_whose_56 : decode cX7_whose 56 = .ok (.iconst 0, 1) := by decide +kernel
theorem dX7_whose_57 : decode cX7_whose 57 = .ok (.ior, 1) := by decide +kernel
theorem dX7_whose_58 : decode cX7_whose 58 = .ok (.istore_n 3, 1) := by decide +kernel
theorem dX7_whose_59 : decode cX7_whose 59 = .ok (.iinc 4 1, 3) := by decide +kernel
theorem dX7_whose_62 : decode cX7_whose 62 = .ok (.goto (-37), 3) := by decide +kernel
theorem dX7_whose_65 : decode cX7_whose 65 = .ok (.iload_n 3, 1) := by decide +kernel
theorem dX7_whose_66 : decode cX7_whose 66 = .ok (.ireturn, 1) := by decide +kernel
theorem dX7_sure_0 : decode cX7_sure 0 = .ok (.aload_n 0, 1) := by decide +kernel
theorem dX7_sure_1 : decode cX7_sure 1 = .ok (.iload_n 1, 1) := by decide +kernel
theorem dX7_sure_2 : decode cX7_sure 2 = .ok (.invokevirtual 100, 3) := by decide +kernel
theorem dX7_sure_5 : decode cX7_sure 5 = .ok (.ifCond .eq 33, 3) := by decide +kernel
theorem dX7_sure_8 : decode cX7_sure 8 = .ok (.iload_n 2, 1) := by decide +kernel
theorem dX7_sure_9 : decode cX7_sure 9 = .ok (.iconst 0, 1) := by decide +kernel
theorem dX7_sure_10 : decode cX7_sure 10 = .ok (.bipush 8, 2) := by decide +kernel
theorem dX7_sure_12 : decode cX7_sure 12 = .ok (.invokestatic 54, 3) := by decide +kernel
theorem dX7_sure_15 : decode cX7_sure 15 = .ok (.ifCond .eq 23, 3) := by decide +kernel
theorem dX7_sure_18 : decode cX7_sure 18 = .ok (.iload_n 3, 1) := by decide +kernel
theorem dX7_sure_19 : decode cX7_sure 19 = .ok (.iconst 0, 1) := by decide +kernel
theorem dX7_sure_20 : decode cX7_sure 20 = .ok (.bipush 10, 2) := by decide +kernel
theorem dX7_sure_22 : decode cX7_sure 22 = .ok (.invokestatic 54, 3) := by decide +kernel
theorem dX7_sure_25 : decode cX7_sure 25 = .ok (.ifCond .eq 13, 3) := by decide +kernel
theorem dX7_sure_28 : decode cX7_sure 28 = .ok (.iload 4, 2) := by decide +kernel
theorem dX7_sure_30 : decode cX7_sure 30 = .ok (.iconst 0, 1) := by decide +kernel
theorem dX7_sure_31 : decode cX7_sure 31 = .ok (.iconst 1, 1) := by decide +kernel
theorem dX7_sure_32 : decode cX7_sure 32 = .ok (.invokestatic 54, 3) := by decide +kernel
theorem dX7_sure_35 : decode cX7_sure 35 = .ok (.ifCond .ne 5, 3) := by decide +kernel
theorem dX7_sure_38 : decode cX7_sure 38 = .ok (.iconst (-1), 1) := by decide +kernel
theorem dX7_sure_39 : decode cX7_sure 39 = .ok (.ireturn, 1) := by decide +kernel
theorem dX7_sure_40 : decode cX7_sure 40 = .ok (.iconst 1, 1) := by decide +kernel
theorem dX7_sure_41 : decode cX7_sure 41 = .ok (.istore 5, 2) := by decide +kernel
theorem dX7_sure_43 : decode cX7_sure 43 = .ok (.iconst 1, 1) := by decide +kernel
theorem dX7_sure_44 : decode cX7_sure 44 = .ok (.istore 6, 2) := by decide +kernel
theorem dX7_sure_46 : decode cX7_sure 46 = .ok (.iconst 0, 1) := by decide +kernel
theorem dX7_sure_47 : decode cX7_sure 47 = .ok (.istore 7, 2) := by decide +kernel
theorem dX7_sure_49 : decode cX7_sure 49 = .ok (.iload 7, 2) := by decide +kernel
theorem dX7_sure_51 : decode cX7_sure 51 = .ok (.iload_n 2, 1) := by decide +kernel
theorem dX7_sure_52 : decode cX7_sure 52 = .ok (.if_icmp .ge 43, 3) := by decide +kernel
theorem dX7_sure_55 : decode cX7_sure 55 = .ok (.aload_n 0, 1) := by decide +kernel
theorem dX7_sure_56 : decode cX7_sure 56 = .ok (.getfield 22, 3) := by decide +kernel
theorem dX7_sure_59 : decode cX7_sure 59 = .ok (.bipush 16, 2) := by decide +kernel
theorem dX7_sure_61 : decode cX7_sure 61 = .ok (.iload_n 1, 1) := by decide +kernel
theorem dX7_sure_62 : decode cX7_sure 62 = .ok (.iadd, 1) := by decide +kernel
theorem dX7_sure_63 : decode cX7_sure 63 = .ok (.iaload, 1) := by decide +kernel
theorem dX7_sure_64 : decode cX7_sure 64 = .ok (.aload_n 0, 1) := by decide +kernel
theorem dX7_sure_65 : decode cX7_sure 65 = .ok (.getfield 13, 3) := by decide +kernel
theorem dX7_sure_68 : decode cX7_sure 68 = .ok (.iconst 2, 1) := by decide +kernel
theorem dX7_sure_69 : decode cX7_sure 69 = .ok (.iaload, 1) := by decide +kernel
theorem dX7_sure_70 : decode cX7_sure 70 = .ok (.if_icmp .le 25, 3) := by decide +kernel
theorem dX7_sure_73 : decode cX7_sure 73 = .ok (.iload 5, 2) := by decide +kernel
theorem dX7_sure_75 : decode cX7_sure 75 = .ok (.bipush 10, 2) := by decide +kernel
theorem dX7_sure_77 : decode cX7_sure 77 = .ok (.iload_n 3, 1) := by decide +kernel
theorem dX7_sure_78 : decode cX7_sure 78 = .ok (.isub, 1) := by decide +kernel
theorem dX7_sure_79 : decode cX7_sure 79 = .ok (.imul, 1) := by decide +kernel
theorem dX7_sure_80 : decode cX7_sure 80 = .ok (.istore 5, 2) := by decide +kernel
theorem dX7_sure_82 : decode cX7_sure 82 = .ok (.iload 6, 2) := by decide +kernel
theorem dX7_sure_84 : decode cX7_sure 84 = .ok (.bipush 10, 2) := by decide +kernel
theorem dX7_sure_86 : decode cX7_sure 86 = .ok (.imul, 1) := by decide +kernel
theorem dX7_sure_87 : decode cX7_sure 87 = .ok (.istore 6, 2) := by decide +kernel
theorem dX7_sure_89 : decode cX7_sure 89 = .ok (.iinc 7 1, 3) := by decide +kernel
theorem dX7_sure_92 : decode cX7_sure 92 = .ok (.goto (-43), 3) := by decide +kernel
theorem dX7_sure_95 : decode cX7_sure 95 = .ok (.iload 5, 2) := by decide +kernel
theorem dX7_sure_97 : decode cX7_sure 97 = .ok (.istore 7, 2) := by decide +kernel
theorem dX7_sure_99 : decode cX7_sure 99 = .ok (.iload 6, 2) := by decide +kernel
theorem dX7_sure_101 : decode cX7_sure 101 = .ok (.istore 8, 2) := by decide +kernel
theorem dX7_sure_103 : decode cX7_sure 103 = .ok (.iload 8, 2) := by decide +kernel
theorem dX7_sure_105 : decode cX7_sure 105 = .ok (.ifCond .le 21, 3) := by decide +kernel
theorem dX7_sure_108 : decode cX7_sure 108 = .ok (.iload 7, 2) := by decide +kernel
theorem dX7_sure_110 : decode cX7_sure 110 = .ok (.iload 8, 2) := by decide +kernel
theorem dX7_sure_112 : decode cX7_sure 112 = .ok (.irem, 1) := by decide +kernel
theorem dX7_sure_113 : decode cX7_sure 113 = .ok (.istore 9, 2) := by decide +kernel
theorem dX7_sure_115 : decode cX7_sure 115 = .ok (.iload 8, 2) := by decide +kernel
theorem dX7_sure_117 : decode cX7_sure 117 = .ok (.istore 7, 2) := by decide +kernel
theorem dX7_sure_119 : decode cX7_sure 119 = .ok (.iload 9, 2) := by decide +kernel
theorem dX7_sure_121 : decode cX7_sure 121 = .ok (.istore 8, 2) := by decide +kernel
theorem dX7_sure_123 : decode cX7_sure 123 = .ok (.goto (-20), 3) := by decide +kernel
theorem dX7_sure_126 : decode cX7_sure 126 = .ok (.iload 4, 2) := by decide +kernel
theorem dX7_sure_128 : decode cX7_sure 128 = .ok (.ifCond .ne 11, 3) := by decide +kernel
theorem dX7_sure_131 : decode cX7_sure 131 = .ok (.iload 5, 2) := by decide +kernel
theorem dX7_sure_133 : decode cX7_sure 133 = .ok (.iload 7, 2) := by decide +kernel
theorem dX7_sure_135 : decode cX7_sure 135 = .ok (.idiv, 1) := by decide +kernel
theorem dX7_sure_136 : decode cX7_sure 136 = .ok (.goto 8, 3) := by decide +kernel
theorem dX7_sure_139 : decode cX7_sure 139 = .ok (.iload 6, 2) := by decide +kernel
theorem dX7_sure_141 : decode cX7_sure 141 = .ok (.iload 7, 2) := by decide +kernel
theorem dX7_sure_143 : decode cX7_sure 143 = .ok (.idiv, 1) := by decide +kernel
theorem dX7_sure_144 : decode cX7_sure 144 = .ok (.ireturn, 1) := by decide +kernel
theorem dX7_waste_0 : decode cX7_waste 0 = .ok (.iconst 0, 1) := by decide +kernel
theorem dX7_waste_1 : decode cX7_waste 1 = .ok (.istore_n 1, 1) := by decide +kernel
theorem dX7_waste_2 : decode cX7_waste 2 = .ok (.iconst 0, 1) := by decide +kernel
theorem dX7_waste_3 : decode cX7_waste 3 = .ok (.istore_n 2, 1) := by decide +kernel
theorem dX7_waste_4 : decode cX7_waste 4 = .ok (.iload_n 2, 1) := by decide +kernel
theorem dX7_waste_5 : decode cX7_waste 5 = .ok (.aload_n 0, 1) := by decide +kernel
theorem dX7_waste_6 : decode cX7_waste 6 = .ok (.getfield 13, 3) := by decide +kernel
theorem dX7_waste_9 : decode cX7_waste 9 = .ok (.iconst 0, 1) := by decide +kernel
theorem dX7_waste_10 : decode cX7_waste 10 = .ok (.iaload, 1) := by decide +kernel
theorem dX7_waste_11 : decode cX7_waste 11 = .ok (.if_icmp .ge 90, 3) := by decide +kernel
theorem dX7_waste_14 : decode cX7_waste 14 = .ok (.aload_n 0, 1) := by decide +kernel
theorem dX7_waste_15 : decode cX7_waste 15 = .ok (.getfield 22, 3) := by decide +kernel
theorem dX7_waste_18 : decode cX7_waste 18 = .ok (.bipush 8, 2) := by decide +kernel
theorem dX7_waste_20 : decode cX7_waste 20 = .ok (.iload_n 2, 1) := by decide +kernel
theorem dX7_waste_21 : decode cX7_waste 21 = .ok (.iadd, 1) := by decide +kernel
theorem dX7_waste_22 : decode cX7_waste 22 = .ok (.iaload, 1) := by decide +kernel
theorem dX7_waste_23 : decode cX7_waste 23 = .ok (.iconst 1, 1) := by decide +kernel
theorem dX7_waste_24 : decode cX7_waste 24 = .ok (.if_icmp .ne 7, 3) := by decide +kernel
theorem dX7_waste_27 : decode cX7_waste 27 = .ok (.iconst 1, 1) := by decide +kernel
theorem dX7_waste_28 : decode cX7_waste 28 = .ok (.goto 4, 3) := by decide +kernel
theorem dX7_waste_31 : decode cX7_waste 31 = .ok (.iconst 0, 1) := by decide +kernel
theorem dX7_waste_32 : decode cX7_waste 32 = .ok (.istore_n 3, 1) := by decide +kernel
theorem dX7_waste_33 : decode cX7_waste 33 = .ok (.iconst 0, 1) := by decide +kernel
theorem dX7_waste_34 : decode cX7_waste 34 = .ok (.istore 4, 2) := by decide +kernel
theorem dX7_waste_36 : decode cX7_waste 36 = .ok (.iload 4, 2) := by decide +kernel
theorem dX7_waste_38 : decode cX7_waste 38 = .ok (.aload_n 0, 1) := by decide +kernel
theorem dX7_waste_39 : decode cX7_waste 39 = .ok (.getfield 13, 3) := by decide +kernel
theorem dX7_waste_42 : decode cX7_waste 42 = .ok (.iconst 1, 1) := by decide +kernel
theorem dX7_waste_43 : decode cX7_waste 43 = .ok (.iaload, 1) := by decide +kernel
theorem dX7_waste_44 : decode cX7_waste 44 = .ok (.if_icmp .ge 31, 3) := by decide +kernel
theorem dX7_waste_47 : decode cX7_waste 47 = .ok (.iload_n 3, 1) := by decide +kernel
theorem dX7_waste_48 : decode cX7_waste 48 = .ok (.ifCond .ne 15, 3) := by decide +kernel
theorem dX7_waste_51 : decode cX7_waste 51 = .ok (.aload_n 0, 1) := by decide +kernel
theorem dX7_waste_52 : decode cX7_waste 52 = .ok (.iload 4, 2) := by decide +kernel
theorem dX7_waste_54 : decode cX7_waste 54 = .ok (.iload_n 2, 1) := by decide +kernel
theorem dX7_waste_55 : decode cX7_waste 55 = .ok (.invokevirtual 138, 3) := by decide +kernel
theorem dX7_waste_58 : decode cX7_waste 58 = .ok (.bipush (-4), 2) := by decide +kernel
theorem dX7_waste_60 : decode cX7_waste 60 = .ok (.if_icmp .eq 7, 3) := by decide +kernel
theorem dX7_waste_63 : decode cX7_waste 63 = .ok (.iconst 1, 1) := by decide +kernel
theorem dX7_waste_64 : decode cX7_waste 64 = .ok (.goto 4, 3) := by decide +kernel
theorem dX7_waste_67 : decode cX7_waste 67 = .ok (.iconst 0, 1) := by decide +kernel
theorem dX7_waste_68 : decode cX7_waste 68 = .ok (.istore_n 3, 1) := by decide +kernel
theorem dX7_waste_69 : decode cX7_waste 69 = .ok (.iinc 4 1, 3) := by decide +kernel
theorem dX7_waste_72 : decode cX7_waste 72 = .ok (.goto (-36), 3) := by decide +kernel
theorem dX7_waste_75 : decode cX7_waste 75 = .ok (.iload_n 1, 1) := by decide +kernel
theorem dX7_waste_76 : decode cX7_waste 76 = .ok (.iload_n 3, 1) := by decide +kernel
theorem dX7_waste_77 : decode cX7_waste 77 = .ok (.ifCond .eq 7, 3) := by decide +kernel
theorem dX7_waste_80 : decode cX7_waste 80 = .ok (.iconst 0, 1) := by decide +kernel
theorem dX7_waste_81 : decode cX7_waste 81 = .ok (.goto 12, 3) := by decide +kernel
theorem dX7_waste_84 : decode cX7_waste 84 = .ok (.aload_n 0, 1) := by decide +kernel
theorem dX7_waste_85 : decode cX7_waste 85 = .ok (.getfield 13, 3) := by decide +kernel
theorem dX7_waste_88 : decode cX7_waste 88 = .ok (.bipush 21, 2) := by decide +kernel
theorem dX7_waste_90 : decode cX7_waste 90 = .ok (.iload_n 2, 1) := by decide +kernel
theorem dX7_waste_91 : decode cX7_waste 91 = .ok (.iadd, 1) := by decide +kernel
theorem dX7_waste_92 : decode cX7_waste 92 = .ok (.iaload, 1) := by decide +kernel
theorem dX7_waste_93 : decode cX7_waste 93 = .ok (.iadd, 1) := by decide +kernel
theorem dX7_waste_94 : decode cX7_waste 94 = .ok (.istore_n 1, 1) := by decide +kernel
theorem dX7_waste_95 : decode cX7_waste 95 = .ok (.iinc 2 1, 3) := by decide +kernel
theorem dX7_waste_98 : decode cX7_waste 98 = .ok (.goto (-94), 3) := by decide +kernel
theorem dX7_waste_101 : decode cX7_waste 101 = .ok (.iload_n 1, 1) := by decide +kernel
theorem dX7_waste_102 : decode cX7_waste 102 = .ok (.ireturn, 1) := by decide +kernel
theorem dX7_needs_0 : decode cX7_needs 0 = .ok (.iconst 0, 1) := by decide +kernel
theorem dX7_needs_1 : decode cX7_needs 1 = .ok (.istore_n 1, 1) := by decide +kernel
theorem dX7_needs_2 : decode cX7_needs 2 = .ok (.iconst 0, 1) := by decide +kernel
theorem dX7_needs_3 : decode cX7_needs 3 = .ok (.istore_n 2, 1) := by decide +kernel
theorem dX7_needs_4 : decode cX7_needs 4 = .ok (.iload_n 2, 1) := by decide +kernel
theorem dX7_needs_5 : decode cX7_needs 5 = .ok (.aload_n 0, 1) := by decide +kernel
theorem dX7_needs_6 : decode cX7_needs 6 = .ok (.getfield 13, 3) := by decide +kernel
theorem dX7_needs_9 : decode cX7_needs 9 = .ok (.iconst 1, 1) := by decide +kernel
theorem dX7_needs_10 : decode cX7_needs 10 = .ok (.iaload, 1) := by decide +kernel
theorem dX7_needs_11 : decode cX7_needs 11 = .ok (.if_icmp .ge 43, 3) := by decide +kernel
theorem dX7_needs_14 : decode cX7_needs 14 = .ok (.iload_n 1, 1) := by decide +kernel
theorem dX7_needs_15 : decode cX7_needs 15 = .ok (.aload_n 0, 1) := by decide +kernel
theorem dX7_needs_16 : decode cX7_needs 16 = .ok (.iload_n 2, 1) := by decide +kernel
theorem dX7_needs_17 : decode cX7_needs 17 = .ok (.invokevirtual 103, 3) := by decide +kernel
theorem dX7_needs_20 : decode cX7_needs 20 = .ok (.ifCond .eq 7, 3) := by decide +kernel
theorem dX7_needs_23 : decode cX7_needs 23 = .ok (.iconst 0, 1) := by decide +kernel
theorem dX7_needs_24 : decode cX7_needs 24 = .ok (.goto 22, 3) := by decide +kernel
theorem dX7_needs_27 : decode cX7_needs 27 = .ok (.aload_n 0, 1) := by decide +kernel
theorem dX7_needs_28 : decode cX7_needs 28 = .ok (.getfield 13, 3) := by decide +kernel
theorem dX7_needs_31 : decode cX7_needs 31 = .ok (.bipush 33, 2) := by decide +kernel
theorem dX7_needs_33 : decode cX7_needs 33 = .ok (.iload_n 2, 1) := by decide +kernel
theorem dX7_needs_34 : decode cX7_needs 34 = .ok (.iadd, 1) := by decide +kernel
theorem dX7_needs_35 : decode cX7_needs 35 = .ok (.iaload, 1) := by decide +kernel
theorem dX7_needs_36 : decode cX7_needs 36 = .ok (.aload_n 0, 1) := by decide +kernel
theorem dX7_needs_37 : decode cX7_needs 37 = .ok (.getfield 22, 3) := by decide +kernel
theorem dX7_needs_40 : decode cX7_needs 40 = .ok (.bipush 20, 2) := by decide +kernel
theorem dX7_needs_42 : decode cX7_needs 42 = .ok (.iload_n 2, 1) := by decide +kernel
theorem dX7_needs_43 : decode cX7_needs 43 = .ok (.iadd, 1) := by decide +kernel
theorem dX7_needs_44 : decode cX7_needs 44 = .ok (.iaload, 1) := by decide +kernel
theorem dX7_needs_45 : decode cX7_needs 45 = .ok (.isub, 1) := by decide +kernel
theorem dX7_needs_46 : decode cX7_needs 46 = .ok (.iadd, 1) := by decide +kernel
theorem dX7_needs_47 : decode cX7_needs 47 = .ok (.istore_n 1, 1) := by decide +kernel
theorem dX7_needs_48 : decode cX7_needs 48 = .ok (.iinc 2 1, 3) := by decide +kernel
theorem dX7_needs_51 : decode cX7_needs 51 = .ok (.goto (-47), 3) := by decide +kernel
theorem dX7_needs_54 : decode cX7_needs 54 = .ok (.iload_n 1, 1) := by decide +kernel
theorem dX7_needs_55 : decode cX7_needs 55 = .ok (.ireturn, 1) := by decide +kernel
theorem dX7_weighs_0 : decode cX7_weighs 0 = .ok (.iconst 0, 1) := by decide +kernel
theorem dX7_weighs_1 : decode cX7_weighs 1 = .ok (.istore_n 1, 1) := by decide +kernel
theorem dX7_weighs_2 : decode cX7_weighs 2 = .ok (.iconst 0, 1) := by decide +kernel
theorem dX7_weighs_3 : decode cX7_weighs 3 = .ok (.istore_n 2, 1) := by decide +kernel
theorem dX7_weighs_4 : decode cX7_weighs 4 = .ok (.iload_n 2, 1) := by decide +kernel
theorem dX7_weighs_5 : decode cX7_weighs 5 = .ok (.aload_n 0, 1) := by decide +kernel
theorem dX7_weighs_6 : decode cX7_weighs 6 = .ok (.getfield 13, 3) := by decide +kernel
theorem dX7_weighs_9 : decode cX7_weighs 9 = .ok (.iconst 0, 1) := by decide +kernel
theorem dX7_weighs_10 : decode cX7_weighs 10 = .ok (.iaload, 1) := by decide +kernel
theorem dX7_weighs_11 : decode cX7_weighs 11 = .ok (.if_icmp .ge 31, 3) := by decide +kernel
theorem dX7_weighs_14 : decode cX7_weighs 14 = .ok (.iload_n 1, 1) := by decide +kernel
theorem dX7_weighs_15 : decode cX7_weighs 15 = .ok (.aload_n 0, 1) := by decide +kernel
theorem dX7_weighs_16 : decode cX7_weighs 16 = .ok (.getfield 22, 3) := by decide +kernel
theorem dX7_weighs_19 : decode cX7_weighs 19 = .ok (.bipush 8, 2) := by decide +kernel
theorem dX7_weighs_21 : decode cX7_weighs 21 = .ok (.iload_n 2, 1) := by decide +kernel
theorem dX7_weighs_22 : decode cX7_weighs 22 = .ok (.iadd, 1) := by decide +kernel
theorem dX7_weighs_23 : decode cX7_weighs 23 = .ok (.iaload, 1) := by decide +kernel
theorem dX7_weighs_24 : decode cX7_weighs 24 = .ok (.aload_n 0, 1) := by decide +kernel
theorem dX7_weighs_25 : decode cX7_weighs 25 = .ok (.getfield 13, 3) := by decide +kernel
theorem dX7_weighs_28 : decode cX7_weighs 28 = .ok (.bipush 21, 2) := by decide +kernel
theorem dX7_weighs_30 : decode cX7_weighs 30 = .ok (.iload_n 2, 1) := by decide +kernel
theorem dX7_weighs_31 : decode cX7_weighs 31 = .ok (.iadd, 1) := by decide +kernel
theorem dX7_weighs_32 : decode cX7_weighs 32 = .ok (.iaload, 1) := by decide +kernel
theorem dX7_weighs_33 : decode cX7_weighs 33 = .ok (.imul, 1) := by decide +kernel
theorem dX7_weighs_34 : decode cX7_weighs 34 = .ok (.iadd, 1) := by decide +kernel
theorem dX7_weighs_35 : decode cX7_weighs 35 = .ok (.istore_n 1, 1) := by decide +kernel
theorem dX7_weighs_36 : decode cX7_weighs 36 = .ok (.iinc 2 1, 3) := by decide +kernel
theorem dX7_weighs_39 : decode cX7_weighs 39 = .ok (.goto (-35), 3) := by decide +kernel
theorem dX7_weighs_42 : decode cX7_weighs 42 = .ok (.iload_n 1, 1) := by decide +kernel
theorem dX7_weighs_43 : decode cX7_weighs 43 = .ok (.ireturn, 1) := by decide +kernel
theorem dX7_storm_0 : decode cX7_storm 0 = .ok (.iload_n 1, 1) := by decide +kernel
theorem dX7_storm_1 : decode cX7_storm 1 = .ok (.iconst 0, 1) := by decide +kernel
theorem dX7_storm_2 : decode cX7_storm 2 = .ok (.sipush 9999, 3) := by decide +kernel
theorem dX7_storm_5 : decode cX7_storm 5 = .ok (.invokestatic 54, 3) := by decide +kernel
theorem dX7_storm_8 : decode cX7_storm 8 = .ok (.ifCond .eq 22, 3) := by decide +kernel
theorem dX7_storm_11 : decode cX7_storm 11 = .ok (.iload_n 2, 1) := by decide +kernel
theorem dX7_storm_12 : decode cX7_storm 12 = .ok (.iconst 1, 1) := by decide +kernel
theorem dX7_storm_13 : decode cX7_storm 13 = .ok (.bipush 30, 2) := by decide +kernel
theorem dX7_storm_15 : decode cX7_storm 15 = .ok (.invokestatic 54, 3) := by decide +kernel
theorem dX7_storm_18 : decode cX7_storm 18 = .ok (.ifCond .eq 12, 3) := by decide +kernel
theorem dX7_storm_21 : decode cX7_storm 21 = .ok (.iload_n 3, 1) := by decide +kernel
theorem dX7_storm_22 : decode cX7_storm 22 = .ok (.iconst 0, 1) := by decide +kernel
theorem dX7_storm_23 : decode cX7_storm 23 = .ok (.iconst 1, 1) := by decide +kernel
theorem dX7_storm_24 : decode cX7_storm 24 = .ok (.invokestatic 54, 3) := by decide +kernel
theorem dX7_storm_27 : decode cX7_storm 27 = .ok (.ifCond .ne 5, 3) := by decide +kernel
theorem dX7_storm_30 : decode cX7_storm 30 = .ok (.iconst (-1), 1) := by decide +kernel
theorem dX7_storm_31 : decode cX7_storm 31 = .ok (.ireturn, 1) := by decide +kernel
theorem dX7_storm_32 : decode cX7_storm 32 = .ok (.aload_n 0, 1) := by decide +kernel
theorem dX7_storm_33 : decode cX7_storm 33 = .ok (.getfield 22, 3) := by decide +kernel
theorem dX7_storm_36 : decode cX7_storm 36 = .ok (.bipush 28, 2) := by decide +kernel
theorem dX7_storm_38 : decode cX7_storm 38 = .ok (.iaload, 1) := by decide +kernel
theorem dX7_storm_39 : decode cX7_storm 39 = .ok (.iload_n 2, 1) := by decide +kernel
theorem dX7_storm_40 : decode cX7_storm 40 = .ok (.iadd, 1) := by decide +kernel
theorem dX7_storm_41 : decode cX7_storm 41 = .ok (.iconst 1, 1) := by decide +kernel
theorem dX7_storm_42 : decode cX7_storm 42 = .ok (.isub, 1) := by decide +kernel
theorem dX7_storm_43 : decode cX7_storm 43 = .ok (.bipush 99, 2) := by decide +kernel
theorem dX7_storm_45 : decode cX7_storm 45 = .ok (.if_icmp .le 6, 3) := by decide +kernel
theorem dX7_storm_48 : decode cX7_storm 48 = .ok (.bipush (-2), 2) := by decide +kernel
theorem dX7_storm_50 : decode cX7_storm 50 = .ok (.ireturn, 1) := by decide +kernel
theorem dX7_storm_51 : decode cX7_storm 51 = .ok (.aload_n 0, 1) := by decide +kernel
theorem dX7_storm_52 : decode cX7_storm 52 = .ok (.invokevirtual 129, 3) := by decide +kernel
theorem dX7_storm_55 : decode cX7_storm 55 = .ok (.aload_n 0, 1) := by decide +kernel
theorem dX7_storm_56 : decode cX7_storm 56 = .ok (.invokevirtual 142, 3) := by decide +kernel
theorem dX7_storm_59 : decode cX7_storm 59 = .ok (.istore 4, 2) := by decide +kernel
theorem dX7_storm_61 : decode cX7_storm 61 = .ok (.iconst 0, 1) := by decide +kernel
theorem dX7_storm_62 : decode cX7_storm 62 = .ok (.istore 5, 2) := by decide +kernel
theorem dX7_storm_64 : decode cX7_storm 64 = .ok (.iload 5, 2) := by decide +kernel
theorem dX7_storm_66 : decode cX7_storm 66 = .ok (.iload_n 2, 1) := by decide +kernel
theorem dX7_storm_67 : decode cX7_storm 67 = .ok (.if_icmp .ge 135, 3) := by decide +kernel
theorem dX7_storm_70 : decode cX7_storm 70 = .ok (.iload 5, 2) := by decide +kernel
theorem dX7_storm_72 : decode cX7_storm 72 = .ok (.ifCond .le 7, 3) := by decide +kernel
theorem dX7_storm_75 : decode cX7_storm 75 = .ok (.aload_n 0, 1) := by decide +kernel
theorem dX7_storm_76 : decode cX7_storm 76 = .ok (.invokevirtual 120, 3) := by decide +kernel
theorem dX7_storm_79 : decode cX7_storm 79 = .ok (.ldc2_w 145, 3) := by decide +kernel
theorem dX7_storm_82 : decode cX7_storm 82 = .ok (.iload_n 1, 1) := by decide +kernel
theorem dX7_storm_83 : decode cX7_storm 83 = .ok (.i2l, 1) := by decide +kernel
theorem dX7_storm_84 : decode cX7_storm 84 = .ok (.lmul, 1) := by decide +kernel
theorem dX7_storm_85 : decode cX7_storm 85 = .ok (.ldc2_w 147, 3) := by decide +kernel
theorem dX7_storm_88 : decode cX7_storm 88 = .ok (.iload 5, 2) := by decide +kernel
theorem dX7_storm_90 : decode cX7_storm 90 = .ok (.i2l, 1) := by decide +kernel
theorem dX7_storm_91 : decode cX7_storm 91 = .ok (.lmul, 1) := by decide +kernel
theorem dX7_storm_92 : decode cX7_storm 92 = .ok (.ladd, 1) := by decide +kernel
theorem dX7_storm_93 : decode cX7_storm 93 = .ok (.lconst 1, 1) := by decide +kernel
theorem dX7_storm_94 : decode cX7_storm 94 = .ok (.ladd, 1) := by decide +kernel
theorem dX7_storm_95 : decode cX7_storm 95 = .ok (.lstore 6, 2) := by decide +kernel
theorem dX7_storm_97 : decode cX7_storm 97 = .ok (.lload 6, 2) := by decide +kernel
theorem dX7_storm_99 : decode cX7_storm 99 = .ok (.lload 6, 2) := by decide +kernel
theorem dX7_storm_101 : decode cX7_storm 101 = .ok (.lmul, 1) := by decide +kernel
theorem dX7_storm_102 : decode cX7_storm 102 = .ok (.ldc2_w 149, 3) := by decide +kernel
theorem dX7_storm_105 : decode cX7_storm 105 = .ok (.lrem, 1) := by decide +kernel
theorem dX7_storm_106 : decode cX7_storm 106 = .ok (.l2i, 1) := by decide +kernel
theorem dX7_storm_107 : decode cX7_storm 107 = .ok (.iconst 2, 1) := by decide +kernel
theorem dX7_storm_108 : decode cX7_storm 108 = .ok (.idiv, 1) := by decide +kernel
theorem dX7_storm_109 : decode cX7_storm 109 = .ok (.istore 8, 2) := by decide +kernel
theorem dX7_storm_111 : decode cX7_storm 111 = .ok (.iload 8, 2) := by decide +kernel
theorem dX7_storm_113 : decode cX7_storm 113 = .ok (.aload_n 0, 1) := by decide +kernel
theorem dX7_storm_114 : decode cX7_storm 114 = .ok (.getfield 13, 3) := by decide +kernel
theorem dX7_storm_117 : decode cX7_storm 117 = .ok (.iconst 0, 1) := by decide +kernel
theorem dX7_storm_118 : decode cX7_storm 118 = .ok (.iaload, 1) := by decide +kernel
theorem dX7_storm_119 : decode cX7_storm 119 = .ok (.irem, 1) := by decide +kernel
theorem dX7_storm_120 : decode cX7_storm 120 = .ok (.istore 9, 2) := by decide +kernel
theorem dX7_storm_122 : decode cX7_storm 122 = .ok (.aload_n 0, 1) := by decide +kernel
theorem dX7_storm_123 : decode cX7_storm 123 = .ok (.getfield 22, 3) := by decide +kernel
theorem dX7_storm_126 : decode cX7_storm 126 = .ok (.bipush 28, 2) := by decide +kernel
theorem dX7_storm_128 : decode cX7_storm 128 = .ok (.iaload, 1) := by decide +kernel
theorem dX7_storm_129 : decode cX7_storm 129 = .ok (.aload_n 0, 1) := by decide +kernel
theorem dX7_storm_130 : decode cX7_storm 130 = .ok (.getfield 13, 3) := by decide +kernel
theorem dX7_storm_133 : decode cX7_storm 133 = .ok (.iconst 4, 1) := by decide +kernel
theorem dX7_storm_134 : decode cX7_storm 134 = .ok (.iaload, 1) := by decide +kernel
theorem dX7_storm_135 : decode cX7_storm 135 = .ok (.isub, 1) := by decide +kernel
theorem dX7_storm_136 : decode cX7_storm 136 = .ok (.istore 10, 2) := by decide +kernel
theorem dX7_storm_138 : decode cX7_storm 138 = .ok (.aload_n 0, 1) := by decide +kernel
theorem dX7_storm_139 : decode cX7_storm 139 = .ok (.getfield 22, 3) := by decide +kernel
theorem dX7_storm_142 : decode cX7_storm 142 = .ok (.iload 9, 2) := by decide +kernel
theorem dX7_storm_144 : decode cX7_storm 144 = .ok (.iload 8, 2) := by decide +kernel
theorem dX7_storm_146 : decode cX7_storm 146 = .ok (.bipush 8, 2) := by decide +kernel
theorem dX7_storm_148 : decode cX7_storm 148 = .ok (.idiv, 1) := by decide +kernel
theorem dX7_storm_149 : decode cX7_storm 149 = .ok (.iconst 3, 1) := by decide +kernel
theorem dX7_storm_150 : decode cX7_storm 150 = .ok (.irem, 1) := by decide +kernel
theorem dX7_storm_151 : decode cX7_storm 151 = .ok (.ifCond .ne 33, 3) := by decide +kernel
theorem dX7_storm_154 : decode cX7_storm 154 = .ok (.aload_n 0, 1) := by decide +kernel
theorem dX7_storm_155 : decode cX7_storm 155 = .ok (.getfield 22, 3) := by decide +kernel
theorem dX7_storm_158 : decode cX7_storm 158 = .ok (.bipush 8, 2) := by decide +kernel
theorem dX7_storm_160 : decode cX7_storm 160 = .ok (.iload 9, 2) := by decide +kernel
theorem dX7_storm_162 : decode cX7_storm 162 = .ok (.iadd, 1) := by decide +kernel
theorem dX7_storm_163 : decode cX7_storm 163 = .ok (.iaload, 1) := by decide +kernel
theorem dX7_storm_164 : decode cX7_storm 164 = .ok (.ifCond .ne 20, 3) := by decide +kernel
theorem dX7_storm_167 : decode cX7_storm 167 = .ok (.aload_n 0, 1) := by decide +kernel
theorem dX7_storm_168 : decode cX7_storm 168 = .ok (.getfield 22, 3) := by decide +kernel
theorem dX7_storm_171 : decode cX7_storm 171 = .ok (.iload 9, 2) := by decide +kernel
theorem dX7_storm_173 : decode cX7_storm 173 = .ok (.iaload, 1) := by decide +kernel
theorem dX7_storm_174 : decode cX7_storm 174 = .ok (.iload 10, 2) := by decide +kernel
theorem dX7_storm_176 : decode cX7_storm 176 = .ok (.if_icmp .le 8, 3) := by decide +kernel
theorem dX7_storm_179 : decode cX7_storm 179 = .ok (.iload 10, 2) := by decide +kernel
theorem dX7_storm_181 : decode cX7_storm 181 = .ok (.goto 10, 3) := by decide +kernel
theorem dX7_storm_184 : decode cX7_storm 184 = .ok (.aload_n 0, 1) := by decide +kernel
theorem dX7_storm_185 : decode cX7_storm 185 = .ok (.getfield 22, 3) := by decide +kernel
theorem dX7_storm_188 : decode cX7_storm 188 = .ok (.iload 9, 2) := by decide +kernel
theorem dX7_storm_190 : decode cX7_storm 190 = .ok (.iaload, 1) := by decide +kernel
theorem dX7_storm_191 : decode cX7_storm 191 = .ok (.iastore, 1) := by decide +kernel
theorem dX7_storm_192 : decode cX7_storm 192 = .ok (.aload_n 0, 1) := by decide +kernel
theorem dX7_storm_193 : decode cX7_storm 193 = .ok (.invokevirtual 123, 3) := by decide +kernel
theorem dX7_storm_196 : decode cX7_storm 196 = .ok (.iinc 5 1, 3) := by decide +kernel
theorem dX7_storm_199 : decode cX7_storm 199 = .ok (.goto (-135), 3) := by decide +kernel
theorem dX7_storm_202 : decode cX7_storm 202 = .ok (.iload_n 3, 1) := by decide +kernel
theorem dX7_storm_203 : decode cX7_storm 203 = .ok (.ifCond .ne 10, 3) := by decide +kernel
theorem dX7_storm_206 : decode cX7_storm 206 = .ok (.aload_n 0, 1) := by decide +kernel
theorem dX7_storm_207 : decode cX7_storm 207 = .ok (.invokevirtual 126, 3) := by decide +kernel
theorem dX7_storm_210 : decode cX7_storm 210 = .ok (.goto 10, 3) := by decide +kernel
theorem dX7_storm_213 : decode cX7_storm 213 = .ok (.aload_n 0, 1) := by decide +kernel
theorem dX7_storm_214 : decode cX7_storm 214 = .ok (.invokevirtual 142, 3) := by decide +kernel
theorem dX7_storm_217 : decode cX7_storm 217 = .ok (.iload 4, 2) := by decide +kernel
theorem dX7_storm_219 : decode cX7_storm 219 = .ok (.isub, 1) := by decide +kernel
theorem dX7_storm_220 : decode cX7_storm 220 = .ok (.istore 5, 2) := by decide +kernel
theorem dX7_storm_222 : decode cX7_storm 222 = .ok (.aload_n 0, 1) := by decide +kernel
theorem dX7_storm_223 : decode cX7_storm 223 = .ok (.invokevirtual 135, 3) := by decide +kernel
theorem dX7_storm_226 : decode cX7_storm 226 = .ok (.iload 5, 2) := by decide +kernel
theorem dX7_storm_228 : decode cX7_storm 228 = .ok (.ireturn, 1) := by decide +kernel
theorem dX7_keep_0 : decode cX7_keep 0 = .ok (.aload_n 0, 1) := by decide +kernel
theorem dX7_keep_1 : decode cX7_keep 1 = .ok (.getfield 87, 3) := by decide +kernel
theorem dX7_keep_4 : decode cX7_keep 4 = .ok (.iconst 2, 1) := by decide +kernel
theorem dX7_keep_5 : decode cX7_keep 5 = .ok (.if_icmp .ne 6, 3) := by decide +kernel
theorem dX7_keep_8 : decode cX7_keep 8 = .ok (.bipush (-3), 2) := by decide +kernel
theorem dX7_keep_10 : decode cX7_keep 10 = .ok (.ireturn, 1) := by decide +kernel
theorem dX7_keep_11 : decode cX7_keep 11 = .ok (.iconst 0, 1) := by decide +kernel
theorem dX7_keep_12 : decode cX7_keep 12 = .ok (.istore_n 1, 1) := by decide +kernel
theorem dX7_keep_13 : decode cX7_keep 13 = .ok (.iload_n 1, 1) := by decide +kernel
theorem dX7_keep_14 : decode cX7_keep 14 = .ok (.bipush 29, 2) := by decide +kernel
theorem dX7_keep_16 : decode cX7_keep 16 = .ok (.if_icmp .ge 29, 3) := by decide +kernel
theorem dX7_keep_19 : decode cX7_keep 19 = .ok (.aload_n 0, 1) := by decide +kernel
theorem dX7_keep_20 : decode cX7_keep 20 = .ok (.getfield 28, 3) := by decide +kernel
theorem dX7_keep_23 : decode cX7_keep 23 = .ok (.bipush 29, 2) := by decide +kernel
theorem dX7_keep_25 : decode cX7_keep 25 = .ok (.aload_n 0, 1) := by decide +kernel
theorem dX7_keep_26 : decode cX7_keep 26 = .ok (.getfield 87, 3) := by decide +kernel
theorem dX7_keep_29 : decode cX7_keep 29 = .ok (.imul, 1) := by decide +kernel
theorem dX7_keep_30 : decode cX7_keep 30 = .ok (.iload_n 1, 1) := by decide +kernel
theorem dX7_keep_31 : decode cX7_keep 31 = .ok (.iadd, 1) := by decide +kernel
theorem dX7_keep_32 : decode cX7_keep 32 = .ok (.aload_n 0, 1) := by decide +kernel
theorem dX7_keep_33 : decode cX7_keep 33 = .ok (.getfield 22, 3) := by decide +kernel
theorem dX7_keep_36 : decode cX7_keep 36 = .ok (.iload_n 1, 1) := by decide +kernel
theorem dX7_keep_37 : decode cX7_keep 37 = .ok (.iaload, 1) := by decide +kernel
theorem dX7_keep_38 : decode cX7_keep 38 = .ok (.iastore, 1) := by decide +kernel
theorem dX7_keep_39 : decode cX7_keep 39 = .ok (.iinc 1 1, 3) := by decide +kernel
theorem dX7_keep_42 : decode cX7_keep 42 = .ok (.goto (-29), 3) := by decide +kernel
theorem dX7_keep_45 : decode cX7_keep 45 = .ok (.aload_n 0, 1) := by decide +kernel
theorem dX7_keep_46 : decode cX7_keep 46 = .ok (.dup, 1) := by decide +kernel
theorem dX7_keep_47 : decode cX7_keep 47 = .ok (.getfield 87, 3) := by decide +kernel
theorem dX7_keep_50 : decode cX7_keep 50 = .ok (.iconst 1, 1) := by decide +kernel
theorem dX7_keep_51 : decode cX7_keep 51 = .ok (.iadd, 1) := by decide +kernel
theorem dX7_keep_52 : decode cX7_keep 52 = .ok (.putfield 87, 3) := by decide +kernel
theorem dX7_keep_55 : decode cX7_keep 55 = .ok (.aload_n 0, 1) := by decide +kernel
theorem dX7_keep_56 : decode cX7_keep 56 = .ok (.getfield 87, 3) := by decide +kernel
theorem dX7_keep_59 : decode cX7_keep 59 = .ok (.ireturn, 1) := by decide +kernel
theorem dX7_back_0 : decode cX7_back 0 = .ok (.aload_n 0, 1) := by decide +kernel
theorem dX7_back_1 : decode cX7_back 1 = .ok (.getfield 87, 3) := by decide +kernel
theorem dX7_back_4 : decode cX7_back 4 = .ok (.ifCond .ne 6, 3) := by decide +kernel
theorem dX7_back_7 : decode cX7_back 7 = .ok (.bipush (-2), 2) := by decide +kernel
theorem dX7_back_9 : decode cX7_back 9 = .ok (.ireturn, 1) := by decide +kernel
theorem dX7_back_10 : decode cX7_back 10 = .ok (.aload_n 0, 1) := by decide +kernel
theorem dX7_back_11 : decode cX7_back 11 = .ok (.dup, 1) := by decide +kernel
theorem dX7_back_12 : decode cX7_back 12 = .ok (.getfield 87, 3) := by decide +kernel
theorem dX7_back_15 : decode cX7_back 15 = .ok (.iconst 1, 1) := by decide +kernel
theorem dX7_back_16 : decode cX7_back 16 = .ok (.isub, 1) := by decide +kernel
theorem dX7_back_17 : decode cX7_back 17 = .ok (.putfield 87, 3) := by decide +kernel
theorem dX7_back_20 : decode cX7_back 20 = .ok (.iconst 0, 1) := by decide +kernel
theorem dX7_back_21 : decode cX7_back 21 = .ok (.istore_n 1, 1) := by decide +kernel
theorem dX7_back_22 : decode cX7_back 22 = .ok (.iload_n 1, 1) := by decide +kernel
theorem dX7_back_23 : decode cX7_back 23 = .ok (.bipush 29, 2) := by decide +kernel
theorem dX7_back_25 : decode cX7_back 25 = .ok (.if_icmp .ge 29, 3) := by decide +kernel
theorem dX7_back_28 : decode cX7_back 28 = .ok (.aload_n 0, 1) := by decide +kernel
theorem dX7_back_29 : decode cX7_back 29 = .ok (.getfield 22, 3) := by decide +kernel
theorem dX7_back_32 : decode cX7_back 32 = .ok (.iload_n 1, 1) := by decide +kernel
theorem dX7_back_33 : decode cX7_back 33 = .ok (.aload_n 0, 1) := by decide +kernel
theorem dX7_back_34 : decode cX7_back 34 = .ok (.getfield 28, 3) := by decide +kernel
theorem dX7_back_37 : decode cX7_back 37 = .ok (.bipush 29, 2) := by decide +kernel
theorem dX7_back_39 : decode cX7_back 39 = .ok (.aload_n 0, 1) := by decide +kernel
theorem dX7_back_40 : decode cX7_back 40 = .ok (.getfield 87, 3) := by decide +kernel
theorem dX7_back_43 : decode cX7_back 43 = .ok (.imul, 1) := by decide +kernel
theorem dX7_back_44 : decode cX7_back 44 = .ok (.iload_n 1, 1) := by decide +kernel
theorem dX7_back_45 : decode cX7_back 45 = .ok (.iadd, 1) := by decide +kernel
theorem dX7_back_46 : decode cX7_back 46 = .ok (.iaload, 1) := by decide +kernel
theorem dX7_back_47 : decode cX7_back 47 = .ok (.iastore, 1) := by decide +kernel
theorem dX7_back_48 : decode cX7_back 48 = .ok (.iinc 1 1, 3) := by decide +kernel
theorem dX7_back_51 : decode cX7_back 51 = .ok (.goto (-29), 3) := by decide +kernel
theorem dX7_back_54 : decode cX7_back 54 = .ok (.aload_n 0, 1) := by decide +kernel
theorem dX7_back_55 : decode cX7_back 55 = .ok (.iconst 0, 1) := by decide +kernel
theorem dX7_back_56 : decode cX7_back 56 = .ok (.putfield 84, 3) := by decide +kernel
theorem dX7_back_59 : decode cX7_back 59 = .ok (.aload_n 0, 1) := by decide +kernel
theorem dX7_back_60 : decode cX7_back 60 = .ok (.getfield 87, 3) := by decide +kernel
theorem dX7_back_63 : decode cX7_back 63 = .ok (.ireturn, 1) := by decide +kernel
theorem dX7_count_0 : decode cX7_count 0 = .ok (.iconst 0, 1) := by decide +kernel
theorem dX7_count_1 : decode cX7_count 1 = .ok (.istore_n 2, 1) := by decide +kernel
theorem dX7_count_2 : decode cX7_count 2 = .ok (.iconst 0, 1) := by decide +kernel
theorem dX7_count_3 : decode cX7_count 3 = .ok (.istore_n 3, 1) := by decide +kernel
theorem dX7_count_4 : decode cX7_count 4 = .ok (.iload_n 3, 1) := by decide +kernel
theorem dX7_count_5 : decode cX7_count 5 = .ok (.aload_n 0, 1) := by decide +kernel
theorem dX7_count_6 : decode cX7_count 6 = .ok (.getfield 13, 3) := by decide +kernel
theorem dX7_count_9 : decode cX7_count 9 = .ok (.iconst 0, 1) := by decide +kernel
theorem dX7_count_10 : decode cX7_count 10 = .ok (.iaload, 1) := by decide +kernel
theorem dX7_count_11 : decode cX7_count 11 = .ok (.if_icmp .ge 21, 3) := by decide +kernel
theorem dX7_count_14 : decode cX7_count 14 = .ok (.iload_n 2, 1) := by decide +kernel
theorem dX7_count_15 : decode cX7_count 15 = .ok (.aload_n 0, 1) := by decide +kernel
theorem dX7_count_16 : decode cX7_count 16 = .ok (.getfield 22, 3) := by decide +kernel
theorem dX7_count_19 : decode cX7_count 19 = .ok (.bipush 8, 2) := by decide +kernel
theorem dX7_count_21 : decode cX7_count 21 = .ok (.iload_n 3, 1) := by decide +kernel
theorem dX7_count_22 : decode cX7_count 22 = .ok (.iadd, 1) := by decide +kernel
theorem dX7_count_23 : decode cX7_count 23 = .ok (.iaload, 1) := by decide +kernel
theorem dX7_count_24 : decode cX7_count 24 = .ok (.iadd, 1) := by decide +kernel
theorem dX7_count_25 : decode cX7_count 25 = .ok (.istore_n 2, 1) := by decide +kernel
theorem dX7_count_26 : decode cX7_count 26 = .ok (.iinc 3 1, 3) := by decide +kernel
theorem dX7_count_29 : decode cX7_count 29 = .ok (.goto (-25), 3) := by decide +kernel
theorem dX7_count_32 : decode cX7_count 32 = .ok (.iload_n 1, 1) := by decide +kernel
theorem dX7_count_33 : decode cX7_count 33 = .ok (.tableswitch 115 0 9 #[55, 62, 69, 77, 84, 91, 98, 100, 105, 110], 55) := by decide +kernel
theorem dX7_count_88 : decode cX7_count 88 = .ok (.aload_n 0, 1) := by decide +kernel
theorem dX7_count_89 : decode cX7_count 89 = .ok (.getfield 13, 3) := by decide +kernel
theorem dX7_count_92 : decode cX7_count 92 = .ok (.iconst 0, 1) := by decide +kernel
theorem dX7_count_93 : decode cX7_count 93 = .ok (.iaload, 1) := by decide +kernel
theorem dX7_count_94 : decode cX7_count 94 = .ok (.ireturn, 1) := by decide +kernel
theorem dX7_count_95 : decode cX7_count 95 = .ok (.aload_n 0, 1) := by decide +kernel
theorem dX7_count_96 : decode cX7_count 96 = .ok (.getfield 13, 3) := by decide +kernel
theorem dX7_count_99 : decode cX7_count 99 = .ok (.iconst 1, 1) := by decide +kernel
theorem dX7_count_100 : decode cX7_count 100 = .ok (.iaload, 1) := by decide +kernel
theorem dX7_count_101 : decode cX7_count 101 = .ok (.ireturn, 1) := by decide +kernel
theorem dX7_count_102 : decode cX7_count 102 = .ok (.aload_n 0, 1) := by decide +kernel
theorem dX7_count_103 : decode cX7_count 103 = .ok (.getfield 22, 3) := by decide +kernel
theorem dX7_count_106 : decode cX7_count 106 = .ok (.bipush 28, 2) := by decide +kernel
theorem dX7_count_108 : decode cX7_count 108 = .ok (.iaload, 1) := by decide +kernel
theorem dX7_count_109 : decode cX7_count 109 = .ok (.ireturn, 1) := by decide +kernel
theorem dX7_count_110 : decode cX7_count 110 = .ok (.aload_n 0, 1) := by decide +kernel
theorem dX7_count_111 : decode cX7_count 111 = .ok (.getfield 13, 3) := by decide +kernel
theorem dX7_count_114 : decode cX7_count 114 = .ok (.iconst 2, 1) := by decide +kernel
theorem dX7_count_115 : decode cX7_count 115 = .ok (.iaload, 1) := by decide +kernel
theorem dX7_count_116 : decode cX7_count 116 = .ok (.ireturn, 1) := by decide +kernel
theorem dX7_count_117 : decode cX7_count 117 = .ok (.aload_n 0, 1) := by decide +kernel
theorem dX7_count_118 : decode cX7_count 118 = .ok (.getfield 13, 3) := by decide +kernel
theorem dX7_count_121 : decode cX7_count 121 = .ok (.iconst 3, 1) := by decide +kernel
theorem dX7_count_122 : decode cX7_count 122 = .ok (.iaload, 1) := by decide +kernel
theorem dX7_count_123 : decode cX7_count 123 = .ok (.ireturn, 1) := by decide +kernel
theorem dX7_count_124 : decode cX7_count 124 = .ok (.aload_n 0, 1) := by decide +kernel
theorem dX7_count_125 : decode cX7_count 125 = .ok (.getfield 13, 3) := by decide +kernel
theorem dX7_count_128 : decode cX7_count 128 = .ok (.iconst 4, 1) := by decide +kernel
theorem dX7_count_129 : decode cX7_count 129 = .ok (.iaload, 1) := by decide +kernel
theorem dX7_count_130 : decode cX7_count 130 = .ok (.ireturn, 1) := by decide +kernel
theorem dX7_count_131 : decode cX7_count 131 = .ok (.iload_n 2, 1) := by decide +kernel
theorem dX7_count_132 : decode cX7_count 132 = .ok (.ireturn, 1) := by decide +kernel
theorem dX7_count_133 : decode cX7_count 133 = .ok (.aload_n 0, 1) := by decide +kernel
theorem dX7_count_134 : decode cX7_count 134 = .ok (.getfield 84, 3) := by decide +kernel
theorem dX7_count_137 : decode cX7_count 137 = .ok (.ireturn, 1) := by decide +kernel
theorem dX7_count_138 : decode cX7_count 138 = .ok (.aload_n 0, 1) := by decide +kernel
theorem dX7_count_139 : decode cX7_count 139 = .ok (.getfield 87, 3) := by decide +kernel
theorem dX7_count_142 : decode cX7_count 142 = .ok (.ireturn, 1) := by decide +kernel
theorem dX7_count_143 : decode cX7_count 143 = .ok (.aload_n 0, 1) := by decide +kernel
theorem dX7_count_144 : decode cX7_count 144 = .ok (.getfield 58, 3) := by decide +kernel
theorem dX7_count_147 : decode cX7_count 147 = .ok (.ireturn, 1) := by decide +kernel
theorem dX7_count_148 : decode cX7_count 148 = .ok (.iconst (-1), 1) := by decide +kernel
theorem dX7_count_149 : decode cX7_count 149 = .ok (.ireturn, 1) := by decide +kernel
theorem dJ6_bitCount_0f7a4_0 : decode cJ6_bitCount_0f7a4 0 = .ok (.iload_n 0, 1) := by decide +kernel
theorem dJ6_bitCount_0f7a4_1 : decode cJ6_bitCount_0f7a4 1 = .ok (.iload_n 0, 1) := by decide +kernel
theorem dJ6_bitCount_0f7a4_2 : decode cJ6_bitCount_0f7a4 2 = .ok (.iconst 1, 1) := by decide +kernel
theorem dJ6_bitCount_0f7a4_3 : decode cJ6_bitCount_0f7a4 3 = .ok (.iushr, 1) := by decide +kernel
theorem dJ6_bitCount_0f7a4_4 : decode cJ6_bitCount_0f7a4 4 = .ok (.ldc_w 265, 3) := by decide +kernel
theorem dJ6_bitCount_0f7a4_7 : decode cJ6_bitCount_0f7a4 7 = .ok (.iand, 1) := by decide +kernel
theorem dJ6_bitCount_0f7a4_8 : decode cJ6_bitCount_0f7a4 8 = .ok (.isub, 1) := by decide +kernel
theorem dJ6_bitCount_0f7a4_9 : decode cJ6_bitCount_0f7a4 9 = .ok (.istore_n 0, 1) := by decide +kernel
theorem dJ6_bitCount_0f7a4_10 : decode cJ6_bitCount_0f7a4 10 = .ok (.iload_n 0, 1) := by decide +kernel
theorem dJ6_bitCount_0f7a4_11 : decode cJ6_bitCount_0f7a4 11 = .ok (.ldc_w 266, 3) := by decide +kernel
theorem dJ6_bitCount_0f7a4_14 : decode cJ6_bitCount_0f7a4 14 = .ok (.iand, 1) := by decide +kernel
theorem dJ6_bitCount_0f7a4_15 : decode cJ6_bitCount_0f7a4 15 = .ok (.iload_n 0, 1) := by decide +kernel
theorem dJ6_bitCount_0f7a4_16 : decode cJ6_bitCount_0f7a4 16 = .ok (.iconst 2, 1) := by decide +kernel
theorem dJ6_bitCount_0f7a4_17 : decode cJ6_bitCount_0f7a4 17 = .ok (.iushr, 1) := by decide +kernel
theorem dJ6_bitCount_0f7a4_18 : decode cJ6_bitCount_0f7a4 18 = .ok (.ldc_w 266, 3) := by decide +kernel
theorem dJ6_bitCount_0f7a4_21 : decode cJ6_bitCount_0f7a4 21 = .ok (.iand, 1) := by decide +kernel
theorem dJ6_bitCount_0f7a4_22 : decode cJ6_bitCount_0f7a4 22 = .ok (.iadd, 1) := by decide +kernel
theorem dJ6_bitCount_0f7a4_23 : decode cJ6_bitCount_0f7a4 23 = .ok (.istore_n 0, 1) := by decide +kernel
theorem dJ6_bitCount_0f7a4_24 : decode cJ6_bitCount_0f7a4 24 = .ok (.iload_n 0, 1) := by decide +kernel
theorem dJ6_bitCount_0f7a4_25 : decode cJ6_bitCount_0f7a4 25 = .ok (.iload_n 0, 1) := by decide +kernel
theorem dJ6_bitCount_0f7a4_26 : decode cJ6_bitCount_0f7a4 26 = .ok (.iconst 4, 1) := by decide +kernel
theorem dJ6_bitCount_0f7a4_27 : decode cJ6_bitCount_0f7a4 27 = .ok (.iushr, 1) := by decide +kernel
theorem dJ6_bitCount_0f7a4_28 : decode cJ6_bitCount_0f7a4 28 = .ok (.iadd, 1) := by decide +kernel
theorem dJ6_bitCount_0f7a4_29 : decode cJ6_bitCount_0f7a4 29 = .ok (.ldc_w 267, 3) := by decide +kernel
theorem dJ6_bitCount_0f7a4_32 : decode cJ6_bitCount_0f7a4 32 = .ok (.iand, 1) := by decide +kernel
theorem dJ6_bitCount_0f7a4_33 : decode cJ6_bitCount_0f7a4 33 = .ok (.istore_n 0, 1) := by decide +kernel
theorem dJ6_bitCount_0f7a4_34 : decode cJ6_bitCount_0f7a4 34 = .ok (.iload_n 0, 1) := by decide +kernel
theorem dJ6_bitCount_0f7a4_35 : decode cJ6_bitCount_0f7a4 35 = .ok (.iload_n 0, 1) := by decide +kernel
theorem dJ6_bitCount_0f7a4_36 : decode cJ6_bitCount_0f7a4 36 = .ok (.bipush 8, 2) := by decide +kernel
theorem dJ6_bitCount_0f7a4_38 : decode cJ6_bitCount_0f7a4 38 = .ok (.iushr, 1) := by decide +kernel
theorem dJ6_bitCount_0f7a4_39 : decode cJ6_bitCount_0f7a4 39 = .ok (.iadd, 1) := by decide +kernel
theorem dJ6_bitCount_0f7a4_40 : decode cJ6_bitCount_0f7a4 40 = .ok (.istore_n 0, 1) := by decide +kernel
theorem dJ6_bitCount_0f7a4_41 : decode cJ6_bitCount_0f7a4 41 = .ok (.iload_n 0, 1) := by decide +kernel
theorem dJ6_bitCount_0f7a4_42 : decode cJ6_bitCount_0f7a4 42 = .ok (.iload_n 0, 1) := by decide +kernel
theorem dJ6_bitCount_0f7a4_43 : decode cJ6_bitCount_0f7a4 43 = .ok (.bipush 16, 2) := by decide +kernel
theorem dJ6_bitCount_0f7a4_45 : decode cJ6_bitCount_0f7a4 45 = .ok (.iushr, 1) := by decide +kernel
theorem dJ6_bitCount_0f7a4_46 : decode cJ6_bitCount_0f7a4 46 = .ok (.iadd, 1) := by decide +kernel
theorem dJ6_bitCount_0f7a4_47 : decode cJ6_bitCount_0f7a4 47 = .ok (.istore_n 0, 1) := by decide +kernel
theorem dJ6_bitCount_0f7a4_48 : decode cJ6_bitCount_0f7a4 48 = .ok (.iload_n 0, 1) := by decide +kernel
theorem dJ6_bitCount_0f7a4_49 : decode cJ6_bitCount_0f7a4 49 = .ok (.bipush 63, 2) := by decide +kernel
theorem dJ6_bitCount_0f7a4_51 : decode cJ6_bitCount_0f7a4 51 = .ok (.iand, 1) := by decide +kernel
theorem dJ6_bitCount_0f7a4_52 : decode cJ6_bitCount_0f7a4 52 = .ok (.ireturn, 1) := by decide +kernel
theorem dJ9_max_7cf53_0 : decode cJ9_max_7cf53 0 = .ok (.iload_n 0, 1) := by decide +kernel
theorem dJ9_max_7cf53_1 : decode cJ9_max_7cf53 1 = .ok (.iload_n 1, 1) := by decide +kernel
theorem dJ9_max_7cf53_2 : decode cJ9_max_7cf53 2 = .ok (.if_icmp .lt 7, 3) := by decide +kernel
theorem dJ9_max_7cf53_5 : decode cJ9_max_7cf53 5 = .ok (.iload_n 0, 1) := by decide +kernel
theorem dJ9_max_7cf53_6 : decode cJ9_max_7cf53 6 = .ok (.goto 4, 3) := by decide +kernel
theorem dJ9_max_7cf53_9 : decode cJ9_max_7cf53 9 = .ok (.iload_n 1, 1) := by decide +kernel
theorem dJ9_max_7cf53_10 : decode cJ9_max_7cf53 10 = .ok (.ireturn, 1) := by decide +kernel
theorem dJ9_min_7cf53_0 : decode cJ9_min_7cf53 0 = .ok (.iload_n 0, 1) := by decide +kernel
theorem dJ9_min_7cf53_1 : decode cJ9_min_7cf53 1 = .ok (.iload_n 1, 1) := by decide +kernel
theorem dJ9_min_7cf53_2 : decode cJ9_min_7cf53 2 = .ok (.if_icmp .gt 7, 3) := by decide +kernel
theorem dJ9_min_7cf53_5 : decode cJ9_min_7cf53 5 = .ok (.iload_n 0, 1) := by decide +kernel
theorem dJ9_min_7cf53_6 : decode cJ9_min_7cf53 6 = .ok (.goto 4, 3) := by decide +kernel
theorem dJ9_min_7cf53_9 : decode cJ9_min_7cf53 9 = .ok (.iload_n 1, 1) := by decide +kernel
theorem dJ9_min_7cf53_10 : decode cJ9_min_7cf53 10 = .ok (.ireturn, 1) := by decide +kernel
theorem dJ0_length_8abf5_0 : decode cJ0_length_8abf5 0 = .ok (.aload_n 0, 1) := by decide +kernel
theorem dJ0_length_8abf5_1 : decode cJ0_length_8abf5 1 = .ok (.getfield 9, 3) := by decide +kernel
theorem dJ0_length_8abf5_4 : decode cJ0_length_8abf5 4 = .ok (.arraylength, 1) := by decide +kernel
theorem dJ0_length_8abf5_5 : decode cJ0_length_8abf5 5 = .ok (.aload_n 0, 1) := by decide +kernel
theorem dJ0_length_8abf5_6 : decode cJ0_length_8abf5 6 = .ok (.invokevirtual 335, 3) := by decide +kernel
theorem dJ0_length_8abf5_9 : decode cJ0_length_8abf5 9 = .ok (.ishr, 1) := by decide +kernel
theorem dJ0_length_8abf5_10 : decode cJ0_length_8abf5 10 = .ok (.ireturn, 1) := by decide +kernel
theorem dJ0_charAt_5068e_0 : decode cJ0_charAt_5068e 0 = .ok (.aload_n 0, 1) := by decide +kernel
theorem dJ0_charAt_5068e_1 : decode cJ0_charAt_5068e 1 = .ok (.invokevirtual 492, 3) := by decide +kernel
theorem dJ0_charAt_5068e_4 : decode cJ0_charAt_5068e 4 = .ok (.ifCond .eq 12, 3) := by decide +kernel
theorem dJ0_charAt_5068e_7 : decode cJ0_charAt_5068e 7 = .ok (.aload_n 0, 1) := by decide +kernel
theorem dJ0_charAt_5068e_8 : decode cJ0_charAt_5068e 8 = .ok (.getfield 9, 3) := by decide +kernel
theorem dJ0_charAt_5068e_11 : decode cJ0_charAt_5068e 11 = .ok (.iload_n 1, 1) := by decide +kernel
theorem dJ0_charAt_5068e_12 : decode cJ0_charAt_5068e 12 = .ok (.invokestatic 495, 3) := by decide +kernel
theorem dJ0_charAt_5068e_15 : decode cJ0_charAt_5068e 15 = .ok (.ireturn, 1) := by decide +kernel
theorem dJ0_charAt_5068e_16 : decode cJ0_charAt_5068e 16 = .ok (.aload_n 0, 1) := by decide +kernel
theorem dJ0_charAt_5068e_17 : decode cJ0_charAt_5068e 17 = .ok (.getfield 9, 3) := by decide +kernel
theorem dJ0_charAt_5068e_20 : decode cJ0_charAt_5068e 20 = .ok (.iload_n 1, 1) := by decide +kernel
theorem dJ0_charAt_5068e_21 : decode cJ0_charAt_5068e 21 = .ok (.invokestatic 498, 3) := by decide +kernel
theorem dJ0_charAt_5068e_24 : decode cJ0_charAt_5068e 24 = .ok (.ireturn, 1) := by decide +kernel
theorem dJ0_coder_7d493_0 : decode cJ0_coder_7d493 0 = .ok (.getstatic 38, 3) := by decide +kernel
theorem dJ0_coder_7d493_3 : decode cJ0_coder_7d493 3 = .ok (.ifCond .eq 10, 3) := by decide +kernel
theorem dJ0_coder_7d493_6 : decode cJ0_coder_7d493 6 = .ok (.aload_n 0, 1) := by decide +kernel
theorem dJ0_coder_7d493_7 : decode cJ0_coder_7d493 7 = .ok (.getfield 15, 3) := by decide +kernel
theorem dJ0_coder_7d493_10 : decode cJ0_coder_7d493 10 = .ok (.goto 4, 3) := by decide +kernel
theorem dJ0_coder_7d493_13 : decode cJ0_coder_7d493 13 = .ok (.iconst 1, 1) := by decide +kernel
theorem dJ0_coder_7d493_14 : decode cJ0_coder_7d493 14 = .ok (.ireturn, 1) := by decide +kernel
theorem dJ0_isLatin1_aae02_0 : decode cJ0_isLatin1_aae02 0 = .ok (.getstatic 38, 3) := by decide +kernel
theorem dJ0_isLatin1_aae02_3 : decode cJ0_isLatin1_aae02 3 = .ok (.ifCond .eq 14, 3) := by decide +kernel
theorem dJ0_isLatin1_aae02_6 : decode cJ0_isLatin1_aae02 6 = .ok (.aload_n 0, 1) := by decide +kernel
theorem dJ0_isLatin1_aae02_7 : decode cJ0_isLatin1_aae02 7 = .ok (.getfield 15, 3) := by decide +kernel
theorem dJ0_isLatin1_aae02_10 : decode cJ0_isLatin1_aae02 10 = .ok (.ifCond .ne 7, 3) := by decide +kernel
theorem dJ0_isLatin1_aae02_13 : decode cJ0_isLatin1_aae02 13 = .ok (.iconst 1, 1) := by decide +kernel
theorem dJ0_isLatin1_aae02_14 : decode cJ0_isLatin1_aae02 14 = .ok (.goto 4, 3) := by decide +kernel
theorem dJ0_isLatin1_aae02_17 : decode cJ0_isLatin1_aae02 17 = .ok (.iconst 0, 1) := by decide +kernel
theorem dJ0_isLatin1_aae02_18 : decode cJ0_isLatin1_aae02 18 = .ok (.ireturn, 1) := by decide +kernel
theorem dJ0_checkIndex_df160_0 : decode cJ0_checkIndex_df160 0 = .ok (.iload_n 0, 1) := by decide +kernel
theorem dJ0_checkIndex_df160_1 : decode cJ0_checkIndex_df160 1 = .ok (.iload_n 1, 1) := by decide +kernel
theorem dJ0_checkIndex_df160_2 : decode cJ0_checkIndex_df160 2 = .ok (.getstatic 1053, 3) := by decide +kernel
theorem dJ0_checkIndex_df160_5 : decode cJ0_checkIndex_df160 5 = .ok (.invokestatic 1059, 3) := by decide +kernel
theorem dJ0_checkIndex_df160_8 : decode cJ0_checkIndex_df160 8 = .ok (.pop, 1) := by decide +kernel
theorem dJ0_checkIndex_df160_9 : decode cJ0_checkIndex_df160 9 = .ok (.return_, 1) := by decide +kernel
theorem dJ1_charAt_3b067_0 : decode cJ1_charAt_3b067 0 = .ok (.iload_n 1, 1) := by decide +kernel
theorem dJ1_charAt_3b067_1 : decode cJ1_charAt_3b067 1 = .ok (.aload_n 0, 1) := by decide +kernel
theorem dJ1_charAt_3b067_2 : decode cJ1_charAt_3b067 2 = .ok (.arraylength, 1) := by decide +kernel
theorem dJ1_charAt_3b067_3 : decode cJ1_charAt_3b067 3 = .ok (.invokestatic 9, 3) := by decide +kernel
theorem dJ1_charAt_3b067_6 : decode cJ1_charAt_3b067 6 = .ok (.aload_n 0, 1) := by decide +kernel
theorem dJ1_charAt_3b067_7 : decode cJ1_charAt_3b067 7 = .ok (.iload_n 1, 1) := by decide +kernel
theorem dJ1_charAt_3b067_8 : decode cJ1_charAt_3b067 8 = .ok (.baload, 1) := by decide +kernel
theorem dJ1_charAt_3b067_9 : decode cJ1_charAt_3b067 9 = .ok (.sipush 255, 3) := by decide +kernel
theorem dJ1_charAt_3b067_12 : decode cJ1_charAt_3b067 12 = .ok (.iand, 1) := by decide +kernel
theorem dJ1_charAt_3b067_13 : decode cJ1_charAt_3b067 13 = .ok (.i2c, 1) := by decide +kernel
theorem dJ1_charAt_3b067_14 : decode cJ1_charAt_3b067 14 = .ok (.ireturn, 1) := by decide +kernel
theorem dJ2_getChar_3b067_0 : decode cJ2_getChar_3b067 0 = .ok (.getstatic 44, 3) := by decide +kernel
theorem dJ2_getChar_3b067_3 : decode cJ2_getChar_3b067 3 = .ok (.ifCond .ne 25, 3) := by decide +kernel
theorem dJ2_getChar_3b067_6 : decode cJ2_getChar_3b067 6 = .ok (.iload_n 1, 1) := by decide +kernel
theorem dJ2_getChar_3b067_7 : decode cJ2_getChar_3b067 7 = .ok (.ifCond .lt 11, 3) := by decide +kernel
theorem dJ2_getChar_3b067_10 : decode cJ2_getChar_3b067 10 = .ok (.iload_n 1, 1) := by decide +kernel
theorem dJ2_getChar_3b067_11 : decode cJ2_getChar_3b067 11 = .ok (.aload_n 0, 1) := by decide +kernel
theorem dJ2_getChar_3b067_12 : decode cJ2_getChar_3b067 12 = .ok (.invokestatic 48, 3) := by decide +kernel
theorem dJ2_getChar_3b067_15 : decode cJ2_getChar_3b067 15 = .ok (.if_icmp .lt 13, 3) := by decide +kernel
theorem dJ2_getChar_3b067_18 : decode cJ2_getChar_3b067 18 = .ok (.new 52, 3) := by decide +kernel
theorem dJ2_getChar_3b067_21 : decode cJ2_getChar_3b067 21 = .ok (.dup, 1) := by decide +kernel
theorem dJ2_getChar_3b067_22 : decode cJ2_getChar_3b067 22 = .ok (.ldc 54, 2) := by decide +kernel
theorem dJ2_getChar_3b067_24 : decode cJ2_getChar_3b067 24 = .ok (.invokespecial 56, 3) := by decide +kernel
theorem dJ2_getChar_3b067_27 : decode cJ2_getChar_3b067 27 = .ok (.athrow, 1) := by decide +kernel
theorem dJ2_getChar_3b067_28 : decode cJ2_getChar_3b067 28 = .ok (.iload_n 1, 1) := by decide +kernel
theorem dJ2_getChar_3b067_29 : decode cJ2_getChar_3b067 29 = .ok (.iconst 1, 1) := by decide +kernel
theorem dJ2_getChar_3b067_30 : decode cJ2_getChar_3b067 30 = .ok (.ishl, 1) := by decide +kernel
theorem dJ2_getChar_3b067_31 : decode cJ2_getChar_3b067 31 = .ok (.istore_n 1, 1) := by decide +kernel
theorem dJ2_getChar_3b067_32 : decode cJ2_getChar_3b067 32 = .ok (.aload_n 0, 1) := by decide +kernel
theorem dJ2_getChar_3b067_33 : decode cJ2_getChar_3b067 33 = .ok (.iload_n 1, 1) := by decide +kernel
theorem dJ2_getChar_3b067_34 : decode cJ2_getChar_3b067 34 = .ok (.iinc 1 1, 3) := by decide +kernel
theorem dJ2_getChar_3b067_37 : decode cJ2_getChar_3b067 37 = .ok (.baload, 1) := by decide +kernel
theorem dJ2_getChar_3b067_38 : decode cJ2_getChar_3b067 38 = .ok (.sipush 255, 3) := by decide +kernel
theorem dJ2_getChar_3b067_41 : decode cJ2_getChar_3b067 41 = .ok (.iand, 1) := by decide +kernel
theorem dJ2_getChar_3b067_42 : decode cJ2_getChar_3b067 42 = .ok (.getstatic 59, 3) := by decide +kernel
theorem dJ2_getChar_3b067_45 : decode cJ2_getChar_3b067 45 = .ok (.ishl, 1) := by decide +kernel
theorem dJ2_getChar_3b067_46 : decode cJ2_getChar_3b067 46 = .ok (.aload_n 0, 1) := by decide +kernel
theorem dJ2_getChar_3b067_47 : decode cJ2_getChar_3b067 47 = .ok (.iload_n 1, 1) := by decide +kernel
theorem dJ2_getChar_3b067_48 : decode cJ2_getChar_3b067 48 = .ok (.baload, 1) := by decide +kernel
theorem dJ2_getChar_3b067_49 : decode cJ2_getChar_3b067 49 = .ok (.sipush 255, 3) := by decide +kernel
theorem dJ2_getChar_3b067_52 : decode cJ2_getChar_3b067 52 = .ok (.iand, 1) := by decide +kernel
theorem dJ2_getChar_3b067_53 : decode cJ2_getChar_3b067 53 = .ok (.getstatic 63, 3) := by decide +kernel
theorem dJ2_getChar_3b067_56 : decode cJ2_getChar_3b067 56 = .ok (.ishl, 1) := by decide +kernel
theorem dJ2_getChar_3b067_57 : decode cJ2_getChar_3b067 57 = .ok (.ior, 1) := by decide +kernel
theorem dJ2_getChar_3b067_58 : decode cJ2_getChar_3b067 58 = .ok (.i2c, 1) := by decide +kernel
theorem dJ2_getChar_3b067_59 : decode cJ2_getChar_3b067 59 = .ok (.ireturn, 1) := by decide +kernel
theorem dJ2_length_9d52b_0 : decode cJ2_length_9d52b 0 = .ok (.aload_n 0, 1) := by decide +kernel
theorem dJ2_length_9d52b_1 : decode cJ2_length_9d52b 1 = .ok (.arraylength, 1) := by decide +kernel
theorem dJ2_length_9d52b_2 : decode cJ2_length_9d52b 2 = .ok (.iconst 1, 1) := by decide +kernel
theorem dJ2_length_9d52b_3 : decode cJ2_length_9d52b 3 = .ok (.ishr, 1) := by decide +kernel
theorem dJ2_length_9d52b_4 : decode cJ2_length_9d52b 4 = .ok (.ireturn, 1) := by decide +kernel
theorem dJ2_charAt_3b067_0 : decode cJ2_charAt_3b067 0 = .ok (.iload_n 1, 1) := by decide +kernel
theorem dJ2_charAt_3b067_1 : decode cJ2_charAt_3b067 1 = .ok (.aload_n 0, 1) := by decide +kernel
theorem dJ2_charAt_3b067_2 : decode cJ2_charAt_3b067 2 = .ok (.invokestatic 67, 3) := by decide +kernel
theorem dJ2_charAt_3b067_5 : decode cJ2_charAt_3b067 5 = .ok (.aload_n 0, 1) := by decide +kernel
theorem dJ2_charAt_3b067_6 : decode cJ2_charAt_3b067 6 = .ok (.iload_n 1, 1) := by decide +kernel
theorem dJ2_charAt_3b067_7 : decode cJ2_charAt_3b067 7 = .ok (.invokestatic 71, 3) := by decide +kernel
theorem dJ2_charAt_3b067_10 : decode cJ2_charAt_3b067 10 = .ok (.ireturn, 1) := by decide +kernel
theorem dJ2_checkIndex_2214a_0 : decode cJ2_checkIndex_2214a 0 = .ok (.iload_n 0, 1) := by decide +kernel
theorem dJ2_checkIndex_2214a_1 : decode cJ2_checkIndex_2214a 1 = .ok (.aload_n 1, 1) := by decide +kernel
theorem dJ2_checkIndex_2214a_2 : decode cJ2_checkIndex_2214a 2 = .ok (.invokestatic 48, 3) := by decide +kernel
theorem dJ2_checkIndex_2214a_5 : decode cJ2_checkIndex_2214a 5 = .ok (.invokestatic 414, 3) := by decide +kernel
theorem dJ2_checkIndex_2214a_8 : decode cJ2_checkIndex_2214a 8 = .ok (.return_, 1) := by decide +kernel
theorem dJ3_checkIndex_8e157_0 : decode cJ3_checkIndex_8e157 0 = .ok (.iload_n 0, 1) := by decide +kernel
theorem dJ3_checkIndex_8e157_1 : decode cJ3_checkIndex_8e157 1 = .ok (.ifCond .lt 8, 3) := by decide +kernel
theorem dJ3_checkIndex_8e157_4 : decode cJ3_checkIndex_8e157 4 = .ok (.iload_n 0, 1) := by decide +kernel
theorem dJ3_checkIndex_8e157_5 : decode cJ3_checkIndex_8e157 5 = .ok (.iload_n 1, 1) := by decide +kernel
theorem dJ3_checkIndex_8e157_6 : decode cJ3_checkIndex_8e157 6 = .ok (.if_icmp .lt 10, 3) := by decide +kernel
theorem dJ3_checkIndex_8e157_9 : decode cJ3_checkIndex_8e157 9 = .ok (.aload_n 2, 1) := by decide +kernel
theorem dJ3_checkIndex_8e157_10 : decode cJ3_checkIndex_8e157 10 = .ok (.iload_n 0, 1) := by decide +kernel
theorem dJ3_checkIndex_8e157_11 : decode cJ3_checkIndex_8e157 11 = .ok (.iload_n 1, 1) := by decide +kernel
theorem dJ3_checkIndex_8e157_12 : decode cJ3_checkIndex_8e157 12 = .ok (.invokestatic 95, 3) := by decide +kernel
theorem dJ3_checkIndex_8e157_15 : decode cJ3_checkIndex_8e157 15 = .ok (.athrow, 1) := by decide +kernel
theorem dJ3_checkIndex_8e157_16 : decode cJ3_checkIndex_8e157 16 = .ok (.iload_n 0, 1) := by decide +kernel
theorem dJ3_checkIndex_8e157_17 : decode cJ3_checkIndex_8e157 17 = .ok (.ireturn, 1) := by decide +kernel
theorem dL_law_0 : decode cL_law 0 = .ok (.new 7, 3) := by decide +kernel
theorem dL_law_3 : decode cL_law 3 = .ok (.dup, 1) := by decide +kernel
theorem dL_law_4 : decode cL_law 4 = .ok (.invokespecial 9, 3) := by decide +kernel
theorem dL_law_7 : decode cL_law 7 = .ok (.astore_n 1, 1) := by decide +kernel
theorem dL_law_8 : decode cL_law 8 = .ok (.new 10, 3) := by decide +kernel
theorem dL_law_11 : decode cL_law 11 = .ok (.dup, 1) := by decide +kernel
theorem dL_law_12 : decode cL_law 12 = .ok (.invokespecial 12, 3) := by decide +kernel
theorem dL_law_15 : decode cL_law 15 = .ok (.astore_n 2, 1) := by decide +kernel
theorem dL_law_16 : decode cL_law 16 = .ok (.iconst 0, 1) := by decide +kernel
theorem dL_law_17 : decode cL_law 17 = .ok (.istore_n 3, 1) := by decide +kernel
theorem dL_law_18 : decode cL_law 18 = .ok (.iload_n 3, 1) := by decide +kernel
theorem dL_law_19 : decode cL_law 19 = .ok (.aload_n 0, 1) := by decide +kernel
theorem dL_law_20 : decode cL_law 20 = .ok (.arraylength, 1) := by decide +kernel
theorem dL_law_21 : decode cL_law 21 = .ok (.iconst 5, 1) := by decide +kernel
theorem dL_law_22 : decode cL_law 22 = .ok (.isub, 1) := by decide +kernel
theorem dL_law_23 : decode cL_law 23 = .ok (.if_icmp .gt 790, 3) := by decide +kernel
theorem dL_law_26 : decode cL_law 26 = .ok (.aload_n 0, 1) := by decide +kernel
theorem dL_law_27 : decode cL_law 27 = .ok (.iload_n 3, 1) := by decide +kernel
theorem dL_law_28 : decode cL_law 28 = .ok (.iaload, 1) := by decide +kernel
theorem dL_law_29 : decode cL_law 29 = .ok (.bipush 31, 2) := by decide +kernel
theorem dL_law_31 : decode cL_law 31 = .ok (.iand, 1) := by decide +kernel
theorem dL_law_32 : decode cL_law 32 = .ok (.tableswitch 775 0 26 #[124, 147, 160, 173, 186, 219, 252, 285, 318, 341, 374, 397, 410, 433, 446, 469, 492, 505, 538, 571, 604, 657, 670, 683, 726, 739, 752], 124) := by decide +kernel
theorem dL_law_156 : decode cL_law 156 = .ok (.aload_n 1, 1) := by decide +kernel
theorem dL_law_157 : decode cL_law 157 = .ok (.aload_n 0, 1) := by decide +kernel
theorem dL_law_158 : decode cL_law 158 = .ok (.iload_n 3, 1) := by decide +kernel
theorem dL_law_159 : decode cL_law 159 = .ok (.iconst 1, 1) := by decide +kernel
theorem dL_law_160 : decode cL_law 160 = .ok (.iadd, 1) := by decide +kernel
theorem dL_law_161 : decode cL_law 161 = .ok (.iaload, 1) := by decide +kernel
theorem dL_law_162 : decode cL_law 162 = .ok (.invokevirtual 13, 3) := by decide +kernel
theorem dL_law_165 : decode cL_law 165 = .ok (.aload_n 2, 1) := by decide +kernel
theorem dL_law_166 : decode cL_law 166 = .ok (.aload_n 0, 1) := by decide +kernel
theorem dL_law_167 : decode cL_law 167 = .ok (.iload_n 3, 1) := by decide +kernel
theorem dL_law_168 : decode cL_law 168 = .ok (.iconst 1, 1) := by decide +kernel
theorem dL_law_169 : decode cL_law 169 = .ok (.iadd, 1) := by decide +kernel
theorem dL_law_170 : decode cL_law 170 = .ok (.iaload, 1) := by decide +kernel
theorem dL_law_171 : decode cL_law 171 = .ok (.invokevirtual 17, 3) := by decide +kernel
theorem dL_law_174 : decode cL_law 174 = .ok (.if_icmp .eq 633, 3) := by decide +kernel
theorem dL_law_177 : decode cL_law 177 = .ok (.iconst 0, 1) := by decide +kernel
theorem dL_law_178 : decode cL_law 178 = .ok (.ireturn, 1) := by decide +kernel
theorem dL_law_179 : decode cL_law 179 = .ok (.aload_n 1, 1) := by decide +kernel
theorem dL_law_180 : decode cL_law 180 = .ok (.invokevirtual 18, 3) := by decide +kernel
theorem dL_law_183 : decode cL_law 183 = .ok (.aload_n 2, 1) := by decide +kernel
theorem dL_law_184 : decode cL_law 184 = .ok (.invokevirtual 22, 3) := by decide +kernel
theorem dL_law_187 : decode cL_law 187 = .ok (.if_icmp .eq 620, 3) := by decide +kernel
theorem dL_law_190 : decode cL_law 190 = .ok (.iconst 0, 1) := by decide +kernel
theorem dL_law_191 : decode cL_law 191 = .ok (.ireturn, 1) := by decide +kernel
theorem dL_law_192 : decode cL_law 192 = .ok (.aload_n 1, 1) := by decide +kernel
theorem dL_law_193 : decode cL_law 193 = .ok (.invokevirtual 23, 3) := by decide +kernel
theorem dL_law_196 : decode cL_law 196 = .ok (.aload_n 2, 1) := by decide +kernel
theorem dL_law_197 : decode cL_law 197 = .ok (.invokevirtual 26, 3) := by decide +kernel
theorem dL_law_200 : decode cL_law 200 = .ok (.if_icmp .eq 607, 3) := by decide +kernel
theorem dL_law_203 : decode cL_law 203 = .ok (.iconst 0, 1) := by decide +kernel
theorem dL_law_204 : decode cL_law 204 = .ok (.ireturn, 1) := by decide +kernel
theorem dL_law_205 : decode cL_law 205 = .ok (.aload_n 1, 1) := by decide +kernel
theorem dL_law_206 : decode cL_law 206 = .ok (.invokevirtual 27, 3) := by decide +kernel
theorem dL_law_209 : decode cL_law 209 = .ok (.aload_n 2, 1) := by decide +kernel
theorem dL_law_210 : decode cL_law 210 = .ok (.invokevirtual 30, 3) := by decide +kernel
theorem dL_law_213 : decode cL_law 213 = .ok (.if_icmp .eq 594, 3) := by decide +kernel
theorem dL_law_216 : decode cL_law 216 = .ok (.iconst 0, 1) := by decide +kernel
theorem dL_law_217 : decode cL_law 217 = .ok (.ireturn, 1) := by decide +kernel
theorem dL_law_218 : decode cL_law 218 = .ok (.aload_n 1, 1) := by decide +kernel
theorem dL_law_219 : decode cL_law 219 = .ok (.aload_n 0, 1) := by decide +kernel
theorem dL_law_220 : decode cL_law 220 = .ok (.iload_n 3, 1) := by decide +kernel
theorem dL_law_221 : decode cL_law 221 = .ok (.iconst 1, 1) := by decide +kernel
theorem dL_law_222 : decode cL_law 222 = .ok (.iadd, 1) := by decide +kernel
theorem dL_law_223 : decode cL_law 223 = .ok (.iaload, 1) := by decide +kernel
theorem dL_law_224 : decode cL_law 224 = .ok (.aload_n 0, 1) := by decide +kernel
theorem dL_law_225 : decode cL_law 225 = .ok (.iload_n 3, 1) := by decide +kernel
theorem dL_law_226 : decode cL_law 226 = .ok (.iconst 2, 1) := by decide +kernel
theorem dL_law_227 : decode cL_law 227 = .ok (.iadd, 1) := by decide +kernel
theorem dL_law_228 : decode cL_law 228 = .ok (.iaload, 1) := by decide +kernel
theorem dL_law_229 : decode cL_law 229 = .ok (.invokevirtual 31, 3) := by decide +kernel
theorem dL_law_232 : decode cL_law 232 = .ok (.aload_n 2, 1) := by decide +kernel
theorem dL_law_233 : decode cL_law 233 = .ok (.aload_n 0, 1) := by decide +kernel
theorem dL_law_234 : decode cL_law 234 = .ok (.iload_n 3, 1) := by decide +kernel
theorem dL_law_235 : decode cL_law 235 = .ok (.iconst 1, 1) := by decide +kernel
theorem dL_law_236 : decode cL_law 236 = .ok (.iadd, 1) := by decide +kernel
theorem dL_law_237 : decode cL_law 237 = .ok (.iaload, 1) := by decide +kernel
theorem dL_law_238 : decode cL_law 238 = .ok (.aload_n 0, 1) := by decide +kernel
theorem dL_law_239 : decode cL_law 239 = .ok (.iload_n 3, 1) := by decide +kernel
theorem dL_law_240 : decode cL_law 240 = .ok (.iconst 2, 1) := by decide +kernel
theorem dL_law_241 : decode cL_law 241 = .ok (.iadd, 1) := by decide +kernel
theorem dL_law_242 : decode cL_law 242 = .ok (.iaload, 1) := by decide +kernel
theorem dL_law_243 : decode cL_law 243 = .ok (.invokevirtual 35, 3) := by decide +kernel
theorem dL_law_246 : decode cL_law 246 = .ok (.if_icmp .eq 561, 3) := by decide +kernel
theorem dL_law_249 : decode cL_law 249 = .ok (.iconst 0, 1) := by decide +kernel
theorem dL_law_250 : decode cL_law 250 = .ok (.ireturn, 1) := by decide +kernel
theorem dL_law_251 : decode cL_law 251 = .ok (.aload_n 1, 1) := by decide +kernel
theorem dL_law_252 : decode cL_law 252 = .ok (.aload_n 0, 1) := by decide +kernel
theorem dL_law_253 : decode cL_law 253 = .ok (.iload_n 3, 1) := by decide +kernel
theorem dL_law_254 : decode cL_law 254 = .ok (.iconst 1, 1) := by decide +kernel
theorem dL_law_255 : decode cL_law 255 = .ok (.iadd, 1) := by decide +kernel
theorem dL_law_256 : decode cL_law 256 = .ok (.iaload, 1) := by decide +kernel
theorem dL_law_257 : decode cL_law 257 = .ok (.aload_n 0, 1) := by decide +kernel
theorem dL_law_258 : decode cL_law 258 = .ok (.iload_n 3, 1) := by decide +kernel
theorem dL_law_259 : decode cL_law 259 = .ok (.iconst 2, 1) := by decide +kernel
theorem dL_law_260 : decode cL_law 260 = .ok (.iadd, 1) := by decide +kernel
theorem dL_law_261 : decode cL_law 261 = .ok (.iaload, 1) := by decide +kernel
theorem dL_law_262 : decode cL_law 262 = .ok (.invokevirtual 36, 3) := by decide +kernel
theorem dL_law_265 : decode cL_law 265 = .ok (.aload_n 2, 1) := by decide +kernel
theorem dL_law_266 : decode cL_law 266 = .ok (.aload_n 0, 1) := by decide +kernel
theorem dL_law_267 : decode cL_law 267 = .ok (.iload_n 3, 1) := by decide +kernel
theorem dL_law_268 : decode cL_law 268 = .ok (.iconst 1, 1) := by decide +kernel
theorem dL_law_269 : decode cL_law 269 = .ok (.iadd, 1) := by decide +kernel
theorem dL_law_270 : decode cL_law 270 = .ok (.iaload, 1) := by decide +kernel
theorem dL_law_271 : decode cL_law 271 = .ok (.aload_n 0, 1) := by decide +kernel
theorem dL_law_272 : decode cL_law 272 = .ok (.iload_n 3, 1) := by decide +kernel
theorem dL_law_273 : decode cL_law 273 = .ok (.iconst 2, 1) := by decide +kernel
theorem dL_law_274 : decode cL_law 274 = .ok (.iadd, 1) := by decide +kernel
theorem dL_law_275 : decode cL_law 275 = .ok (.iaload, 1) := by decide +kernel
theorem dL_law_276 : decode cL_law 276 = .ok (.invokevirtual 39, 3) := by decide +kernel
theorem dL_law_279 : decode cL_law 279 = .ok (.if_icmp .eq 528, 3) := by decide +kernel
theorem dL_law_282 : decode cL_law 282 = .ok (.iconst 0, 1) := by decide +kernel
theorem dL_law_283 : decode cL_law 283 = .ok (.ireturn, 1) := by decide +kernel
theorem dL_law_284 : decode cL_law 284 = .ok (.aload_n 1, 1) := by decide +kernel
theorem dL_law_285 : decode cL_law 285 = .ok (.aload_n 0, 1) := by decide +kernel
theorem dL_law_286 : decode cL_law 286 = .ok (.iload_n 3, 1) := by decide +kernel
theorem dL_law_287 : decode cL_law 287 = .ok (.iconst 1, 1) := by decide +kernel
theorem dL_law_288 : decode cL_law 288 = .ok (.iadd, 1) := by decide +kernel
theorem dL_law_289 : decode cL_law 289 = .ok (.iaload, 1) := by decide +kernel
theorem dL_law_290 : decode cL_law 290 = .ok (.aload_n 0, 1) := by decide +kernel
theorem dL_law_291 : decode cL_law 291 = .ok (.iload_n 3, 1) := by decide +kernel
theorem dL_law_292 : decode cL_law 292 = .ok (.iconst 2, 1) := by decide +kernel
theorem dL_law_293 : decode cL_law 293 = .ok (.iadd, 1) := by decide +kernel
theorem dL_law_294 : decode cL_law 294 = .ok (.iaload, 1) := by decide +kernel
theorem dL_law_295 : decode cL_law 295 = .ok (.invokevirtual 40, 3) := by decide +kernel
theorem dL_law_298 : decode cL_law 298 = .ok (.aload_n 2, 1) := by decide +kernel
theorem dL_law_299 : decode cL_law 299 = .ok (.aload_n 0, 1) := by decide +kernel
theorem dL_law_300 : decode cL_law 300 = .ok (.iload_n 3, 1) := by decide +kernel
theorem dL_law_301 : decode cL_law 301 = .ok (.iconst 1, 1) := by decide +kernel
theorem dL_law_302 : decode cL_law 302 = .ok (.iadd, 1) := by decide +kernel
theorem dL_law_303 : decode cL_law 303 = .ok (.iaload, 1) := by decide +kernel
theorem dL_law_304 : decode cL_law 304 = .ok (.aload_n 0, 1) := by decide +kernel
theorem dL_law_305 : decode cL_law 305 = .ok (.iload_n 3, 1) := by decide +kernel
theorem dL_law_306 : decode cL_law 306 = .ok (.iconst 2, 1) := by decide +kernel
theorem dL_law_307 : decode cL_law 307 = .ok (.iadd, 1) := by decide +kernel
theorem dL_law_308 : decode cL_law 308 = .ok (.iaload, 1) := by decide +kernel
theorem dL_law_309 : decode cL_law 309 = .ok (.invokevirtual 43, 3) := by decide +kernel
theorem dL_law_312 : decode cL_law 312 = .ok (.if_icmp .eq 495, 3) := by decide +kernel
theorem dL_law_315 : decode cL_law 315 = .ok (.iconst 0, 1) := by decide +kernel
theorem dL_law_316 : decode cL_law 316 = .ok (.ireturn, 1) := by decide +kernel
theorem dL_law_317 : decode cL_law 317 = .ok (.aload_n 1, 1) := by decide +kernel
theorem dL_law_318 : decode cL_law 318 = .ok (.aload_n 0, 1) := by decide +kernel
theorem dL_law_319 : decode cL_law 319 = .ok (.iload_n 3, 1) := by decide +kernel
theorem dL_law_320 : decode cL_law 320 = .ok (.iconst 1, 1) := by decide +kernel
theorem dL_law_321 : decode cL_law 321 = .ok (.iadd, 1) := by decide +kernel
theorem dL_law_322 : decode cL_law 322 = .ok (.iaload, 1) := by decide +kernel
theorem dL_law_323 : decode cL_law 323 = .ok (.aload_n 0, 1) := by decide +kernel
theorem dL_law_324 : decode cL_law 324 = .ok (.iload_n 3, 1) := by decide +kernel
theorem dL_law_325 : decode cL_law 325 = .ok (.iconst 2, 1) := by decide +kernel
theorem dL_law_326 : decode cL_law 326 = .ok (.iadd, 1) := by decide +kernel
theorem dL_law_327 : decode cL_law 327 = .ok (.iaload, 1) := by decide +kernel
theorem dL_law_328 : decode cL_law 328 = .ok (.invokevirtual 44, 3) := by decide +kernel
theorem dL_law_331 : decode cL_law 331 = .ok (.aload_n 2, 1) := by decide +kernel
theorem dL_law_332 : decode cL_law 332 = .ok (.aload_n 0, 1) := by decide +kernel
theorem dL_law_333 : decode cL_law 333 = .ok (.iload_n 3, 1) := by decide +kernel
theorem dL_law_334 : decode cL_law 334 = .ok (.iconst 1, 1) := by decide +kernel
theorem dL_law_335 : decode cL_law 335 = .ok (.iadd, 1) := by decide +kernel
theorem dL_law_336 : decode cL_law 336 = .ok (.iaload, 1) := by decide +kernel
theorem dL_law_337 : decode cL_law 337 = .ok (.aload_n 0, 1) := by decide +kernel
theorem dL_law_338 : decode cL_law 338 = .ok (.iload_n 3, 1) := by decide +kernel
theorem dL_law_339 : decode cL_law 339 = .ok (.iconst 2, 1) := by decide +kernel
theorem dL_law_340 : decode cL_law 340 = .ok (.iadd, 1) := by decide +kernel
theorem dL_law_341 : decode cL_law 341 = .ok (.iaload, 1) := by decide +kernel
theorem dL_law_342 : decode cL_law 342 = .ok (.invokevirtual 47, 3) := by decide +kernel
theorem dL_law_345 : decode cL_law 345 = .ok (.if_icmp .eq 462, 3) := by decide +kernel
theorem dL_law_348 : decode cL_law 348 = .ok (.iconst 0, 1) := by decide +kernel
theorem dL_law_349 : decode cL_law 349 = .ok (.ireturn, 1) := by decide +kernel
theorem dL_law_350 : decode cL_law 350 = .ok (.aload_n 1, 1) := by decide +kernel
theorem dL_law_351 : decode cL_law 351 = .ok (.aload_n 0, 1) := by decide +kernel
theorem dL_law_352 : decode cL_law 352 = .ok (.iload_n 3, 1) := by decide +kernel
theorem dL_law_353 : decode cL_law 353 = .ok (.iconst 1, 1) := by decide +kernel
theorem dL_law_354 : decode cL_law 354 = .ok (.iadd, 1) := by decide +kernel
theorem dL_law_355 : decode cL_law 355 = .ok (.iaload, 1) := by decide +kernel
theorem dL_law_356 : decode cL_law 356 = .ok (.invokevirtual 48, 3) := by decide +kernel
theorem dL_law_359 : decode cL_law 359 = .ok (.aload_n 2, 1) := by decide +kernel
theorem dL_law_360 : decode cL_law 360 = .ok (.aload_n 0, 1) := by decide +kernel
theorem dL_law_361 : decode cL_law 361 = .ok (.iload_n 3, 1) := by decide +kernel
theorem dL_law_362 : decode cL_law 362 = .ok (.iconst 1, 1) := by decide +kernel
theorem dL_law_363 : decode cL_law 363 = .ok (.iadd, 1) := by decide +kernel
theorem dL_law_364 : decode cL_law 364 = .ok (.iaload, 1) := by decide +kernel
theorem dL_law_365 : decode cL_law 365 = .ok (.invokevirtual 51, 3) := by decide +kernel
theorem dL_law_368 : decode cL_law 368 = .ok (.if_icmp .eq 439, 3) := by decide +kernel
theorem dL_law_371 : decode cL_law 371 = .ok (.iconst 0, 1) := by decide +kernel
theorem dL_law_372 : decode cL_law 372 = .ok (.ireturn, 1) := by decide +kernel
theorem dL_law_373 : decode cL_law 373 = .ok (.aload_n 1, 1) := by decide +kernel
theorem dL_law_374 : decode cL_law 374 = .ok (.aload_n 0, 1) := by decide +kernel
theorem dL_law_375 : decode cL_law 375 = .ok (.iload_n 3, 1) := by decide +kernel
theorem dL_law_376 : decode cL_law 376 = .ok (.iconst 1, 1) := by decide +kernel
theorem dL_law_377 : decode cL_law 377 = .ok (.iadd, 1) := by decide +kernel
theorem dL_law_378 : decode cL_law 378 = .ok (.iaload, 1) := by decide +kernel
theorem dL_law_379 : decode cL_law 379 = .ok (.aload_n 0, 1) := by decide +kernel
theorem dL_law_380 : decode cL_law 380 = .ok (.iload_n 3, 1) := by decide +kernel
theorem dL_law_381 : decode cL_law 381 = .ok (.iconst 2, 1) := by decide +kernel
theorem dL_law_382 : decode cL_law 382 = .ok (.iadd, 1) := by decide +kernel
theorem dL_law_383 : decode cL_law 383 = .ok (.iaload, 1) := by decide +kernel
theorem dL_law_384 : decode cL_law 384 = .ok (.invokevirtual 52, 3) := by decide +kernel
theorem dL_law_387 : decode cL_law 387 = .ok (.aload_n 2, 1) := by decide +kernel
theorem dL_law_388 : decode cL_law 388 = .ok (.aload_n 0, 1) := by decide +kernel
theorem dL_law_389 : decode cL_law 389 = .ok (.iload_n 3, 1) := by decide +kernel
theorem dL_law_390 : decode cL_law 390 = .ok (.iconst 1, 1) := by decide +kernel
theorem dL_law_391 : decode cL_law 391 = .ok (.iadd, 1) := by decide +kernel
theorem dL_law_392 : decode cL_law 392 = .ok (.iaload, 1) := by decide +kernel
theorem dL_law_393 : decode cL_law 393 = .ok (.aload_n 0, 1) := by decide +kernel
theorem dL_law_394 : decode cL_law 394 = .ok (.iload_n 3, 1) := by decide +kernel
theorem dL_law_395 : decode cL_law 395 = .ok (.iconst 2, 1) := by decide +kernel
theorem dL_law_396 : decode cL_law 396 = .ok (.iadd, 1) := by decide +kernel
theorem dL_law_397 : decode cL_law 397 = .ok (.iaload, 1) := by decide +kernel
theorem dL_law_398 : decode cL_law 398 = .ok (.invokevirtual 55, 3) := by decide +kernel
theorem dL_law_401 : decode cL_law 401 = .ok (.if_icmp .eq 406, 3) := by decide +kernel
theorem dL_law_404 : decode cL_law 404 = .ok (.iconst 0, 1) := by decide +kernel
theorem dL_law_405 : decode cL_law 405 = .ok (.ireturn, 1) := by decide +kernel
theorem dL_law_406 : decode cL_law 406 = .ok (.aload_n 1, 1) := by decide +kernel
theorem dL_law_407 : decode cL_law 407 = .ok (.aload_n 0, 1) := by decide +kernel
theorem dL_law_408 : decode cL_law 408 = .ok (.iload_n 3, 1) := by decide +kernel
theorem dL_law_409 : decode cL_law 409 = .ok (.iconst 1, 1) := by decide +kernel
theorem dL_law_410 : decode cL_law 410 = .ok (.iadd, 1) := by decide +kernel
theorem dL_law_411 : decode cL_law 411 = .ok (.iaload, 1) := by decide +kernel
theorem dL_law_412 : decode cL_law 412 = .ok (.invokevirtual 56, 3) := by decide +kernel
theorem dL_law_415 : decode cL_law 415 = .ok (.aload_n 2, 1) := by decide +kernel
theorem dL_law_416 : decode cL_law 416 = .ok (.aload_n 0, 1) := by decide +kernel
theorem dL_law_417 : decode cL_law 417 = .ok (.iload_n 3, 1) := by decide +kernel
theorem dL_law_418 : decode cL_law 418 = .ok (.iconst 1, 1) := by decide +kernel
theorem dL_law_419 : decode cL_law 419 = .ok (.iadd, 1) := by decide +kernel
theorem dL_law_420 : decode cL_law 420 = .ok (.iaload, 1) := by decide +kernel
theorem dL_law_421 : decode cL_law 421 = .ok (.invokevirtual 59, 3) := by decide +kernel
theorem dL_law_424 : decode cL_law 424 = .ok (.if_icmp .eq 383, 3) := by decide +kernel
theorem dL_law_427 : decode cL_law 427 = .ok (.iconst 0, 1) := by decide +kernel
theorem dL_law_428 : decode cL_law 428 = .ok (.ireturn, 1) := by decide +kernel
theorem dL_law_429 : decode cL_law 429 = .ok (.aload_n 1, 1) := by decide +kernel
theorem dL_law_430 : decode cL_law 430 = .ok (.invokevirtual 60, 3) := by decide +kernel
theorem dL_law_433 : decode cL_law 433 = .ok (.aload_n 2, 1) := by decide +kernel
theorem dL_law_434 : decode cL_law 434 = .ok (.invokevirtual 63, 3) := by decide +kernel
theorem dL_law_437 : decode cL_law 437 = .ok (.if_icmp .eq 370, 3) := by decide +kernel
theorem dL_law_440 : decode cL_law 440 = .ok (.iconst 0, 1) := by decide +kernel
theorem dL_law_441 : decode cL_law 441 = .ok (.ireturn, 1) := by decide +kernel
theorem dL_law_442 : decode cL_law 442 = .ok (.aload_n 1, 1) := by decide +kernel
theorem dL_law_443 : decode cL_law 443 = .ok (.aload_n 0, 1) := by decide +kernel
theorem dL_law_444 : decode cL_law 444 = .ok (.iload_n 3, 1) := by decide +kernel
theorem dL_law_445 : decode cL_law 445 = .ok (.iconst 1, 1) := by decide +kernel
theorem dL_law_446 : decode cL_law 446 = .ok (.iadd, 1) := by decide +kernel
theorem dL_law_447 : decode cL_law 447 = .ok (.iaload, 1) := by decide +kernel
theorem dL_law_448 : decode cL_law 448 = .ok (.invokevirtual 64, 3) := by decide +kernel
theorem dL_law_451 : decode cL_law 451 = .ok (.aload_n 2, 1) := by decide +kernel
theorem dL_law_452 : decode cL_law 452 = .ok (.aload_n 0, 1) := by decide +kernel
theorem dL_law_453 : decode cL_law 453 = .ok (.iload_n 3, 1) := by decide +kernel
theorem dL_law_454 : decode cL_law 454 = .ok (.iconst 1, 1) := by decide +kernel
theorem dL_law_455 : decode cL_law 455 = .ok (.iadd, 1) := by decide +kernel
theorem dL_law_456 : decode cL_law 456 = .ok (.iaload, 1) := by decide +kernel
theorem dL_law_457 : decode cL_law 457 = .ok (.invokevirtual 67, 3) := by decide +kernel
theorem dL_law_460 : decode cL_law 460 = .ok (.if_icmp .eq 347, 3) := by decide +kernel
theorem dL_law_463 : decode cL_law 463 = .ok (.iconst 0, 1) := by decide +kernel
theorem dL_law_464 : decode cL_law 464 = .ok (.ireturn, 1) := by decide +kernel
theorem dL_law_465 : decode cL_law 465 = .ok (.aload_n 1, 1) := by decide +kernel
theorem dL_law_466 : decode cL_law 466 = .ok (.invokevirtual 68, 3) := by decide +kernel
theorem dL_law_469 : decode cL_law 469 = .ok (.aload_n 2, 1) := by decide +kernel
theorem dL_law_470 : decode cL_law 470 = .ok (.invokevirtual 71, 3) := by decide +kernel
theorem dL_law_473 : decode cL_law 473 = .ok (.if_icmp .eq 334, 3) := by decide +kernel
theorem dL_law_476 : decode cL_law 476 = .ok (.iconst 0, 1) := by decide +kernel
theorem dL_law_477 : decode cL_law 477 = .ok (.ireturn, 1) := by decide +kernel
theorem dL_law_478 : decode cL_law 478 = .ok (.aload_n 1, 1) := by decide +kernel
theorem dL_law_479 : decode cL_law 479 = .ok (.aload_n 0, 1) := by decide +kernel
theorem dL_law_480 : decode cL_law 480 = .ok (.iload_n 3, 1) := by decide +kernel
theorem dL_law_481 : decode cL_law 481 = .ok (.iconst 1, 1) := by decide +kernel
theorem dL_law_482 : decode cL_law 482 = .ok (.iadd, 1) := by decide +kernel
theorem dL_law_483 : decode cL_law 483 = .ok (.iaload, 1) := by decide +kernel
theorem dL_law_484 : decode cL_law 484 = .ok (.invokevirtual 72, 3) := by decide +kernel
theorem dL_law_487 : decode cL_law 487 = .ok (.aload_n 2, 1) := by decide +kernel
theorem dL_law_488 : decode cL_law 488 = .ok (.aload_n 0, 1) := by decide +kernel
theorem dL_law_489 : decode cL_law 489 = .ok (.iload_n 3, 1) := by decide +kernel
theorem dL_law_490 : decode cL_law 490 = .ok (.iconst 1, 1) := by decide +kernel
theorem dL_law_491 : decode cL_law 491 = .ok (.iadd, 1) := by decide +kernel
theorem dL_law_492 : decode cL_law 492 = .ok (.iaload, 1) := by decide +kernel
theorem dL_law_493 : decode cL_law 493 = .ok (.invokevirtual 75, 3) := by decide +kernel
theorem dL_law_496 : decode cL_law 496 = .ok (.if_icmp .eq 311, 3) := by decide +kernel
theorem dL_law_499 : decode cL_law 499 = .ok (.iconst 0, 1) := by decide +kernel
theorem dL_law_500 : decode cL_law 500 = .ok (.ireturn, 1) := by decide +kernel
theorem dL_law_501 : decode cL_law 501 = .ok (.aload_n 1, 1) := by decide +kernel
theorem dL_law_502 : decode cL_law 502 = .ok (.aload_n 0, 1) := by decide +kernel
theorem dL_law_503 : decode cL_law 503 = .ok (.iload_n 3, 1) := by decide +kernel
theorem dL_law_504 : decode cL_law 504 = .ok (.iconst 1, 1) := by decide +kernel
theorem dL_law_505 : decode cL_law 505 = .ok (.iadd, 1) := by decide +kernel
theorem dL_law_506 : decode cL_law 506 = .ok (.iaload, 1) := by decide +kernel
theorem dL_law_507 : decode cL_law 507 = .ok (.invokevirtual 76, 3) := by decide +kernel
theorem dL_law_510 : decode cL_law 510 = .ok (.aload_n 2, 1) := by decide +kernel
theorem dL_law_511 : decode cL_law 511 = .ok (.aload_n 0, 1) := by decide +kernel
theorem dL_law_512 : decode cL_law 512 = .ok (.iload_n 3, 1) := by decide +kernel
theorem dL_law_513 : decode cL_law 513 = .ok (.iconst 1, 1) := by decide +kernel
theorem dL_law_514 : decode cL_law 514 = .ok (.iadd, 1) := by decide +kernel
theorem dL_law_515 : decode cL_law 515 = .ok (.iaload, 1) := by decide +kernel
theorem dL_law_516 : decode cL_law 516 = .ok (.invokevirtual 79, 3) := by decide +kernel
theorem dL_law_519 : decode cL_law 519 = .ok (.if_icmp .eq 288, 3) := by decide +kernel
theorem dL_law_522 : decode cL_law 522 = .ok (.iconst 0, 1) := by decide +kernel
theorem dL_law_523 : decode cL_law 523 = .ok (.ireturn, 1) := by decide +kernel
theorem dL_law_524 : decode cL_law 524 = .ok (.aload_n 1, 1) := by decide +kernel
theorem dL_law_525 : decode cL_law 525 = .ok (.invokevirtual 80, 3) := by decide +kernel
theorem dL_law_528 : decode cL_law 528 = .ok (.aload_n 2, 1) := by decide +kernel
theorem dL_law_529 : decode cL_law 529 = .ok (.invokevirtual 83, 3) := by decide +kernel
theorem dL_law_532 : decode cL_law 532 = .ok (.if_icmp .eq 275, 3) := by decide +kernel
theorem dL_law_535 : decode cL_law 535 = .ok (.iconst 0, 1) := by decide +kernel
theorem dL_law_536 : decode cL_law 536 = .ok (.ireturn, 1) := by decide +kernel
theorem dL_law_537 : decode cL_law 537 = .ok (.aload_n 1, 1) := by decide +kernel
theorem dL_law_538 : decode cL_law 538 = .ok (.aload_n 0, 1) := by decide +kernel
theorem dL_law_539 : decode cL_law 539 = .ok (.iload_n 3, 1) := by decide +kernel
theorem dL_law_540 : decode cL_law 540 = .ok (.iconst 1, 1) := by decide +kernel
theorem dL_law_541 : decode cL_law 541 = .ok (.iadd, 1) := by decide +kernel
theorem dL_law_542 : decode cL_law 542 = .ok (.iaload, 1) := by decide +kernel
theorem dL_law_543 : decode cL_law 543 = .ok (.aload_n 0, 1) := by decide +kernel
theorem dL_law_544 : decode cL_law 544 = .ok (.iload_n 3, 1) := by decide +kernel
theorem dL_law_545 : decode cL_law 545 = .ok (.iconst 2, 1) := by decide +kernel
theorem dL_law_546 : decode cL_law 546 = .ok (.iadd, 1) := by decide +kernel
theorem dL_law_547 : decode cL_law 547 = .ok (.iaload, 1) := by decide +kernel
theorem dL_law_548 : decode cL_law 548 = .ok (.invokevirtual 84, 3) := by decide +kernel
theorem dL_law_551 : decode cL_law 551 = .ok (.aload_n 2, 1) := by decide +kernel
theorem dL_law_552 : decode cL_law 552 = .ok (.aload_n 0, 1) := by decide +kernel
theorem dL_law_553 : decode cL_law 553 = .ok (.iload_n 3, 1) := by decide +kernel
theorem dL_law_554 : decode cL_law 554 = .ok (.iconst 1, 1) := by decide +kernel
theorem dL_law_555 : decode cL_law 555 = .ok (.iadd, 1) := by decide +kernel
theorem dL_law_556 : decode cL_law 556 = .ok (.iaload, 1) := by decide +kernel
theorem dL_law_557 : decode cL_law 557 = .ok (.aload_n 0, 1) := by decide +kernel
theorem dL_law_558 : decode cL_law 558 = .ok (.iload_n 3, 1) := by decide +kernel
theorem dL_law_559 : decode cL_law 559 = .ok (.iconst 2, 1) := by decide +kernel
theorem dL_law_560 : decode cL_law 560 = .ok (.iadd, 1) := by decide +kernel
theorem dL_law_561 : decode cL_law 561 = .ok (.iaload, 1) := by decide +kernel
theorem dL_law_562 : decode cL_law 562 = .ok (.invokevirtual 87, 3) := by decide +kernel
theorem dL_law_565 : decode cL_law 565 = .ok (.if_icmp .eq 242, 3) := by decide +kernel
theorem dL_law_568 : decode cL_law 568 = .ok (.iconst 0, 1) := by decide +kernel
theorem dL_law_569 : decode cL_law 569 = .ok (.ireturn, 1) := by decide +kernel
theorem dL_law_570 : decode cL_law 570 = .ok (.aload_n 1, 1) := by decide +kernel
theorem dL_law_571 : decode cL_law 571 = .ok (.aload_n 0, 1) := by decide +kernel
theorem dL_law_572 : decode cL_law 572 = .ok (.iload_n 3, 1) := by decide +kernel
theorem dL_law_573 : decode cL_law 573 = .ok (.iconst 1, 1) := by decide +kernel
theorem dL_law_574 : decode cL_law 574 = .ok (.iadd, 1) := by decide +kernel
theorem dL_law_575 : decode cL_law 575 = .ok (.iaload, 1) := by decide +kernel
theorem dL_law_576 : decode cL_law 576 = .ok (.aload_n 0, 1) := by decide +kernel
theorem dL_law_577 : decode cL_law 577 = .ok (.iload_n 3, 1) := by decide +kernel
theorem dL_law_578 : decode cL_law 578 = .ok (.iconst 2, 1) := by decide +kernel
theorem dL_law_579 : decode cL_law 579 = .ok (.iadd, 1) := by decide +kernel
theorem dL_law_580 : decode cL_law 580 = .ok (.iaload, 1) := by decide +kernel
theorem dL_law_581 : decode cL_law 581 = .ok (.invokevirtual 88, 3) := by decide +kernel
theorem dL_law_584 : decode cL_law 584 = .ok (.aload_n 2, 1) := by decide +kernel
theorem dL_law_585 : decode cL_law 585 = .ok (.aload_n 0, 1) := by decide +kernel
theorem dL_law_586 : decode cL_law 586 = .ok (.iload_n 3, 1) := by decide +kernel
theorem dL_law_587 : decode cL_law 587 = .ok (.iconst 1, 1) := by decide +kernel
theorem dL_law_588 : decode cL_law 588 = .ok (.iadd, 1) := by decide +kernel
theorem dL_law_589 : decode cL_law 589 = .ok (.iaload, 1) := by decide +kernel
theorem dL_law_590 : decode cL_law 590 = .ok (.aload_n 0, 1) := by decide +kernel
theorem dL_law_591 : decode cL_law 591 = .ok (.iload_n 3, 1) := by decide +kernel
theorem dL_law_592 : decode cL_law 592 = .ok (.iconst 2, 1) := by decide +kernel
theorem dL_law_593 : decode cL_law 593 = .ok (.iadd, 1) := by decide +kernel
theorem dL_law_594 : decode cL_law 594 = .ok (.iaload, 1) := by decide +kernel
theorem dL_law_595 : decode cL_law 595 = .ok (.invokevirtual 91, 3) := by decide +kernel
theorem dL_law_598 : decode cL_law 598 = .ok (.if_icmp .eq 209, 3) := by decide +kernel
theorem dL_law_601 : decode cL_law 601 = .ok (.iconst 0, 1) := by decide +kernel
theorem dL_law_602 : decode cL_law 602 = .ok (.ireturn, 1) := by decide +kernel
theorem dL_law_603 : decode cL_law 603 = .ok (.aload_n 1, 1) := by decide +kernel
theorem dL_law_604 : decode cL_law 604 = .ok (.aload_n 0, 1) := by decide +kernel
theorem dL_law_605 : decode cL_law 605 = .ok (.iload_n 3, 1) := by decide +kernel
theorem dL_law_606 : decode cL_law 606 = .ok (.iconst 1, 1) := by decide +kernel
theorem dL_law_607 : decode cL_law 607 = .ok (.iadd, 1) := by decide +kernel
theorem dL_law_608 : decode cL_law 608 = .ok (.iaload, 1) := by decide +kernel
theorem dL_law_609 : decode cL_law 609 = .ok (.aload_n 0, 1) := by decide +kernel
theorem dL_law_610 : decode cL_law 610 = .ok (.iload_n 3, 1) := by decide +kernel
theorem dL_law_611 : decode cL_law 611 = .ok (.iconst 2, 1) := by decide +kernel
theorem dL_law_612 : decode cL_law 612 = .ok (.iadd, 1) := by decide +kernel
theorem dL_law_613 : decode cL_law 613 = .ok (.iaload, 1) := by decide +kernel
theorem dL_law_614 : decode cL_law 614 = .ok (.invokevirtual 92, 3) := by decide +kernel
theorem dL_law_617 : decode cL_law 617 = .ok (.aload_n 2, 1) := by decide +kernel
theorem dL_law_618 : decode cL_law 618 = .ok (.aload_n 0, 1) := by decide +kernel
theorem dL_law_619 : decode cL_law 619 = .ok (.iload_n 3, 1) := by decide +kernel
theorem dL_law_620 : decode cL_law 620 = .ok (.iconst 1, 1) := by decide +kernel
theorem dL_law_621 : decode cL_law 621 = .ok (.iadd, 1) := by decide +kernel
theorem dL_law_622 : decode cL_law 622 = .ok (.iaload, 1) := by decide +kernel
theorem dL_law_623 : decode cL_law 623 = .ok (.aload_n 0, 1) := by decide +kernel
theorem dL_law_624 : decode cL_law 624 = .ok (.iload_n 3, 1) := by decide +kernel
theorem dL_law_625 : decode cL_law 625 = .ok (.iconst 2, 1) := by decide +kernel
theorem dL_law_626 : decode cL_law 626 = .ok (.iadd, 1) := by decide +kernel
theorem dL_law_627 : decode cL_law 627 = .ok (.iaload, 1) := by decide +kernel
theorem dL_law_628 : decode cL_law 628 = .ok (.invokevirtual 95, 3) := by decide +kernel
theorem dL_law_631 : decode cL_law 631 = .ok (.if_icmp .eq 176, 3) := by decide +kernel
theorem dL_law_634 : decode cL_law 634 = .ok (.iconst 0, 1) := by decide +kernel
theorem dL_law_635 : decode cL_law 635 = .ok (.ireturn, 1) := by decide +kernel
theorem dL_law_636 : decode cL_law 636 = .ok (.aload_n 1, 1) := by decide +kernel
theorem dL_law_637 : decode cL_law 637 = .ok (.aload_n 0, 1) := by decide +kernel
theorem dL_law_638 : decode cL_law 638 = .ok (.iload_n 3, 1) := by decide +kernel
theorem dL_law_639 : decode cL_law 639 = .ok (.iconst 1, 1) := by decide +kernel
theorem dL_law_640 : decode cL_law 640 = .ok (.iadd, 1) := by decide +kernel
theorem dL_law_641 : decode cL_law 641 = .ok (.iaload, 1) := by decide +kernel
theorem dL_law_642 : decode cL_law 642 = .ok (.aload_n 0, 1) := by decide +kernel
theorem dL_law_643 : decode cL_law 643 = .ok (.iload_n 3, 1) := by decide +kernel
theorem dL_law_644 : decode cL_law 644 = .ok (.iconst 2, 1) := by decide +kernel
theorem dL_law_645 : decode cL_law 645 = .ok (.iadd, 1) := by decide +kernel
theorem dL_law_646 : decode cL_law 646 = .ok (.iaload, 1) := by decide +kernel
theorem dL_law_647 : decode cL_law 647 = .ok (.aload_n 0, 1) := by decide +kernel
theorem dL_law_648 : decode cL_law 648 = .ok (.iload_n 3, 1) := by decide +kernel
theorem dL_law_649 : decode cL_law 649 = .ok (.iconst 3, 1) := by decide +kernel
theorem dL_law_650 : decode cL_law 650 = .ok (.iadd, 1) := by decide +kernel
theorem dL_law_651 : decode cL_law 651 = .ok (.iaload, 1) := by decide +kernel
theorem dL_law_652 : decode cL_law 652 = .ok (.aload_n 0, 1) := by decide +kernel
theorem dL_law_653 : decode cL_law 653 = .ok (.iload_n 3, 1) := by decide +kernel
theorem dL_law_654 : decode cL_law 654 = .ok (.iconst 4, 1) := by decide +kernel
theorem dL_law_655 : decode cL_law 655 = .ok (.iadd, 1) := by decide +kernel
theorem dL_law_656 : decode cL_law 656 = .ok (.iaload, 1) := by decide +kernel
theorem dL_law_657 : decode cL_law 657 = .ok (.invokevirtual 96, 3) := by decide +kernel
theorem dL_law_660 : decode cL_law 660 = .ok (.aload_n 2, 1) := by decide +kernel
theorem dL_law_661 : decode cL_law 661 = .ok (.aload_n 0, 1) := by decide +kernel
theorem dL_law_662 : decode cL_law 662 = .ok (.iload_n 3, 1) := by decide +kernel
theorem dL_law_663 : decode cL_law 663 = .ok (.iconst 1, 1) := by decide +kernel
theorem dL_law_664 : decode cL_law 664 = .ok (.iadd, 1) := by decide +kernel
theorem dL_law_665 : decode cL_law 665 = .ok (.iaload, 1) := by decide +kernel
theorem dL_law_666 : decode cL_law 666 = .ok (.aload_n 0, 1) := by decide +kernel
theorem dL_law_667 : decode cL_law 667 = .ok (.iload_n 3, 1) := by decide +kernel
theorem dL_law_668 : decode cL_law 668 = .ok (.iconst 2, 1) := by decide +kernel
theorem dL_law_669 : decode cL_law 669 = .ok (.iadd, 1) := by decide +kernel
theorem dL_law_670 : decode cL_law 670 = .ok (.iaload, 1) := by decide +kernel
theorem dL_law_671 : decode cL_law 671 = .ok (.aload_n 0, 1) := by decide +kernel
theorem dL_law_672 : decode cL_law 672 = .ok (.iload_n 3, 1) := by decide +kernel
theorem dL_law_673 : decode cL_law 673 = .ok (.iconst 3, 1) := by decide +kernel
theorem dL_law_674 : decode cL_law 674 = .ok (.iadd, 1) := by decide +kernel
theorem dL_law_675 : decode cL_law 675 = .ok (.iaload, 1) := by decide +kernel
theorem dL_law_676 : decode cL_law 676 = .ok (.aload_n 0, 1) := by decide +kernel
theorem dL_law_677 : decode cL_law 677 = .ok (.iload_n 3, 1) := by decide +kernel
theorem dL_law_678 : decode cL_law 678 = .ok (.iconst 4, 1) := by decide +kernel
theorem dL_law_679 : decode cL_law 679 = .ok (.iadd, 1) := by decide +kernel
theorem dL_law_680 : decode cL_law 680 = .ok (.iaload, 1) := by decide +kernel
theorem dL_law_681 : decode cL_law 681 = .ok (.invokevirtual 100, 3) := by decide +kernel
theorem dL_law_684 : decode cL_law 684 = .ok (.if_icmp .eq 123, 3) := by decide +kernel
theorem dL_law_687 : decode cL_law 687 = .ok (.iconst 0, 1) := by decide +kernel
theorem dL_law_688 : decode cL_law 688 = .ok (.ireturn, 1) := by decide +kernel
theorem dL_law_689 : decode cL_law 689 = .ok (.aload_n 1, 1) := by decide +kernel
theorem dL_law_690 : decode cL_law 690 = .ok (.invokevirtual 101, 3) := by decide +kernel
theorem dL_law_693 : decode cL_law 693 = .ok (.aload_n 2, 1) := by decide +kernel
theorem dL_law_694 : decode cL_law 694 = .ok (.invokevirtual 104, 3) := by decide +kernel
theorem dL_law_697 : decode cL_law 697 = .ok (.if_icmp .eq 110, 3) := by decide +kernel
theorem dL_law_700 : decode cL_law 700 = .ok (.iconst 0, 1) := by decide +kernel
theorem dL_law_701 : decode cL_law 701 = .ok (.ireturn, 1) := by decide +kernel
theorem dL_law_702 : decode cL_law 702 = .ok (.aload_n 1, 1) := by decide +kernel
theorem dL_law_703 : decode cL_law 703 = .ok (.invokevirtual 105, 3) := by decide +kernel
theorem dL_law_706 : decode cL_law 706 = .ok (.aload_n 2, 1) := by decide +kernel
theorem dL_law_707 : decode cL_law 707 = .ok (.invokevirtual 108, 3) := by decide +kernel
theorem dL_law_710 : decode cL_law 710 = .ok (.if_icmp .eq 97, 3) := by decide +kernel
theorem dL_law_713 : decode cL_law 713 = .ok (.iconst 0, 1) := by decide +kernel
theorem dL_law_714 : decode cL_law 714 = .ok (.ireturn, 1) := by decide +kernel
theorem dL_law_715 : decode cL_law 715 = .ok (.aload_n 1, 1) := by decide +kernel
theorem dL_law_716 : decode cL_law 716 = .ok (.aload_n 0, 1) := by decide +kernel
theorem dL_law_717 : decode cL_law 717 = .ok (.iload_n 3, 1) := by decide +kernel
theorem dL_law_718 : decode cL_law 718 = .ok (.iconst 1, 1) := by decide +kernel
theorem dL_law_719 : decode cL_law 719 = .ok (.iadd, 1) := by decide +kernel
theorem dL_law_720 : decode cL_law 720 = .ok (.iaload, 1) := by decide +kernel
theorem dL_law_721 : decode cL_law 721 = .ok (.aload_n 0, 1) := by decide +kernel
theorem dL_law_722 : decode cL_law 722 = .ok (.iload_n 3, 1) := by decide +kernel
theorem dL_law_723 : decode cL_law 723 = .ok (.iconst 2, 1) := by decide +kernel
theorem dL_law_724 : decode cL_law 724 = .ok (.iadd, 1) := by decide +kernel
theorem dL_law_725 : decode cL_law 725 = .ok (.iaload, 1) := by decide +kernel
theorem dL_law_726 : decode cL_law 726 = .ok (.aload_n 0, 1) := by decide +kernel
theorem dL_law_727 : decode cL_law 727 = .ok (.iload_n 3, 1) := by decide +kernel
theorem dL_law_728 : decode cL_law 728 = .ok (.iconst 3, 1) := by decide +kernel
theorem dL_law_729 : decode cL_law 729 = .ok (.iadd, 1) := by decide +kernel
theorem dL_law_730 : decode cL_law 730 = .ok (.iaload, 1) := by decide +kernel
theorem dL_law_731 : decode cL_law 731 = .ok (.invokevirtual 109, 3) := by decide +kernel
theorem dL_law_734 : decode cL_law 734 = .ok (.aload_n 2, 1) := by decide +kernel
theorem dL_law_735 : decode cL_law 735 = .ok (.aload_n 0, 1) := by decide +kernel
theorem dL_law_736 : decode cL_law 736 = .ok (.iload_n 3, 1) := by decide +kernel
theorem dL_law_737 : decode cL_law 737 = .ok (.iconst 1, 1) := by decide +kernel
theorem dL_law_738 : decode cL_law 738 = .ok (.iadd, 1) := by decide +kernel
theorem dL_law_739 : decode cL_law 739 = .ok (.iaload, 1) := by decide +kernel
theorem dL_law_740 : decode cL_law 740 = .ok (.aload_n 0, 1) := by decide +kernel
theorem dL_law_741 : decode cL_law 741 = .ok (.iload_n 3, 1) := by decide +kernel
theorem dL_law_742 : decode cL_law 742 = .ok (.iconst 2, 1) := by decide +kernel
theorem dL_law_743 : decode cL_law 743 = .ok (.iadd, 1) := by decide +kernel
theorem dL_law_744 : decode cL_law 744 = .ok (.iaload, 1) := by decide +kernel
theorem dL_law_745 : decode cL_law 745 = .ok (.aload_n 0, 1) := by decide +kernel
theorem dL_law_746 : decode cL_law 746 = .ok (.iload_n 3, 1) := by decide +kernel
theorem dL_law_747 : decode cL_law 747 = .ok (.iconst 3, 1) := by decide +kernel
theorem dL_law_748 : decode cL_law 748 = .ok (.iadd, 1) := by decide +kernel
theorem dL_law_749 : decode cL_law 749 = .ok (.iaload, 1) := by decide +kernel
theorem dL_law_750 : decode cL_law 750 = .ok (.invokevirtual 113, 3) := by decide +kernel
theorem dL_law_753 : decode cL_law 753 = .ok (.if_icmp .eq 54, 3) := by decide +kernel
theorem dL_law_756 : decode cL_law 756 = .ok (.iconst 0, 1) := by decide +kernel
theorem dL_law_757 : decode cL_law 757 = .ok (.ireturn, 1) := by decide +kernel
theorem dL_law_758 : decode cL_law 758 = .ok (.aload_n 1, 1) := by decide +kernel
theorem dL_law_759 : decode cL_law 759 = .ok (.invokevirtual 114, 3) := by decide +kernel
theorem dL_law_762 : decode cL_law 762 = .ok (.aload_n 2, 1) := by decide +kernel
theorem dL_law_763 : decode cL_law 763 = .ok (.invokevirtual 117, 3) := by decide +kernel
theorem dL_law_766 : decode cL_law 766 = .ok (.if_icmp .eq 41, 3) := by decide +kernel
theorem dL_law_769 : decode cL_law 769 = .ok (.iconst 0, 1) := by decide +kernel
theorem dL_law_770 : decode cL_law 770 = .ok (.ireturn, 1) := by decide +kernel
theorem dL_law_771 : decode cL_law 771 = .ok (.aload_n 1, 1) := by decide +kernel
theorem dL_law_772 : decode cL_law 772 = .ok (.invokevirtual 118, 3) := by decide +kernel
theorem dL_law_775 : decode cL_law 775 = .ok (.aload_n 2, 1) := by decide +kernel
theorem dL_law_776 : decode cL_law 776 = .ok (.invokevirtual 121, 3) := by decide +kernel
theorem dL_law_779 : decode cL_law 779 = .ok (.if_icmp .eq 28, 3) := by decide +kernel
theorem dL_law_782 : decode cL_law 782 = .ok (.iconst 0, 1) := by decide +kernel
theorem dL_law_783 : decode cL_law 783 = .ok (.ireturn, 1) := by decide +kernel
theorem dL_law_784 : decode cL_law 784 = .ok (.aload_n 1, 1) := by decide +kernel
theorem dL_law_785 : decode cL_law 785 = .ok (.aload_n 0, 1) := by decide +kernel
theorem dL_law_786 : decode cL_law 786 = .ok (.iload_n 3, 1) := by decide +kernel
theorem dL_law_787 : decode cL_law 787 = .ok (.iconst 1, 1) := by decide +kernel
theorem dL_law_788 : decode cL_law 788 = .ok (.iadd, 1) := by decide +kernel
theorem dL_law_789 : decode cL_law 789 = .ok (.iaload, 1) := by decide +kernel
theorem dL_law_790 : decode cL_law 790 = .ok (.invokevirtual 122, 3) := by decide +kernel
theorem dL_law_793 : decode cL_law 793 = .ok (.aload_n 2, 1) := by decide +kernel
theorem dL_law_794 : decode cL_law 794 = .ok (.aload_n 0, 1) := by decide +kernel
theorem dL_law_795 : decode cL_law 795 = .ok (.iload_n 3, 1) := by decide +kernel
theorem dL_law_796 : decode cL_law 796 = .ok (.iconst 1, 1) := by decide +kernel
theorem dL_law_797 : decode cL_law 797 = .ok (.iadd, 1) := by decide +kernel
theorem dL_law_798 : decode cL_law 798 = .ok (.iaload, 1) := by decide +kernel
theorem dL_law_799 : decode cL_law 799 = .ok (.invokevirtual 125, 3) := by decide +kernel
theorem dL_law_802 : decode cL_law 802 = .ok (.if_icmp .eq 5, 3) := by decide +kernel
theorem dL_law_805 : decode cL_law 805 = .ok (.iconst 0, 1) := by decide +kernel
theorem dL_law_806 : decode cL_law 806 = .ok (.ireturn, 1) := by decide +kernel
theorem dL_law_807 : decode cL_law 807 = .ok (.iinc 3 5, 3) := by decide +kernel
theorem dL_law_810 : decode cL_law 810 = .ok (.goto (-792), 3) := by decide +kernel
theorem dL_law_813 : decode cL_law 813 = .ok (.iconst 1, 1) := by decide +kernel
theorem dL_law_814 : decode cL_law 814 = .ok (.ireturn, 1) := by decide +kernel
end
section
theorem zz_look : True := trivial
end
