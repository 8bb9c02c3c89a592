section
-- ===== PART A: goes FIRST, ahead of the names: the tables' words, and 'selects' of the private methods out of them =====
/-- a private method of a class that the tables say can be made, by its rows of tables_1 -/
def lw_okq (q : MethodName × Nat) : Prop := (q.1.cls ≠ "java/lang/invoke/MethodHandle" ∧ q.1.cls ≠ "java/lang/invoke/VarHandle") ∧ Cond.instantiable q.1.cls q.2 ∈ tables_1 ∧ Cond.privateMethod q.1 ∈ tables_1 ∧ Cond.instanceMethod q.1 ∈ tables_1
theorem lw_p0 : lw_okq (⟨"HookOrCrook$Text", "figuresAt", "(I)I"⟩, 3) := ⟨⟨by decide +kernel, by decide +kernel⟩, List.mem_of_getElem? (i := 25) (by decide +kernel), List.mem_of_getElem? (i := 256) (by decide +kernel), List.mem_of_getElem? (i := 257) (by decide +kernel)⟩
theorem lw_p1 : lw_okq (⟨"HookOrCrook$Text", "readNumber", "(IIII)Z"⟩, 3) := ⟨⟨by decide +kernel, by decide +kernel⟩, List.mem_of_getElem? (i := 25) (by decide +kernel), List.mem_of_getElem? (i := 263) (by decide +kernel), List.mem_of_getElem? (i := 264) (by decide +kernel)⟩
theorem lw_p2 : lw_okq (⟨"HookOrCrook$Forest", "put", "(CLHookOrCrook$Text;LHookOrCrook$State;)V"⟩, 10) := ⟨⟨by decide +kernel, by decide +kernel⟩, List.mem_of_getElem? (i := 45) (by decide +kernel), List.mem_of_getElem? (i := 275) (by decide +kernel), List.mem_of_getElem? (i := 276) (by decide +kernel)⟩
theorem lw_p3 : lw_okq (⟨"HookOrCrook$Forest", "putBough", "(LHookOrCrook$Text;LHookOrCrook$State;)V"⟩, 10) := ⟨⟨by decide +kernel, by decide +kernel⟩, List.mem_of_getElem? (i := 45) (by decide +kernel), List.mem_of_getElem? (i := 279) (by decide +kernel), List.mem_of_getElem? (i := 280) (by decide +kernel)⟩
theorem lw_p4 : lw_okq (⟨"HookOrCrook$Forest", "putTenant", "(LHookOrCrook$Text;LHookOrCrook$State;)V"⟩, 10) := ⟨⟨by decide +kernel, by decide +kernel⟩, List.mem_of_getElem? (i := 45) (by decide +kernel), List.mem_of_getElem? (i := 291) (by decide +kernel), List.mem_of_getElem? (i := 292) (by decide +kernel)⟩
theorem lw_p5 : lw_okq (⟨"HookOrCrook$Text", "has", "(C)Z"⟩, 3) := ⟨⟨by decide +kernel, by decide +kernel⟩, List.mem_of_getElem? (i := 25) (by decide +kernel), List.mem_of_getElem? (i := 354) (by decide +kernel), List.mem_of_getElem? (i := 355) (by decide +kernel)⟩
theorem lw_p6 : lw_okq (⟨"HookOrCrook$Forest", "isInReach", "(LHookOrCrook$State;II)Z"⟩, 10) := ⟨⟨by decide +kernel, by decide +kernel⟩, List.mem_of_getElem? (i := 45) (by decide +kernel), List.mem_of_getElem? (i := 454) (by decide +kernel), List.mem_of_getElem? (i := 455) (by decide +kernel)⟩
theorem lw_p7 : lw_okq (⟨"HookOrCrook$Pile", "dropOldest", "()V"⟩, 2) := ⟨⟨by decide +kernel, by decide +kernel⟩, List.mem_of_getElem? (i := 112) (by decide +kernel), List.mem_of_getElem? (i := 477) (by decide +kernel), List.mem_of_getElem? (i := 478) (by decide +kernel)⟩
theorem lw_p8 : lw_okq (⟨"HookOrCrook$Course", "isOver", "()Z"⟩, 2) := ⟨⟨by decide +kernel, by decide +kernel⟩, List.mem_of_getElem? (i := 132) (by decide +kernel), List.mem_of_getElem? (i := 535) (by decide +kernel), List.mem_of_getElem? (i := 536) (by decide +kernel)⟩
theorem lw_p9 : lw_okq (⟨"HookOrCrook$Course", "gatherToday", "()V"⟩, 2) := ⟨⟨by decide +kernel, by decide +kernel⟩, List.mem_of_getElem? (i := 132) (by decide +kernel), List.mem_of_getElem? (i := 548) (by decide +kernel), List.mem_of_getElem? (i := 549) (by decide +kernel)⟩
theorem lw_p10 : lw_okq (⟨"HookOrCrook$Dealing", "takersOf", "(LHookOrCrook$State;I)I"⟩, 7) := ⟨⟨by decide +kernel, by decide +kernel⟩, List.mem_of_getElem? (i := 148) (by decide +kernel), List.mem_of_getElem? (i := 578) (by decide +kernel), List.mem_of_getElem? (i := 579) (by decide +kernel)⟩
theorem lw_p11 : lw_okq (⟨"HookOrCrook$Dealing", "keepIfBetter", "(I)V"⟩, 7) := ⟨⟨by decide +kernel, by decide +kernel⟩, List.mem_of_getElem? (i := 148) (by decide +kernel), List.mem_of_getElem? (i := 587) (by decide +kernel), List.mem_of_getElem? (i := 588) (by decide +kernel)⟩
theorem lw_p12 : lw_okq (⟨"HookOrCrook$Course", "blow", "(I)V"⟩, 2) := ⟨⟨by decide +kernel, by decide +kernel⟩, List.mem_of_getElem? (i := 132) (by decide +kernel), List.mem_of_getElem? (i := 672) (by decide +kernel), List.mem_of_getElem? (i := 673) (by decide +kernel)⟩
theorem lw_p13 : lw_okq (⟨"HookOrCrookModel", "begins", "()V"⟩, 14) := ⟨⟨by decide +kernel, by decide +kernel⟩, List.mem_of_getElem? (i := 697) (by decide +kernel), List.mem_of_getElem? (i := 703) (by decide +kernel), List.mem_of_getElem? (i := 704) (by decide +kernel)⟩
theorem lw_p14 : lw_okq (⟨"HookOrCrookModel", "boughOf", "(IIII)V"⟩, 14) := ⟨⟨by decide +kernel, by decide +kernel⟩, List.mem_of_getElem? (i := 697) (by decide +kernel), List.mem_of_getElem? (i := 707) (by decide +kernel), List.mem_of_getElem? (i := 708) (by decide +kernel)⟩
theorem lw_p15 : lw_okq (⟨"HookOrCrookModel", "tenantOf", "(III)V"⟩, 14) := ⟨⟨by decide +kernel, by decide +kernel⟩, List.mem_of_getElem? (i := 697) (by decide +kernel), List.mem_of_getElem? (i := 711) (by decide +kernel), List.mem_of_getElem? (i := 712) (by decide +kernel)⟩
def lw_privs_1 : List (MethodName × Nat) := [(⟨"HookOrCrook$Text", "figuresAt", "(I)I"⟩, 3), (⟨"HookOrCrook$Text", "readNumber", "(IIII)Z"⟩, 3), (⟨"HookOrCrook$Forest", "put", "(CLHookOrCrook$Text;LHookOrCrook$State;)V"⟩, 10), (⟨"HookOrCrook$Forest", "putBough", "(LHookOrCrook$Text;LHookOrCrook$State;)V"⟩, 10), (⟨"HookOrCrook$Forest", "putTenant", "(LHookOrCrook$Text;LHookOrCrook$State;)V"⟩, 10), (⟨"HookOrCrook$Text", "has", "(C)Z"⟩, 3), (⟨"HookOrCrook$Forest", "isInReach", "(LHookOrCrook$State;II)Z"⟩, 10), (⟨"HookOrCrook$Pile", "dropOldest", "()V"⟩, 2), (⟨"HookOrCrook$Course", "isOver", "()Z"⟩, 2), (⟨"HookOrCrook$Course", "gatherToday", "()V"⟩, 2), (⟨"HookOrCrook$Dealing", "takersOf", "(LHookOrCrook$State;I)I"⟩, 7), (⟨"HookOrCrook$Dealing", "keepIfBetter", "(I)V"⟩, 7), (⟨"HookOrCrook$Course", "blow", "(I)V"⟩, 2), (⟨"HookOrCrookModel", "begins", "()V"⟩, 14), (⟨"HookOrCrookModel", "boughOf", "(IIII)V"⟩, 14), (⟨"HookOrCrookModel", "tenantOf", "(III)V"⟩, 14)]
theorem lw_r1 : ∀ q ∈ lw_privs_1, lw_okq q := List.forall_mem_cons.mpr ⟨lw_p0, List.forall_mem_cons.mpr ⟨lw_p1, List.forall_mem_cons.mpr ⟨lw_p2, List.forall_mem_cons.mpr ⟨lw_p3, List.forall_mem_cons.mpr ⟨lw_p4, List.forall_mem_cons.mpr ⟨lw_p5, List.forall_mem_cons.mpr ⟨lw_p6, List.forall_mem_cons.mpr ⟨lw_p7, List.forall_mem_cons.mpr ⟨lw_p8, List.forall_mem_cons.mpr ⟨lw_p9, List.forall_mem_cons.mpr ⟨lw_p10, List.forall_mem_cons.mpr ⟨lw_p11, List.forall_mem_cons.mpr ⟨lw_p12, List.forall_mem_cons.mpr ⟨lw_p13, List.forall_mem_cons.mpr ⟨lw_p14, List.forall_mem_cons.mpr ⟨lw_p15, fun _ h => absurd h List.not_mem_nil⟩⟩⟩⟩⟩⟩⟩⟩⟩⟩⟩⟩⟩⟩⟩⟩
theorem lw_p16 : lw_okq (⟨"HookOrCrookModel", "lays", "()V"⟩, 14) := ⟨⟨by decide +kernel, by decide +kernel⟩, List.mem_of_getElem? (i := 697) (by decide +kernel), List.mem_of_getElem? (i := 715) (by decide +kernel), List.mem_of_getElem? (i := 716) (by decide +kernel)⟩
theorem lw_p17 : lw_okq (⟨"HookOrCrookModel", "readsAll", "()I"⟩, 14) := ⟨⟨by decide +kernel, by decide +kernel⟩, List.mem_of_getElem? (i := 697) (by decide +kernel), List.mem_of_getElem? (i := 777) (by decide +kernel), List.mem_of_getElem? (i := 778) (by decide +kernel)⟩
theorem lw_p18 : lw_okq (⟨"HookOrCrookModel", "readsItem", "(I)Z"⟩, 14) := ⟨⟨by decide +kernel, by decide +kernel⟩, List.mem_of_getElem? (i := 697) (by decide +kernel), List.mem_of_getElem? (i := 781) (by decide +kernel), List.mem_of_getElem? (i := 782) (by decide +kernel)⟩
theorem lw_p19 : lw_okq (⟨"HookOrCrookModel", "number", "(III)I"⟩, 14) := ⟨⟨by decide +kernel, by decide +kernel⟩, List.mem_of_getElem? (i := 697) (by decide +kernel), List.mem_of_getElem? (i := 785) (by decide +kernel), List.mem_of_getElem? (i := 786) (by decide +kernel)⟩
theorem lw_p20 : lw_okq (⟨"HookOrCrookModel", "letterAt", "(I)I"⟩, 14) := ⟨⟨by decide +kernel, by decide +kernel⟩, List.mem_of_getElem? (i := 697) (by decide +kernel), List.mem_of_getElem? (i := 789) (by decide +kernel), List.mem_of_getElem? (i := 790) (by decide +kernel)⟩
theorem lw_p21 : lw_okq (⟨"HookOrCrookModel", "isBough", "(I)Z"⟩, 14) := ⟨⟨by decide +kernel, by decide +kernel⟩, List.mem_of_getElem? (i := 697) (by decide +kernel), List.mem_of_getElem? (i := 804) (by decide +kernel), List.mem_of_getElem? (i := 805) (by decide +kernel)⟩
theorem lw_p22 : lw_okq (⟨"HookOrCrookModel", "isDead", "(II)Z"⟩, 14) := ⟨⟨by decide +kernel, by decide +kernel⟩, List.mem_of_getElem? (i := 697) (by decide +kernel), List.mem_of_getElem? (i := 808) (by decide +kernel), List.mem_of_getElem? (i := 809) (by decide +kernel)⟩
theorem lw_p23 : lw_okq (⟨"HookOrCrookModel", "isFallen", "(II)Z"⟩, 14) := ⟨⟨by decide +kernel, by decide +kernel⟩, List.mem_of_getElem? (i := 697) (by decide +kernel), List.mem_of_getElem? (i := 812) (by decide +kernel), List.mem_of_getElem? (i := 813) (by decide +kernel)⟩
theorem lw_p24 : lw_okq (⟨"HookOrCrookModel", "isTenant", "(I)Z"⟩, 14) := ⟨⟨by decide +kernel, by decide +kernel⟩, List.mem_of_getElem? (i := 697) (by decide +kernel), List.mem_of_getElem? (i := 820) (by decide +kernel), List.mem_of_getElem? (i := 821) (by decide +kernel)⟩
theorem lw_p25 : lw_okq (⟨"HookOrCrookModel", "isWarm", "(I)Z"⟩, 14) := ⟨⟨by decide +kernel, by decide +kernel⟩, List.mem_of_getElem? (i := 697) (by decide +kernel), List.mem_of_getElem? (i := 824) (by decide +kernel), List.mem_of_getElem? (i := 825) (by decide +kernel)⟩
theorem lw_p26 : lw_okq (⟨"HookOrCrookModel", "canNow", "(II)Z"⟩, 14) := ⟨⟨by decide +kernel, by decide +kernel⟩, List.mem_of_getElem? (i := 697) (by decide +kernel), List.mem_of_getElem? (i := 832) (by decide +kernel), List.mem_of_getElem? (i := 833) (by decide +kernel)⟩
theorem lw_p27 : lw_okq (⟨"HookOrCrookModel", "could", "(IIII)Z"⟩, 14) := ⟨⟨by decide +kernel, by decide +kernel⟩, List.mem_of_getElem? (i := 697) (by decide +kernel), List.mem_of_getElem? (i := 836) (by decide +kernel), List.mem_of_getElem? (i := 837) (by decide +kernel)⟩
theorem lw_p28 : lw_okq (⟨"HookOrCrookModel", "keeps", "()V"⟩, 14) := ⟨⟨by decide +kernel, by decide +kernel⟩, List.mem_of_getElem? (i := 697) (by decide +kernel), List.mem_of_getElem? (i := 844) (by decide +kernel), List.mem_of_getElem? (i := 845) (by decide +kernel)⟩
theorem lw_p29 : lw_okq (⟨"HookOrCrookModel", "takes", "(II)V"⟩, 14) := ⟨⟨by decide +kernel, by decide +kernel⟩, List.mem_of_getElem? (i := 697) (by decide +kernel), List.mem_of_getElem? (i := 848) (by decide +kernel), List.mem_of_getElem? (i := 849) (by decide +kernel)⟩
theorem lw_p30 : lw_okq (⟨"HookOrCrookModel", "passes", "()V"⟩, 14) := ⟨⟨by decide +kernel, by decide +kernel⟩, List.mem_of_getElem? (i := 697) (by decide +kernel), List.mem_of_getElem? (i := 856) (by decide +kernel), List.mem_of_getElem? (i := 857) (by decide +kernel)⟩
theorem lw_p31 : lw_okq (⟨"HookOrCrookModel", "holds", "()V"⟩, 14) := ⟨⟨by decide +kernel, by decide +kernel⟩, List.mem_of_getElem? (i := 697) (by decide +kernel), List.mem_of_getElem? (i := 876) (by decide +kernel), List.mem_of_getElem? (i := 877) (by decide +kernel)⟩
def lw_privs_2 : List (MethodName × Nat) := [(⟨"HookOrCrookModel", "lays", "()V"⟩, 14), (⟨"HookOrCrookModel", "readsAll", "()I"⟩, 14), (⟨"HookOrCrookModel", "readsItem", "(I)Z"⟩, 14), (⟨"HookOrCrookModel", "number", "(III)I"⟩, 14), (⟨"HookOrCrookModel", "letterAt", "(I)I"⟩, 14), (⟨"HookOrCrookModel", "isBough", "(I)Z"⟩, 14), (⟨"HookOrCrookModel", "isDead", "(II)Z"⟩, 14), (⟨"HookOrCrookModel", "isFallen", "(II)Z"⟩, 14), (⟨"HookOrCrookModel", "isTenant", "(I)Z"⟩, 14), (⟨"HookOrCrookModel", "isWarm", "(I)Z"⟩, 14), (⟨"HookOrCrookModel", "canNow", "(II)Z"⟩, 14), (⟨"HookOrCrookModel", "could", "(IIII)Z"⟩, 14), (⟨"HookOrCrookModel", "keeps", "()V"⟩, 14), (⟨"HookOrCrookModel", "takes", "(II)V"⟩, 14), (⟨"HookOrCrookModel", "passes", "()V"⟩, 14), (⟨"HookOrCrookModel", "holds", "()V"⟩, 14)]
theorem lw_r2 : ∀ q ∈ lw_privs_2, lw_okq q := List.forall_mem_cons.mpr ⟨lw_p16, List.forall_mem_cons.mpr ⟨lw_p17, List.forall_mem_cons.mpr ⟨lw_p18, List.forall_mem_cons.mpr ⟨lw_p19, List.forall_mem_cons.mpr ⟨lw_p20, List.forall_mem_cons.mpr ⟨lw_p21, List.forall_mem_cons.mpr ⟨lw_p22, List.forall_mem_cons.mpr ⟨lw_p23, List.forall_mem_cons.mpr ⟨lw_p24, List.forall_mem_cons.mpr ⟨lw_p25, List.forall_mem_cons.mpr ⟨lw_p26, List.forall_mem_cons.mpr ⟨lw_p27, List.forall_mem_cons.mpr ⟨lw_p28, List.forall_mem_cons.mpr ⟨lw_p29, List.forall_mem_cons.mpr ⟨lw_p30, List.forall_mem_cons.mpr ⟨lw_p31, fun _ h => absurd h List.not_mem_nil⟩⟩⟩⟩⟩⟩⟩⟩⟩⟩⟩⟩⟩⟩⟩⟩
theorem lw_p32 : lw_okq (⟨"HookOrCrookModel", "warmAt", "(I)I"⟩, 14) := ⟨⟨by decide +kernel, by decide +kernel⟩, List.mem_of_getElem? (i := 697) (by decide +kernel), List.mem_of_getElem? (i := 880) (by decide +kernel), List.mem_of_getElem? (i := 881) (by decide +kernel)⟩
theorem lw_p33 : lw_okq (⟨"HookOrCrookModel", "eachTakes", "()V"⟩, 14) := ⟨⟨by decide +kernel, by decide +kernel⟩, List.mem_of_getElem? (i := 697) (by decide +kernel), List.mem_of_getElem? (i := 884) (by decide +kernel), List.mem_of_getElem? (i := 885) (by decide +kernel)⟩
theorem lw_p34 : lw_okq (⟨"HookOrCrookModel", "warm", "()I"⟩, 14) := ⟨⟨by decide +kernel, by decide +kernel⟩, List.mem_of_getElem? (i := 697) (by decide +kernel), List.mem_of_getElem? (i := 888) (by decide +kernel), List.mem_of_getElem? (i := 889) (by decide +kernel)⟩
theorem lw_p35 : lw_okq (⟨"HookOrCrookModel", "lets", "()V"⟩, 14) := ⟨⟨by decide +kernel, by decide +kernel⟩, List.mem_of_getElem? (i := 697) (by decide +kernel), List.mem_of_getElem? (i := 892) (by decide +kernel), List.mem_of_getElem? (i := 893) (by decide +kernel)⟩
theorem lw_p36 : lw_okq (⟨"HookOrCrookModel", "firstOf", "(II)I"⟩, 14) := ⟨⟨by decide +kernel, by decide +kernel⟩, List.mem_of_getElem? (i := 697) (by decide +kernel), List.mem_of_getElem? (i := 916) (by decide +kernel), List.mem_of_getElem? (i := 917) (by decide +kernel)⟩
theorem lw_p37 : lw_okq (⟨"HookOrCrookModel", "weighs", "()I"⟩, 14) := ⟨⟨by decide +kernel, by decide +kernel⟩, List.mem_of_getElem? (i := 697) (by decide +kernel), List.mem_of_getElem? (i := 944) (by decide +kernel), List.mem_of_getElem? (i := 945) (by decide +kernel)⟩
def lw_privs_3 : List (MethodName × Nat) := [(⟨"HookOrCrookModel", "warmAt", "(I)I"⟩, 14), (⟨"HookOrCrookModel", "eachTakes", "()V"⟩, 14), (⟨"HookOrCrookModel", "warm", "()I"⟩, 14), (⟨"HookOrCrookModel", "lets", "()V"⟩, 14), (⟨"HookOrCrookModel", "firstOf", "(II)I"⟩, 14), (⟨"HookOrCrookModel", "weighs", "()I"⟩, 14)]
theorem lw_r3 : ∀ q ∈ lw_privs_3, lw_okq q := List.forall_mem_cons.mpr ⟨lw_p32, List.forall_mem_cons.mpr ⟨lw_p33, List.forall_mem_cons.mpr ⟨lw_p34, List.forall_mem_cons.mpr ⟨lw_p35, List.forall_mem_cons.mpr ⟨lw_p36, List.forall_mem_cons.mpr ⟨lw_p37, fun _ h => absurd h List.not_mem_nil⟩⟩⟩⟩⟩⟩
def lw_privs : List (MethodName × Nat) := lw_privs_1 ++ (lw_privs_2 ++ (lw_privs_3))
def lw_tbl : List Cond := k2_sels lw_privs ++ tables_1
theorem lw_privs_ok : ∀ q ∈ lw_privs, lw_okq q := by
  show ∀ q ∈ lw_privs_1 ++ (lw_privs_2 ++ (lw_privs_3)), lw_okq q
  exact List.forall_mem_append.mpr ⟨lw_r1, List.forall_mem_append.mpr ⟨lw_r2, lw_r3⟩⟩
def RX0 : String := "HookOrCrook$Course"
def TX0 : u_T := fun k => match k with
  | 0 => ("HookOrCrook$Course", "forest", "LHookOrCrook$Forest;", true)
  | _ => ("HookOrCrook$Course", "state", "LHookOrCrook$State;", true)
def tyX0 : Nat → FieldType := fun k => match k with
  | 0 => .object "HookOrCrook$Forest"
  | _ => .object "HookOrCrook$State"
abbrev wsX00 : List Cond := u_ws RX0 TX0 2
theorem nmX0 : ∀ a, a < 2 → ∀ b, b < 2 → a ≠ b → (TX0 a).2.1 ≠ (TX0 b).2.1 := by decide +kernel
theorem tyX0_ok : ∀ k, k < 2 → parseFieldDescriptor (TX0 k).2.2.1 = some (tyX0 k) := by decide +kernel
abbrev cX0_init : ByteArray := prog_2_method_1_code
def yX0_init : MethodName := ⟨RX0, "<init>", "(LHookOrCrook$Forest;)V"⟩
abbrev cX0_begin : ByteArray := prog_2_method_2_code
def yX0_begin : MethodName := ⟨RX0, "begin", "(LHookOrCrook$State;)V"⟩
abbrev cX0_shortenHooks : ByteArray := prog_2_method_3_code
def yX0_shortenHooks : MethodName := ⟨RX0, "shortenHooks", "(I)V"⟩
abbrev cX0_goTo : ByteArray := prog_2_method_4_code
def yX0_goTo : MethodName := ⟨RX0, "goTo", "(I)V"⟩
abbrev cX0_isOver : ByteArray := prog_2_method_5_code
def yX0_isOver : MethodName := ⟨RX0, "isOver", "()Z"⟩
abbrev cX0_firstDayAllWarm : ByteArray := prog_2_method_6_code
def yX0_firstDayAllWarm : MethodName := ⟨RX0, "firstDayAllWarm", "()I"⟩
abbrev cX0_goThroughStorm : ByteArray := prog_2_method_7_code
def yX0_goThroughStorm : MethodName := ⟨RX0, "goThroughStorm", "(II)V"⟩
abbrev cX0_draw : ByteArray := prog_2_method_8_code
def yX0_draw : MethodName := ⟨RX0, "draw", "(II)I"⟩
abbrev cX0_blow : ByteArray := prog_2_method_9_code
def yX0_blow : MethodName := ⟨RX0, "blow", "(I)V"⟩
abbrev cX0_gatherToday : ByteArray := prog_2_method_10_code
def yX0_gatherToday : MethodName := ⟨RX0, "gatherToday", "()V"⟩
def RX1 : String := "HookOrCrook$Dealing"
def TX1 : u_T := fun k => match k with
  | 0 => ("HookOrCrook$Dealing", "forest", "LHookOrCrook$Forest;", true)
  | 1 => ("HookOrCrook$Dealing", "takers", "[I", true)
  | 2 => ("HookOrCrook$Dealing", "rest", "[I", true)
  | 3 => ("HookOrCrook$Dealing", "free", "[I", true)
  | 4 => ("HookOrCrook$Dealing", "owners", "[I", true)
  | 5 => ("HookOrCrook$Dealing", "bestOwners", "[I", true)
  | _ => ("HookOrCrook$Dealing", "most", "I", false)
def tyX1 : Nat → FieldType := fun k => match k with
  | 0 => .object "HookOrCrook$Forest"
  | 1 => .array .int
  | 2 => .array .int
  | 3 => .array .int
  | 4 => .array .int
  | 5 => .array .int
  | _ => .int
abbrev wsX10 : List Cond := u_ws RX1 TX1 7
theorem nmX1 : ∀ a, a < 7 → ∀ b, b < 7 → a ≠ b → (TX1 a).2.1 ≠ (TX1 b).2.1 := by decide +kernel
theorem tyX1_ok : ∀ k, k < 7 → parseFieldDescriptor (TX1 k).2.2.1 = some (tyX1 k) := by decide +kernel
abbrev cX1_init : ByteArray := prog_3_method_1_code
def yX1_init : MethodName := ⟨RX1, "<init>", "(LHookOrCrook$Forest;)V"⟩
abbrev cX1_whoHas : ByteArray := prog_3_method_2_code
def yX1_whoHas : MethodName := ⟨RX1, "whoHas", "(I)I"⟩
abbrev cX1_find : ByteArray := prog_3_method_3_code
def yX1_find : MethodName := ⟨RX1, "find", "(LHookOrCrook$State;)V"⟩
abbrev cX1_takersOf : ByteArray := prog_3_method_4_code
def yX1_takersOf : MethodName := ⟨RX1, "takersOf", "(LHookOrCrook$State;I)I"⟩
abbrev cX1_deal : ByteArray := prog_3_method_5_code
def yX1_deal : MethodName := ⟨RX1, "deal", "(LHookOrCrook$Dealing;III)V"⟩
abbrev cX1_keepIfBetter : ByteArray := prog_3_method_6_code
def yX1_keepIfBetter : MethodName := ⟨RX1, "keepIfBetter", "(I)V"⟩
def RX2 : String := "HookOrCrook$Forest"
def TX2 : u_T := fun k => match k with
  | 0 => ("HookOrCrook$Forest", "kinds", "[I", true)
  | 1 => ("HookOrCrook$Forest", "heights", "[I", true)
  | 2 => ("HookOrCrook$Forest", "weights", "[I", true)
  | 3 => ("HookOrCrook$Forest", "strengths", "[I", true)
  | 4 => ("HookOrCrook$Forest", "hearths", "[I", true)
  | 5 => ("HookOrCrook$Forest", "boughs", "I", false)
  | 6 => ("HookOrCrook$Forest", "tenants", "I", false)
  | 7 => ("HookOrCrook$Forest", "longest", "I", false)
  | 8 => ("HookOrCrook$Forest", "round", "I", false)
  | _ => ("HookOrCrook$Forest", "falls", "I", false)
def tyX2 : Nat → FieldType := fun k => match k with
  | 0 => .array .int
  | 1 => .array .int
  | 2 => .array .int
  | 3 => .array .int
  | 4 => .array .int
  | 5 => .int
  | 6 => .int
  | 7 => .int
  | 8 => .int
  | _ => .int
abbrev wsX20 : List Cond := u_ws RX2 TX2 10
theorem nmX2 : ∀ a, a < 10 → ∀ b, b < 10 → a ≠ b → (TX2 a).2.1 ≠ (TX2 b).2.1 := by decide +kernel
theorem tyX2_ok : ∀ k, k < 10 → parseFieldDescriptor (TX2 k).2.2.1 = some (tyX2 k) := by decide +kernel
abbrev cX2_init : ByteArray := prog_4_method_1_code
def yX2_init : MethodName := ⟨RX2, "<init>", "()V"⟩
abbrev cX2_read : ByteArray := prog_4_method_2_code
def yX2_read : MethodName := ⟨RX2, "read", "(LHookOrCrook$Text;LHookOrCrook$State;)V"⟩
abbrev cX2_put : ByteArray := prog_4_method_3_code
def yX2_put : MethodName := ⟨RX2, "put", "(CLHookOrCrook$Text;LHookOrCrook$State;)V"⟩
abbrev cX2_putBough : ByteArray := prog_4_method_4_code
def yX2_putBough : MethodName := ⟨RX2, "putBough", "(LHookOrCrook$Text;LHookOrCrook$State;)V"⟩
abbrev cX2_putTenant : ByteArray := prog_4_method_5_code
def yX2_putTenant : MethodName := ⟨RX2, "putTenant", "(LHookOrCrook$Text;LHookOrCrook$State;)V"⟩
abbrev cX2_hasBough : ByteArray := prog_4_method_6_code
def yX2_hasBough : MethodName := ⟨RX2, "hasBough", "(I)Z"⟩
abbrev cX2_hasTenant : ByteArray := prog_4_method_7_code
def yX2_hasTenant : MethodName := ⟨RX2, "hasTenant", "(I)Z"⟩
abbrev cX2_kind : ByteArray := prog_4_method_8_code
def yX2_kind : MethodName := ⟨RX2, "kind", "(I)I"⟩
abbrev cX2_height : ByteArray := prog_4_method_9_code
def yX2_height : MethodName := ⟨RX2, "height", "(I)I"⟩
abbrev cX2_weight : ByteArray := prog_4_method_10_code
def yX2_weight : MethodName := ⟨RX2, "weight", "(I)I"⟩
abbrev cX2_strength : ByteArray := prog_4_method_11_code
def yX2_strength : MethodName := ⟨RX2, "strength", "(I)I"⟩
abbrev cX2_hearth : ByteArray := prog_4_method_12_code
def yX2_hearth : MethodName := ⟨RX2, "hearth", "(I)I"⟩
abbrev cX2_weightOf : ByteArray := prog_4_method_13_code
def yX2_weightOf : MethodName := ⟨RX2, "weightOf", "(I)I"⟩
abbrev cX2_isDead : ByteArray := prog_4_method_14_code
def yX2_isDead : MethodName := ⟨RX2, "isDead", "(LHookOrCrook$State;II)Z"⟩
abbrev cX2_hasFallen : ByteArray := prog_4_method_15_code
def yX2_hasFallen : MethodName := ⟨RX2, "hasFallen", "(LHookOrCrook$State;II)Z"⟩
abbrev cX2_isInReach : ByteArray := prog_4_method_16_code
def yX2_isInReach : MethodName := ⟨RX2, "isInReach", "(LHookOrCrook$State;II)Z"⟩
abbrev cX2_couldTake : ByteArray := prog_4_method_17_code
def yX2_couldTake : MethodName := ⟨RX2, "couldTake", "(LHookOrCrook$State;IIII)Z"⟩
abbrev cX2_canTake : ByteArray := prog_4_method_18_code
def yX2_canTake : MethodName := ⟨RX2, "canTake", "(LHookOrCrook$State;II)Z"⟩
abbrev cX2_isCaught : ByteArray := prog_4_method_19_code
def yX2_isCaught : MethodName := ⟨RX2, "isCaught", "(LHookOrCrook$State;II)Z"⟩
abbrev cX2_isWarm : ByteArray := prog_4_method_20_code
def yX2_isWarm : MethodName := ⟨RX2, "isWarm", "(LHookOrCrook$State;I)Z"⟩
abbrev cX2_warmOnes : ByteArray := prog_4_method_21_code
def yX2_warmOnes : MethodName := ⟨RX2, "warmOnes", "(LHookOrCrook$State;)I"⟩
abbrev cX2_areAllWarm : ByteArray := prog_4_method_22_code
def yX2_areAllWarm : MethodName := ⟨RX2, "areAllWarm", "(LHookOrCrook$State;)Z"⟩
abbrev cX2_firstDayFor : ByteArray := prog_4_method_23_code
def yX2_firstDayFor : MethodName := ⟨RX2, "firstDayFor", "(LHookOrCrook$State;II)I"⟩
abbrev cX2_nobodyEverTakes : ByteArray := prog_4_method_24_code
def yX2_nobodyEverTakes : MethodName := ⟨RX2, "nobodyEverTakes", "(LHookOrCrook$State;I)Z"⟩
def RX3 : String := "HookOrCrook$Pile"
def TX3 : u_T := fun k => match k with
  | 0 => ("HookOrCrook$Pile", "states", "[LHookOrCrook$State;", true)
  | _ => ("HookOrCrook$Pile", "many", "I", false)
def tyX3 : Nat → FieldType := fun k => match k with
  | 0 => .array (.object "HookOrCrook$State")
  | _ => .int
abbrev wsX30 : List Cond := u_ws RX3 TX3 2
theorem nmX3 : ∀ a, a < 2 → ∀ b, b < 2 → a ≠ b → (TX3 a).2.1 ≠ (TX3 b).2.1 := by decide +kernel
theorem tyX3_ok : ∀ k, k < 2 → parseFieldDescriptor (TX3 k).2.2.1 = some (tyX3 k) := by decide +kernel
abbrev cX3_init : ByteArray := prog_5_method_1_code
def yX3_init : MethodName := ⟨RX3, "<init>", "(I)V"⟩
abbrev cX3_isFull : ByteArray := prog_5_method_2_code
def yX3_isFull : MethodName := ⟨RX3, "isFull", "()Z"⟩
abbrev cX3_clear : ByteArray := prog_5_method_3_code
def yX3_clear : MethodName := ⟨RX3, "clear", "()V"⟩
abbrev cX3_add : ByteArray := prog_5_method_4_code
def yX3_add : MethodName := ⟨RX3, "add", "(LHookOrCrook$State;)V"⟩
abbrev cX3_moveLastTo : ByteArray := prog_5_method_5_code
def yX3_moveLastTo : MethodName := ⟨RX3, "moveLastTo", "(LHookOrCrook$State;)V"⟩
abbrev cX3_dropOldest : ByteArray := prog_5_method_6_code
def yX3_dropOldest : MethodName := ⟨RX3, "dropOldest", "()V"⟩
def RX4 : String := "HookOrCrook$State"
def TX4 : u_T := fun k => match k with
  | 0 => ("HookOrCrook$State", "cells", "[I", true)
  | 1 => ("HookOrCrook$State", "day", "I", false)
  | _ => ("HookOrCrook$State", "gone", "I", false)
def tyX4 : Nat → FieldType := fun k => match k with
  | 0 => .array .int
  | 1 => .int
  | _ => .int
abbrev wsX40 : List Cond := u_ws RX4 TX4 3
theorem nmX4 : ∀ a, a < 3 → ∀ b, b < 3 → a ≠ b → (TX4 a).2.1 ≠ (TX4 b).2.1 := by decide +kernel
theorem tyX4_ok : ∀ k, k < 3 → parseFieldDescriptor (TX4 k).2.2.1 = some (tyX4 k) := by decide +kernel
abbrev cX4_init : ByteArray := prog_6_method_1_code
def yX4_init : MethodName := ⟨RX4, "<init>", "()V"⟩
abbrev cX4_become : ByteArray := prog_6_method_2_code
def yX4_become : MethodName := ⟨RX4, "become", "(LHookOrCrook$State;)V"⟩
abbrev cX4_clear : ByteArray := prog_6_method_3_code
def yX4_clear : MethodName := ⟨RX4, "clear", "()V"⟩
abbrev cX4_deadFrom : ByteArray := prog_6_method_4_code
def yX4_deadFrom : MethodName := ⟨RX4, "deadFrom", "(I)I"⟩
abbrev cX4_setDeadFrom : ByteArray := prog_6_method_5_code
def yX4_setDeadFrom : MethodName := ⟨RX4, "setDeadFrom", "(II)V"⟩
abbrev cX4_isGone : ByteArray := prog_6_method_6_code
def yX4_isGone : MethodName := ⟨RX4, "isGone", "(I)Z"⟩
abbrev cX4_stack : ByteArray := prog_6_method_7_code
def yX4_stack : MethodName := ⟨RX4, "stack", "(I)I"⟩
abbrev cX4_reach : ByteArray := prog_6_method_8_code
def yX4_reach : MethodName := ⟨RX4, "reach", "(I)I"⟩
abbrev cX4_setReach : ByteArray := prog_6_method_9_code
def yX4_setReach : MethodName := ⟨RX4, "setReach", "(II)V"⟩
abbrev cX4_carried : ByteArray := prog_6_method_10_code
def yX4_carried : MethodName := ⟨RX4, "carried", "(I)I"⟩
abbrev cX4_pick : ByteArray := prog_6_method_11_code
def yX4_pick : MethodName := ⟨RX4, "pick", "(III)V"⟩
abbrev cX4_loseStack : ByteArray := prog_6_method_12_code
def yX4_loseStack : MethodName := ⟨RX4, "loseStack", "(I)V"⟩
abbrev cX4_goBy : ByteArray := prog_6_method_13_code
def yX4_goBy : MethodName := ⟨RX4, "goBy", "(I)V"⟩
def RX5 : String := "HookOrCrook$Text"
def TX5 : u_T := fun k => match k with
  | 0 => ("HookOrCrook$Text", "letters", "[C", true)
  | 1 => ("HookOrCrook$Text", "numbers", "[I", true)
  | _ => ("HookOrCrook$Text", "length", "I", false)
def tyX5 : Nat → FieldType := fun k => match k with
  | 0 => .array .char
  | 1 => .array .int
  | _ => .int
abbrev wsX50 : List Cond := u_ws RX5 TX5 3
theorem nmX5 : ∀ a, a < 3 → ∀ b, b < 3 → a ≠ b → (TX5 a).2.1 ≠ (TX5 b).2.1 := by decide +kernel
theorem tyX5_ok : ∀ k, k < 3 → parseFieldDescriptor (TX5 k).2.2.1 = some (tyX5 k) := by decide +kernel
abbrev cX5_init : ByteArray := prog_7_method_1_code
def yX5_init : MethodName := ⟨RX5, "<init>", "()V"⟩
abbrev cX5_isFull : ByteArray := prog_7_method_2_code
def yX5_isFull : MethodName := ⟨RX5, "isFull", "()Z"⟩
abbrev cX5_add : ByteArray := prog_7_method_3_code
def yX5_add : MethodName := ⟨RX5, "add", "(C)V"⟩
abbrev cX5_become : ByteArray := prog_7_method_4_code
def yX5_become : MethodName := ⟨RX5, "become", "(Ljava/lang/String;)V"⟩
abbrev cX5_letter : ByteArray := prog_7_method_5_code
def yX5_letter : MethodName := ⟨RX5, "letter", "(I)C"⟩
abbrev cX5_number : ByteArray := prog_7_method_6_code
def yX5_number : MethodName := ⟨RX5, "number", "(I)I"⟩
abbrev cX5_firstFault : ByteArray := prog_7_method_7_code
def yX5_firstFault : MethodName := ⟨RX5, "firstFault", "()I"⟩
abbrev cX5_canBeLaid : ByteArray := prog_7_method_8_code
def yX5_canBeLaid : MethodName := ⟨RX5, "canBeLaid", "()Z"⟩
abbrev cX5_has : ByteArray := prog_7_method_9_code
def yX5_has : MethodName := ⟨RX5, "has", "(C)Z"⟩
abbrev cX5_readItem : ByteArray := prog_7_method_10_code
def yX5_readItem : MethodName := ⟨RX5, "readItem", "(I)I"⟩
abbrev cX5_readNumber : ByteArray := prog_7_method_11_code
def yX5_readNumber : MethodName := ⟨RX5, "readNumber", "(IIII)Z"⟩
abbrev cX5_figuresAt : ByteArray := prog_7_method_12_code
def yX5_figuresAt : MethodName := ⟨RX5, "figuresAt", "(I)I"⟩
abbrev cX5_isFigure : ByteArray := prog_7_method_13_code
def yX5_isFigure : MethodName := ⟨RX5, "isFigure", "(C)Z"⟩
abbrev cX5_howManyNumbers : ByteArray := prog_7_method_14_code
def yX5_howManyNumbers : MethodName := ⟨RX5, "howManyNumbers", "(C)I"⟩
abbrev cX5_firstLimit : ByteArray := prog_7_method_15_code
def yX5_firstLimit : MethodName := ⟨RX5, "firstLimit", "(C)I"⟩
def RX6 : String := "HookOrCrook"
def TX6 : u_T := fun k => match k with
  | 0 => ("HookOrCrook", "text", "LHookOrCrook$Text;", true)
  | 1 => ("HookOrCrook", "forest", "LHookOrCrook$Forest;", true)
  | 2 => ("HookOrCrook", "now", "LHookOrCrook$State;", true)
  | 3 => ("HookOrCrook", "past", "LHookOrCrook$Pile;", true)
  | 4 => ("HookOrCrook", "kept", "LHookOrCrook$Pile;", true)
  | 5 => ("HookOrCrook", "course", "LHookOrCrook$Course;", true)
  | _ => ("HookOrCrook", "dealing", "LHookOrCrook$Dealing;", true)
def tyX6 : Nat → FieldType := fun k => match k with
  | 0 => .object "HookOrCrook$Text"
  | 1 => .object "HookOrCrook$Forest"
  | 2 => .object "HookOrCrook$State"
  | 3 => .object "HookOrCrook$Pile"
  | 4 => .object "HookOrCrook$Pile"
  | 5 => .object "HookOrCrook$Course"
  | _ => .object "HookOrCrook$Dealing"
abbrev wsX60 : List Cond := u_ws RX6 TX6 7
theorem nmX6 : ∀ a, a < 7 → ∀ b, b < 7 → a ≠ b → (TX6 a).2.1 ≠ (TX6 b).2.1 := by decide +kernel
theorem tyX6_ok : ∀ k, k < 7 → parseFieldDescriptor (TX6 k).2.2.1 = some (tyX6 k) := by decide +kernel
abbrev cX6_init : ByteArray := prog_1_method_1_code
def yX6_init : MethodName := ⟨RX6, "<init>", "()V"⟩
abbrev cX6_write : ByteArray := prog_1_method_2_code
def yX6_write : MethodName := ⟨RX6, "write", "(I)I"⟩
abbrev cX6_wipe : ByteArray := prog_1_method_3_code
def yX6_wipe : MethodName := ⟨RX6, "wipe", "()I"⟩
abbrev cX6_fault : ByteArray := prog_1_method_4_code
def yX6_fault : MethodName := ⟨RX6, "fault", "()I"⟩
abbrev cX6_lay : ByteArray := prog_1_method_5_code
def yX6_lay : MethodName := ⟨RX6, "lay", "()I"⟩
abbrev cX6_bough : ByteArray := prog_1_method_6_code
def yX6_bough : MethodName := ⟨RX6, "bough", "(II)I"⟩
abbrev cX6_tenant : ByteArray := prog_1_method_7_code
def yX6_tenant : MethodName := ⟨RX6, "tenant", "(II)I"⟩
abbrev cX6_can : ByteArray := prog_1_method_8_code
def yX6_can : MethodName := ⟨RX6, "can", "(II)I"⟩
abbrev cX6_take : ByteArray := prog_1_method_9_code
def yX6_take : MethodName := ⟨RX6, "take", "(II)I"⟩
abbrev cX6_pass : ByteArray := prog_1_method_10_code
def yX6_pass : MethodName := ⟨RX6, "pass", "(I)I"⟩
abbrev cX6_hook : ByteArray := prog_1_method_11_code
def yX6_hook : MethodName := ⟨RX6, "hook", "(II)I"⟩
abbrev cX6_ring : ByteArray := prog_1_method_12_code
def yX6_ring : MethodName := ⟨RX6, "ring", "(I)I"⟩
abbrev cX6_undo : ByteArray := prog_1_method_13_code
def yX6_undo : MethodName := ⟨RX6, "undo", "()I"⟩
abbrev cX6_warmBy : ByteArray := prog_1_method_14_code
def yX6_warmBy : MethodName := ⟨RX6, "warmBy", "(I)I"⟩
abbrev cX6_allWarm : ByteArray := prog_1_method_15_code
def yX6_allWarm : MethodName := ⟨RX6, "allWarm", "()I"⟩
abbrev cX6_share : ByteArray := prog_1_method_16_code
def yX6_share : MethodName := ⟨RX6, "share", "(I)I"⟩
abbrev cX6_leastHook : ByteArray := prog_1_method_17_code
def yX6_leastHook : MethodName := ⟨RX6, "leastHook", "(I)I"⟩
abbrev cX6_pole : ByteArray := prog_1_method_18_code
def yX6_pole : MethodName := ⟨RX6, "pole", "()I"⟩
abbrev cX6_firstDay : ByteArray := prog_1_method_19_code
def yX6_firstDay : MethodName := ⟨RX6, "firstDay", "(II)I"⟩
abbrev cX6_sticks : ByteArray := prog_1_method_20_code
def yX6_sticks : MethodName := ⟨RX6, "sticks", "(II)I"⟩
abbrev cX6_whose : ByteArray := prog_1_method_21_code
def yX6_whose : MethodName := ⟨RX6, "whose", "(II)I"⟩
abbrev cX6_sure : ByteArray := prog_1_method_22_code
def yX6_sure : MethodName := ⟨RX6, "sure", "(IIII)I"⟩
abbrev cX6_waste : ByteArray := prog_1_method_23_code
def yX6_waste : MethodName := ⟨RX6, "waste", "()I"⟩
abbrev cX6_needs : ByteArray := prog_1_method_24_code
def yX6_needs : MethodName := ⟨RX6, "needs", "()I"⟩
abbrev cX6_storm : ByteArray := prog_1_method_25_code
def yX6_storm : MethodName := ⟨RX6, "storm", "(III)I"⟩
abbrev cX6_keep : ByteArray := prog_1_method_26_code
def yX6_keep : MethodName := ⟨RX6, "keep", "()I"⟩
abbrev cX6_back : ByteArray := prog_1_method_27_code
def yX6_back : MethodName := ⟨RX6, "back", "()I"⟩
abbrev cX6_count : ByteArray := prog_1_method_28_code
def yX6_count : MethodName := ⟨RX6, "count", "(I)I"⟩
abbrev cX6_isWithin : ByteArray := prog_1_method_29_code
def yX6_isWithin : MethodName := ⟨RX6, "isWithin", "(III)Z"⟩
abbrev cX6_bit : ByteArray := prog_1_method_30_code
def yX6_bit : MethodName := ⟨RX6, "bit", "(Z)I"⟩
abbrev cX6_commonWithTen : ByteArray := prog_1_method_31_code
def yX6_commonWithTen : MethodName := ⟨RX6, "commonWithTen", "(I)I"⟩
def RX7 : String := "HookOrCrookModel"
def TX7 : u_T := fun k => match k with
  | 0 => ("HookOrCrookModel", "text", "[I", true)
  | 1 => ("HookOrCrookModel", "typed", "I", false)
  | 2 => ("HookOrCrookModel", "told", "[I", true)
  | 3 => ("HookOrCrookModel", "draft", "[I", true)
  | 4 => ("HookOrCrookModel", "begun", "[I", true)
  | 5 => ("HookOrCrookModel", "s", "[I", true)
  | 6 => ("HookOrCrookModel", "past", "[I", true)
  | 7 => ("HookOrCrookModel", "known", "I", false)
  | 8 => ("HookOrCrookModel", "images", "[I", true)
  | 9 => ("HookOrCrookModel", "kept", "I", false)
  | 10 => ("HookOrCrookModel", "at", "I", false)
  | 11 => ("HookOrCrookModel", "held", "[I", true)
  | 12 => ("HookOrCrookModel", "load", "[I", true)
  | _ => ("HookOrCrookModel", "shared", "[I", true)
def tyX7 : Nat → FieldType := fun k => match k with
  | 0 => .array .int
  | 1 => .int
  | 2 => .array .int
  | 3 => .array .int
  | 4 => .array .int
  | 5 => .array .int
  | 6 => .array .int
  | 7 => .int
  | 8 => .array .int
  | 9 => .int
  | 10 => .int
  | 11 => .array .int
  | 12 => .array .int
  | _ => .array .int
abbrev wsX70 : List Cond := u_ws RX7 TX7 14
theorem nmX7 : ∀ a, a < 14 → ∀ b, b < 14 → a ≠ b → (TX7 a).2.1 ≠ (TX7 b).2.1 := by decide +kernel
theorem tyX7_ok : ∀ k, k < 14 → parseFieldDescriptor (TX7 k).2.2.1 = some (tyX7 k) := by decide +kernel
abbrev cX7_init : ByteArray := prog_9_method_1_code
def yX7_init : MethodName := ⟨RX7, "<init>", "()V"⟩
abbrev cX7_in : ByteArray := prog_9_method_3_code
def yX7_in : MethodName := ⟨RX7, "in", "(III)Z"⟩
abbrev cX7_isBough : ByteArray := prog_9_method_4_code
def yX7_isBough : MethodName := ⟨RX7, "isBough", "(I)Z"⟩
abbrev cX7_isTenant : ByteArray := prog_9_method_5_code
def yX7_isTenant : MethodName := ⟨RX7, "isTenant", "(I)Z"⟩
abbrev cX7_write : ByteArray := prog_9_method_6_code
def yX7_write : MethodName := ⟨RX7, "write", "(I)I"⟩
abbrev cX7_wipe : ByteArray := prog_9_method_7_code
def yX7_wipe : MethodName := ⟨RX7, "wipe", "()I"⟩
abbrev cX7_letterAt : ByteArray := prog_9_method_8_code
def yX7_letterAt : MethodName := ⟨RX7, "letterAt", "(I)I"⟩
abbrev cX7_isFigure : ByteArray := prog_9_method_9_code
def yX7_isFigure : MethodName := ⟨RX7, "isFigure", "(I)Z"⟩
abbrev cX7_number : ByteArray := prog_9_method_10_code
def yX7_number : MethodName := ⟨RX7, "number", "(III)I"⟩
abbrev cX7_begins : ByteArray := prog_9_method_11_code
def yX7_begins : MethodName := ⟨RX7, "begins", "()V"⟩
abbrev cX7_boughOf : ByteArray := prog_9_method_12_code
def yX7_boughOf : MethodName := ⟨RX7, "boughOf", "(IIII)V"⟩
abbrev cX7_tenantOf : ByteArray := prog_9_method_13_code
def yX7_tenantOf : MethodName := ⟨RX7, "tenantOf", "(III)V"⟩
abbrev cX7_readsItem : ByteArray := prog_9_method_14_code
def yX7_readsItem : MethodName := ⟨RX7, "readsItem", "(I)Z"⟩
abbrev cX7_readsAll : ByteArray := prog_9_method_15_code
def yX7_readsAll : MethodName := ⟨RX7, "readsAll", "()I"⟩
abbrev cX7_fault : ByteArray := prog_9_method_16_code
def yX7_fault : MethodName := ⟨RX7, "fault", "()I"⟩
abbrev cX7_lays : ByteArray := prog_9_method_17_code
def yX7_lays : MethodName := ⟨RX7, "lays", "()V"⟩
abbrev cX7_lay : ByteArray := prog_9_method_18_code
def yX7_lay : MethodName := ⟨RX7, "lay", "()I"⟩
abbrev cX7_isDead : ByteArray := prog_9_method_19_code
def yX7_isDead : MethodName := ⟨RX7, "isDead", "(II)Z"⟩
abbrev cX7_isFallen : ByteArray := prog_9_method_20_code
def yX7_isFallen : MethodName := ⟨RX7, "isFallen", "(II)Z"⟩
abbrev cX7_bough : ByteArray := prog_9_method_21_code
def yX7_bough : MethodName := ⟨RX7, "bough", "(II)I"⟩
abbrev cX7_isWarm : ByteArray := prog_9_method_22_code
def yX7_isWarm : MethodName := ⟨RX7, "isWarm", "(I)Z"⟩
abbrev cX7_tenant : ByteArray := prog_9_method_23_code
def yX7_tenant : MethodName := ⟨RX7, "tenant", "(II)I"⟩
abbrev cX7_could : ByteArray := prog_9_method_24_code
def yX7_could : MethodName := ⟨RX7, "could", "(IIII)Z"⟩
abbrev cX7_canNow : ByteArray := prog_9_method_25_code
def yX7_canNow : MethodName := ⟨RX7, "canNow", "(II)Z"⟩
abbrev cX7_keeps : ByteArray := prog_9_method_26_code
def yX7_keeps : MethodName := ⟨RX7, "keeps", "()V"⟩
abbrev cX7_can : ByteArray := prog_9_method_27_code
def yX7_can : MethodName := ⟨RX7, "can", "(II)I"⟩
abbrev cX7_takes : ByteArray := prog_9_method_28_code
def yX7_takes : MethodName := ⟨RX7, "takes", "(II)V"⟩
abbrev cX7_take : ByteArray := prog_9_method_29_code
def yX7_take : MethodName := ⟨RX7, "take", "(II)I"⟩
abbrev cX7_passes : ByteArray := prog_9_method_30_code
def yX7_passes : MethodName := ⟨RX7, "passes", "()V"⟩
abbrev cX7_pass : ByteArray := prog_9_method_31_code
def yX7_pass : MethodName := ⟨RX7, "pass", "(I)I"⟩
abbrev cX7_hook : ByteArray := prog_9_method_32_code
def yX7_hook : MethodName := ⟨RX7, "hook", "(II)I"⟩
abbrev cX7_ring : ByteArray := prog_9_method_33_code
def yX7_ring : MethodName := ⟨RX7, "ring", "(I)I"⟩
abbrev cX7_undo : ByteArray := prog_9_method_34_code
def yX7_undo : MethodName := ⟨RX7, "undo", "()I"⟩
abbrev cX7_holds : ByteArray := prog_9_method_35_code
def yX7_holds : MethodName := ⟨RX7, "holds", "()V"⟩
abbrev cX7_lets : ByteArray := prog_9_method_36_code
def yX7_lets : MethodName := ⟨RX7, "lets", "()V"⟩
abbrev cX7_eachTakes : ByteArray := prog_9_method_37_code
def yX7_eachTakes : MethodName := ⟨RX7, "eachTakes", "()V"⟩
abbrev cX7_warm : ByteArray := prog_9_method_38_code
def yX7_warm : MethodName := ⟨RX7, "warm", "()I"⟩
abbrev cX7_warmAt : ByteArray := prog_9_method_39_code
def yX7_warmAt : MethodName := ⟨RX7, "warmAt", "(I)I"⟩
abbrev cX7_warmBy : ByteArray := prog_9_method_40_code
def yX7_warmBy : MethodName := ⟨RX7, "warmBy", "(I)I"⟩
abbrev cX7_allWarm : ByteArray := prog_9_method_41_code
def yX7_allWarm : MethodName := ⟨RX7, "allWarm", "()I"⟩
abbrev cX7_share : ByteArray := prog_9_method_42_code
def yX7_share : MethodName := ⟨RX7, "share", "(I)I"⟩
abbrev cX7_leastHook : ByteArray := prog_9_method_43_code
def yX7_leastHook : MethodName := ⟨RX7, "leastHook", "(I)I"⟩
abbrev cX7_pole : ByteArray := prog_9_method_44_code
def yX7_pole : MethodName := ⟨RX7, "pole", "()I"⟩
abbrev cX7_firstOf : ByteArray := prog_9_method_45_code
def yX7_firstOf : MethodName := ⟨RX7, "firstOf", "(II)I"⟩
abbrev cX7_firstDay : ByteArray := prog_9_method_46_code
def yX7_firstDay : MethodName := ⟨RX7, "firstDay", "(II)I"⟩
abbrev cX7_sticks : ByteArray := prog_9_method_47_code
def yX7_sticks : MethodName := ⟨RX7, "sticks", "(II)I"⟩
abbrev cX7_whose : ByteArray := prog_9_method_48_code
def yX7_whose : MethodName := ⟨RX7, "whose", "(II)I"⟩
abbrev cX7_sure : ByteArray := prog_9_method_49_code
def yX7_sure : MethodName := ⟨RX7, "sure", "(IIII)I"⟩
abbrev cX7_waste : ByteArray := prog_9_method_50_code
def yX7_waste : MethodName := ⟨RX7, "waste", "()I"⟩
abbrev cX7_needs : ByteArray := prog_9_method_51_code
def yX7_needs : MethodName := ⟨RX7, "needs", "()I"⟩
abbrev cX7_weighs : ByteArray := prog_9_method_52_code
def yX7_weighs : MethodName := ⟨RX7, "weighs", "()I"⟩
abbrev cX7_storm : ByteArray := prog_9_method_53_code
def yX7_storm : MethodName := ⟨RX7, "storm", "(III)I"⟩
abbrev cX7_keep : ByteArray := prog_9_method_54_code
def yX7_keep : MethodName := ⟨RX7, "keep", "()I"⟩
abbrev cX7_back : ByteArray := prog_9_method_55_code
def yX7_back : MethodName := ⟨RX7, "back", "()I"⟩
abbrev cX7_count : ByteArray := prog_9_method_56_code
def yX7_count : MethodName := ⟨RX7, "count", "(I)I"⟩
def RJ6 : String := "java/lang/Integer"
abbrev cJ6_bitCount_0f7a4 : ByteArray := prog_10_method_49_code
def yJ6_bitCount_0f7a4 : MethodName := ⟨RJ6, "bitCount", "(I)I"⟩
def RJ9 : String := "java/lang/Math"
abbrev cJ9_max_7cf53 : ByteArray := prog_11_method_65_code
def yJ9_max_7cf53 : MethodName := ⟨RJ9, "max", "(II)I"⟩
abbrev cJ9_min_7cf53 : ByteArray := prog_11_method_69_code
def yJ9_min_7cf53 : MethodName := ⟨RJ9, "min", "(II)I"⟩
def RJ0 : String := "java/lang/String"
abbrev cJ0_length_8abf5 : ByteArray := prog_12_method_54_code
def yJ0_length_8abf5 : MethodName := ⟨RJ0, "length", "()I"⟩
abbrev cJ0_charAt_5068e : ByteArray := prog_12_method_56_code
def yJ0_charAt_5068e : MethodName := ⟨RJ0, "charAt", "(I)C"⟩
abbrev cJ0_coder_7d493 : ByteArray := prog_12_method_152_code
def yJ0_coder_7d493 : MethodName := ⟨RJ0, "coder", "()B"⟩
abbrev cJ0_isLatin1_aae02 : ByteArray := prog_12_method_154_code
def yJ0_isLatin1_aae02 : MethodName := ⟨RJ0, "isLatin1", "()Z"⟩
abbrev cJ0_checkIndex_df160 : ByteArray := prog_12_method_155_code
def yJ0_checkIndex_df160 : MethodName := ⟨RJ0, "checkIndex", "(II)V"⟩
def RJ1 : String := "java/lang/StringLatin1"
abbrev cJ1_charAt_3b067 : ByteArray := prog_13_method_2_code
def yJ1_charAt_3b067 : MethodName := ⟨RJ1, "charAt", "([BI)C"⟩
def RJ2 : String := "java/lang/StringUTF16"
abbrev cJ2_getChar_3b067 : ByteArray := prog_14_method_5_code
def yJ2_getChar_3b067 : MethodName := ⟨RJ2, "getChar", "([BI)C"⟩
abbrev cJ2_length_9d52b : ByteArray := prog_14_method_6_code
def yJ2_length_9d52b : MethodName := ⟨RJ2, "length", "([B)I"⟩
abbrev cJ2_charAt_3b067 : ByteArray := prog_14_method_83_code
def yJ2_charAt_3b067 : MethodName := ⟨RJ2, "charAt", "([BI)C"⟩
abbrev cJ2_checkIndex_2214a : ByteArray := prog_14_method_91_code
def yJ2_checkIndex_2214a : MethodName := ⟨RJ2, "checkIndex", "(I[B)V"⟩
def RJ10 : String := "java/lang/System"
def RJ3 : String := "jdk/internal/util/Preconditions"
abbrev cJ3_checkIndex_8e157 : ByteArray := prog_16_method_11_code
def yJ3_checkIndex_8e157 : MethodName := ⟨RJ3, "checkIndex", "(IILjava/util/function/BiFunction;)I"⟩
def RL : String := "HookOrCrookLaw"
abbrev cL_law : ByteArray := code
def yL_law : MethodName := ⟨RL, "law", "([I)Z"⟩
/-! the words that stay good, of the tables -/
def k_KT : List Cond := lw_tbl.filter (fun w => goodWord w)
theorem k_sub : ∀ w ∈ k_KT, w ∈ lw_tbl := fun _ h => (List.mem_filter.mp h).1
theorem k_good : ∀ w ∈ k_KT, goodWord w = true := fun _ h => (List.mem_filter.mp h).2
theorem k_p {w : Cond} (i : Nat) (h : (k2_sels lw_privs)[i]? = some w) (g : goodWord w = true) : w ∈ k_KT := List.mem_filter.mpr ⟨List.mem_append_left _ (List.mem_of_getElem? h), g⟩
theorem k_t1 {w : Cond} (i : Nat) (h : tables_1_1[i]? = some w) (g : goodWord w = true) : w ∈ k_KT := List.mem_filter.mpr ⟨List.mem_append_right _ (List.mem_append_left _ (List.mem_of_getElem? h)), g⟩
theorem k_t2 {w : Cond} (i : Nat) (h : tables_1_2[i]? = some w) (g : goodWord w = true) : w ∈ k_KT := List.mem_filter.mpr ⟨List.mem_append_right _ (List.mem_append_right _ (List.mem_append_left _ (List.mem_of_getElem? h))), g⟩
theorem k_t3 {w : Cond} (i : Nat) (h : tables_1_3[i]? = some w) (g : goodWord w = true) : w ∈ k_KT := List.mem_filter.mpr ⟨List.mem_append_right _ (List.mem_append_right _ (List.mem_append_right _ (List.mem_append_left _ (List.mem_of_getElem? h)))), g⟩
theorem k_t4 {w : Cond} (i : Nat) (h : tables_1_4[i]? = some w) (g : goodWord w = true) : w ∈ k_KT := List.mem_filter.mpr ⟨List.mem_append_right _ (List.mem_append_right _ (List.mem_append_right _ (List.mem_append_right _ (List.mem_append_left _ (List.mem_of_getElem? h))))), g⟩
theorem k_t5 {w : Cond} (i : Nat) (h : tables_1_5[i]? = some w) (g : goodWord w = true) : w ∈ k_KT := List.mem_filter.mpr ⟨List.mem_append_right _ (List.mem_append_right _ (List.mem_append_right _ (List.mem_append_right _ (List.mem_append_right _ (List.mem_of_getElem? h))))), g⟩
theorem in_L : Cond.initialized RL ∈ k_KT := k_t1 0 (by rfl) rfl
theorem in_X6 : Cond.initialized RX6 ∈ k_KT := k_t1 1 (by rfl) rfl
theorem in_X5 : Cond.initialized RX5 ∈ k_KT := k_t1 2 (by rfl) rfl
theorem in_X2 : Cond.initialized RX2 ∈ k_KT := k_t1 3 (by rfl) rfl
theorem in_X4 : Cond.initialized RX4 ∈ k_KT := k_t1 4 (by rfl) rfl
theorem in_X3 : Cond.initialized RX3 ∈ k_KT := k_t1 5 (by rfl) rfl
theorem in_J9 : Cond.initialized RJ9 ∈ k_KT := k_t1 6 (by rfl) rfl
theorem in_X0 : Cond.initialized RX0 ∈ k_KT := k_t1 7 (by rfl) rfl
theorem in_X1 : Cond.initialized RX1 ∈ k_KT := k_t1 8 (by rfl) rfl
theorem in_J0 : Cond.initialized RJ0 ∈ k_KT := k_t1 9 (by rfl) rfl
theorem in_J1 : Cond.initialized RJ1 ∈ k_KT := k_t1 10 (by rfl) rfl
theorem in_J3 : Cond.initialized RJ3 ∈ k_KT := k_t1 11 (by rfl) rfl
theorem in_J2 : Cond.initialized RJ2 ∈ k_KT := k_t1 12 (by rfl) rfl
theorem in_X7 : Cond.initialized RX7 ∈ k_KT := k_t1 13 (by rfl) rfl
theorem in_J10 : Cond.initialized RJ10 ∈ k_KT := k_t1 14 (by rfl) rfl
theorem in_J6 : Cond.initialized RJ6 ∈ k_KT := k_t1 15 (by rfl) rfl
theorem cl_L_7 : Cond.classLink RL 7 RX6 ∈ k_KT := k_t1 16 (by rfl) rfl
theorem is_X6 : Cond.instantiable RX6 7 ∈ k_KT := k_t1 17 (by rfl) rfl
theorem ml_L_9 : Cond.methodLink RL 9 yX6_init ∈ k_KT := k_t1 18 (by rfl) rfl
theorem im_X6_init : Cond.instanceMethod yX6_init ∈ k_KT := k_t1 19 (by rfl) rfl
theorem co_X6_init : Cond.code yX6_init cX6_init 1 none ∈ k_KT := k_t1 20 (by rfl) rfl
theorem ml_X6_1 : Cond.methodLink RX6 1 objectInit ∈ k_KT := k_t1 21 (by rfl) rfl
theorem im_obj : Cond.instanceMethod objectInit ∈ k_KT := k_t1 22 (by rfl) rfl
theorem co_obj : Cond.code objectInit ⟨#[0xb1]⟩ 1 none ∈ k_KT := k_t1 23 (by rfl) rfl
theorem cl_X6_7 : Cond.classLink RX6 7 RX5 ∈ k_KT := k_t1 24 (by rfl) rfl
theorem is_X5 : Cond.instantiable RX5 3 ∈ k_KT := k_t1 25 (by rfl) rfl
theorem im_X5_init : Cond.instanceMethod yX5_init ∈ k_KT := k_t1 27 (by rfl) rfl
theorem co_X5_init : Cond.code yX5_init cX5_init 1 none ∈ k_KT := k_t1 28 (by rfl) rfl
theorem ml_X5_3 : Cond.methodLink RX5 3 objectInit ∈ k_KT := k_t1 29 (by rfl) rfl
theorem fl_X5_11 : Cond.fieldLink RX5 11 "HookOrCrook$Text" "letters" "[C" ∈ k_KT := k_t1 30 (by rfl) rfl
theorem fl_X5_15 : Cond.fieldLink RX5 15 "HookOrCrook$Text" "numbers" "[I" ∈ k_KT := k_t1 31 (by rfl) rfl
theorem fl_X6_68 : Cond.fieldLink RX6 68 "HookOrCrook$Text" "length" "I" ∈ k_KT := k_t1 32 (by rfl) rfl
theorem fl_X5_19 : Cond.fieldLink RX5 19 "HookOrCrook$Text" "length" "I" ∈ k_KT := k_t1 33 (by rfl) rfl
theorem fl_X2_50 : Cond.fieldLink RX2 50 "HookOrCrook$Text" "length" "I" ∈ k_KT := k_t1 34 (by rfl) rfl
theorem la_5_0 : Cond.laysFinal "HookOrCrook$Text" "HookOrCrook$Text" "letters" "[C" ∈ k_KT := k_t1 35 (by rfl) rfl
theorem la_5_1 : Cond.laysFinal "HookOrCrook$Text" "HookOrCrook$Text" "numbers" "[I" ∈ k_KT := k_t1 37 (by rfl) rfl
theorem la_5_2 : Cond.lays "HookOrCrook$Text" "HookOrCrook$Text" "length" "I" ∈ k_KT := k_t1 39 (by rfl) rfl
theorem ac_char : Cond.arrayClass .char ∈ k_KT := k_t1 42 (by rfl) rfl
theorem ac_int : Cond.arrayClass .int ∈ k_KT := k_t1 43 (by rfl) rfl
theorem cl_X6_16 : Cond.classLink RX6 16 RX2 ∈ k_KT := k_t1 44 (by rfl) rfl
theorem is_X2 : Cond.instantiable RX2 10 ∈ k_KT := k_t1 45 (by rfl) rfl
theorem im_X2_init : Cond.instanceMethod yX2_init ∈ k_KT := k_t1 47 (by rfl) rfl
theorem co_X2_init : Cond.code yX2_init cX2_init 1 none ∈ k_KT := k_t1 48 (by rfl) rfl
theorem ml_X2_3 : Cond.methodLink RX2 3 objectInit ∈ k_KT := k_t1 49 (by rfl) rfl
theorem fl_X2_9 : Cond.fieldLink RX2 9 "HookOrCrook$Forest" "kinds" "[I" ∈ k_KT := k_t1 50 (by rfl) rfl
theorem fl_X2_15 : Cond.fieldLink RX2 15 "HookOrCrook$Forest" "heights" "[I" ∈ k_KT := k_t1 51 (by rfl) rfl
theorem fl_X2_18 : Cond.fieldLink RX2 18 "HookOrCrook$Forest" "weights" "[I" ∈ k_KT := k_t1 52 (by rfl) rfl
theorem fl_X2_21 : Cond.fieldLink RX2 21 "HookOrCrook$Forest" "strengths" "[I" ∈ k_KT := k_t1 53 (by rfl) rfl
theorem fl_X2_24 : Cond.fieldLink RX2 24 "HookOrCrook$Forest" "hearths" "[I" ∈ k_KT := k_t1 54 (by rfl) rfl
theorem fl_X2_27 : Cond.fieldLink RX2 27 "HookOrCrook$Forest" "boughs" "I" ∈ k_KT := k_t1 55 (by rfl) rfl
theorem fl_X0_63 : Cond.fieldLink RX0 63 "HookOrCrook$Forest" "boughs" "I" ∈ k_KT := k_t1 56 (by rfl) rfl
theorem fl_X6_94 : Cond.fieldLink RX6 94 "HookOrCrook$Forest" "boughs" "I" ∈ k_KT := k_t1 57 (by rfl) rfl
theorem fl_X2_31 : Cond.fieldLink RX2 31 "HookOrCrook$Forest" "tenants" "I" ∈ k_KT := k_t1 58 (by rfl) rfl
theorem fl_X0_26 : Cond.fieldLink RX0 26 "HookOrCrook$Forest" "tenants" "I" ∈ k_KT := k_t1 59 (by rfl) rfl
theorem fl_X1_64 : Cond.fieldLink RX1 64 "HookOrCrook$Forest" "tenants" "I" ∈ k_KT := k_t1 60 (by rfl) rfl
theorem fl_X6_227 : Cond.fieldLink RX6 227 "HookOrCrook$Forest" "tenants" "I" ∈ k_KT := k_t1 61 (by rfl) rfl
theorem fl_X2_34 : Cond.fieldLink RX2 34 "HookOrCrook$Forest" "longest" "I" ∈ k_KT := k_t1 62 (by rfl) rfl
theorem fl_X6_234 : Cond.fieldLink RX6 234 "HookOrCrook$Forest" "longest" "I" ∈ k_KT := k_t1 63 (by rfl) rfl
theorem fl_X2_37 : Cond.fieldLink RX2 37 "HookOrCrook$Forest" "round" "I" ∈ k_KT := k_t1 64 (by rfl) rfl
theorem fl_X6_253 : Cond.fieldLink RX6 253 "HookOrCrook$Forest" "round" "I" ∈ k_KT := k_t1 65 (by rfl) rfl
theorem fl_X2_40 : Cond.fieldLink RX2 40 "HookOrCrook$Forest" "falls" "I" ∈ k_KT := k_t1 66 (by rfl) rfl
theorem fl_X0_87 : Cond.fieldLink RX0 87 "HookOrCrook$Forest" "falls" "I" ∈ k_KT := k_t1 67 (by rfl) rfl
theorem fl_X6_256 : Cond.fieldLink RX6 256 "HookOrCrook$Forest" "falls" "I" ∈ k_KT := k_t1 68 (by rfl) rfl
theorem la_2_0 : Cond.laysFinal "HookOrCrook$Forest" "HookOrCrook$Forest" "kinds" "[I" ∈ k_KT := k_t1 69 (by rfl) rfl
theorem la_2_1 : Cond.laysFinal "HookOrCrook$Forest" "HookOrCrook$Forest" "heights" "[I" ∈ k_KT := k_t1 71 (by rfl) rfl
theorem la_2_2 : Cond.laysFinal "HookOrCrook$Forest" "HookOrCrook$Forest" "weights" "[I" ∈ k_KT := k_t1 73 (by rfl) rfl
theorem la_2_3 : Cond.laysFinal "HookOrCrook$Forest" "HookOrCrook$Forest" "strengths" "[I" ∈ k_KT := k_t1 75 (by rfl) rfl
theorem la_2_4 : Cond.laysFinal "HookOrCrook$Forest" "HookOrCrook$Forest" "hearths" "[I" ∈ k_KT := k_t1 77 (by rfl) rfl
theorem la_2_5 : Cond.lays "HookOrCrook$Forest" "HookOrCrook$Forest" "boughs" "I" ∈ k_KT := k_t1 79 (by rfl) rfl
theorem la_2_6 : Cond.lays "HookOrCrook$Forest" "HookOrCrook$Forest" "tenants" "I" ∈ k_KT := k_t1 81 (by rfl) rfl
theorem la_2_7 : Cond.lays "HookOrCrook$Forest" "HookOrCrook$Forest" "longest" "I" ∈ k_KT := k_t1 83 (by rfl) rfl
theorem la_2_8 : Cond.lays "HookOrCrook$Forest" "HookOrCrook$Forest" "round" "I" ∈ k_KT := k_t1 85 (by rfl) rfl
theorem la_2_9 : Cond.lays "HookOrCrook$Forest" "HookOrCrook$Forest" "falls" "I" ∈ k_KT := k_t1 87 (by rfl) rfl
theorem cl_X6_23 : Cond.classLink RX6 23 RX4 ∈ k_KT := k_t1 90 (by rfl) rfl
theorem is_X4 : Cond.instantiable RX4 3 ∈ k_KT := k_t1 91 (by rfl) rfl
theorem im_X4_init : Cond.instanceMethod yX4_init ∈ k_KT := k_t1 93 (by rfl) rfl
theorem co_X4_init : Cond.code yX4_init cX4_init 1 none ∈ k_KT := k_t1 94 (by rfl) rfl
theorem ml_X4_5 : Cond.methodLink RX4 5 objectInit ∈ k_KT := k_t1 95 (by rfl) rfl
theorem fl_X4_11 : Cond.fieldLink RX4 11 "HookOrCrook$State" "cells" "[I" ∈ k_KT := k_t1 96 (by rfl) rfl
theorem fl_X4_15 : Cond.fieldLink RX4 15 "HookOrCrook$State" "day" "I" ∈ k_KT := k_t1 97 (by rfl) rfl
theorem fl_X0_53 : Cond.fieldLink RX0 53 "HookOrCrook$State" "day" "I" ∈ k_KT := k_t1 98 (by rfl) rfl
theorem fl_X6_114 : Cond.fieldLink RX6 114 "HookOrCrook$State" "day" "I" ∈ k_KT := k_t1 99 (by rfl) rfl
theorem fl_X2_114 : Cond.fieldLink RX2 114 "HookOrCrook$State" "day" "I" ∈ k_KT := k_t1 100 (by rfl) rfl
theorem fl_X4_19 : Cond.fieldLink RX4 19 "HookOrCrook$State" "gone" "I" ∈ k_KT := k_t1 101 (by rfl) rfl
theorem fl_X0_60 : Cond.fieldLink RX0 60 "HookOrCrook$State" "gone" "I" ∈ k_KT := k_t1 102 (by rfl) rfl
theorem fl_X6_221 : Cond.fieldLink RX6 221 "HookOrCrook$State" "gone" "I" ∈ k_KT := k_t1 103 (by rfl) rfl
theorem la_4_0 : Cond.laysFinal "HookOrCrook$State" "HookOrCrook$State" "cells" "[I" ∈ k_KT := k_t1 104 (by rfl) rfl
theorem la_4_1 : Cond.lays "HookOrCrook$State" "HookOrCrook$State" "day" "I" ∈ k_KT := k_t1 106 (by rfl) rfl
theorem la_4_2 : Cond.lays "HookOrCrook$State" "HookOrCrook$State" "gone" "I" ∈ k_KT := k_t1 108 (by rfl) rfl
theorem cl_X6_30 : Cond.classLink RX6 30 RX3 ∈ k_KT := k_t1 111 (by rfl) rfl
theorem is_X3 : Cond.instantiable RX3 2 ∈ k_KT := k_t1 112 (by rfl) rfl
theorem ml_X6_32 : Cond.methodLink RX6 32 yX3_init ∈ k_KT := k_t1 113 (by rfl) rfl
theorem im_X3_init : Cond.instanceMethod yX3_init ∈ k_KT := k_t1 114 (by rfl) rfl
theorem co_X3_init : Cond.code yX3_init cX3_init 3 none ∈ k_KT := k_t1 115 (by rfl) rfl
theorem ml_X3_1 : Cond.methodLink RX3 1 objectInit ∈ k_KT := k_t1 116 (by rfl) rfl
theorem ml_X3_7 : Cond.methodLink RX3 7 Lib.Math.max.name ∈ k_KT := k_t1 117 (by rfl) rfl
theorem st_mmax : Cond.static Lib.Math.max.name ∈ k_KT := k_t1 118 (by rfl) rfl
theorem co_mmax : Cond.code Lib.Math.max.name Lib.Math.max.code 2 (some .int) ∈ k_KT := k_t1 119 (by rfl) rfl
theorem cl_X3_13 : Cond.classLink RX3 13 RX4 ∈ k_KT := k_t1 120 (by rfl) rfl
theorem fl_X3_15 : Cond.fieldLink RX3 15 "HookOrCrook$Pile" "states" "[LHookOrCrook$State;" ∈ k_KT := k_t1 123 (by rfl) rfl
theorem fl_X3_22 : Cond.fieldLink RX3 22 "HookOrCrook$Pile" "many" "I" ∈ k_KT := k_t1 124 (by rfl) rfl
theorem fl_X6_179 : Cond.fieldLink RX6 179 "HookOrCrook$Pile" "many" "I" ∈ k_KT := k_t1 125 (by rfl) rfl
theorem la_3_0 : Cond.laysFinal "HookOrCrook$Pile" "HookOrCrook$Pile" "states" "[LHookOrCrook$State;" ∈ k_KT := k_t1 126 (by rfl) rfl
theorem la_3_1 : Cond.lays "HookOrCrook$Pile" "HookOrCrook$Pile" "many" "I" ∈ k_KT := k_t1 128 (by rfl) rfl
theorem cl_X6_42 : Cond.classLink RX6 42 RX0 ∈ k_KT := k_t1 131 (by rfl) rfl
theorem is_X0 : Cond.instantiable RX0 2 ∈ k_KT := k_t1 132 (by rfl) rfl
theorem ml_X6_44 : Cond.methodLink RX6 44 yX0_init ∈ k_KT := k_t1 133 (by rfl) rfl
theorem im_X0_init : Cond.instanceMethod yX0_init ∈ k_KT := k_t1 134 (by rfl) rfl
theorem co_X0_init : Cond.code yX0_init cX0_init 2 none ∈ k_KT := k_t1 135 (by rfl) rfl
theorem ml_X0_3 : Cond.methodLink RX0 3 objectInit ∈ k_KT := k_t1 136 (by rfl) rfl
theorem cl_X0_9 : Cond.classLink RX0 9 RX4 ∈ k_KT := k_t1 137 (by rfl) rfl
theorem fl_X0_18 : Cond.fieldLink RX0 18 "HookOrCrook$Course" "forest" "LHookOrCrook$Forest;" ∈ k_KT := k_t1 139 (by rfl) rfl
theorem fl_X0_12 : Cond.fieldLink RX0 12 "HookOrCrook$Course" "state" "LHookOrCrook$State;" ∈ k_KT := k_t1 140 (by rfl) rfl
theorem fl_X6_191 : Cond.fieldLink RX6 191 "HookOrCrook$Course" "state" "LHookOrCrook$State;" ∈ k_KT := k_t1 141 (by rfl) rfl
theorem la_0_0 : Cond.laysFinal "HookOrCrook$Course" "HookOrCrook$Course" "forest" "LHookOrCrook$Forest;" ∈ k_KT := k_t1 142 (by rfl) rfl
theorem la_0_1 : Cond.laysFinal "HookOrCrook$Course" "HookOrCrook$Course" "state" "LHookOrCrook$State;" ∈ k_KT := k_t1 144 (by rfl) rfl
theorem cl_X6_51 : Cond.classLink RX6 51 RX1 ∈ k_KT := k_t1 147 (by rfl) rfl
theorem is_X1 : Cond.instantiable RX1 7 ∈ k_KT := k_t1 148 (by rfl) rfl
theorem ml_X6_53 : Cond.methodLink RX6 53 yX1_init ∈ k_KT := k_t1 149 (by rfl) rfl
theorem im_X1_init : Cond.instanceMethod yX1_init ∈ k_KT := k_t1 150 (by rfl) rfl
theorem co_X1_init : Cond.code yX1_init cX1_init 2 none ∈ k_KT := k_t1 151 (by rfl) rfl
theorem ml_X1_3 : Cond.methodLink RX1 3 objectInit ∈ k_KT := k_t1 152 (by rfl) rfl
theorem fl_X1_27 : Cond.fieldLink RX1 27 "HookOrCrook$Dealing" "forest" "LHookOrCrook$Forest;" ∈ k_KT := k_t1 153 (by rfl) rfl
theorem fl_X1_9 : Cond.fieldLink RX1 9 "HookOrCrook$Dealing" "takers" "[I" ∈ k_KT := k_t1 154 (by rfl) rfl
theorem fl_X1_15 : Cond.fieldLink RX1 15 "HookOrCrook$Dealing" "rest" "[I" ∈ k_KT := k_t1 155 (by rfl) rfl
theorem fl_X1_18 : Cond.fieldLink RX1 18 "HookOrCrook$Dealing" "free" "[I" ∈ k_KT := k_t1 156 (by rfl) rfl
theorem fl_X1_21 : Cond.fieldLink RX1 21 "HookOrCrook$Dealing" "owners" "[I" ∈ k_KT := k_t1 157 (by rfl) rfl
theorem fl_X1_24 : Cond.fieldLink RX1 24 "HookOrCrook$Dealing" "bestOwners" "[I" ∈ k_KT := k_t1 158 (by rfl) rfl
theorem fl_X1_56 : Cond.fieldLink RX1 56 "HookOrCrook$Dealing" "most" "I" ∈ k_KT := k_t1 159 (by rfl) rfl
theorem fl_X6_204 : Cond.fieldLink RX6 204 "HookOrCrook$Dealing" "most" "I" ∈ k_KT := k_t1 160 (by rfl) rfl
theorem la_1_0 : Cond.laysFinal "HookOrCrook$Dealing" "HookOrCrook$Dealing" "forest" "LHookOrCrook$Forest;" ∈ k_KT := k_t1 161 (by rfl) rfl
theorem la_1_1 : Cond.laysFinal "HookOrCrook$Dealing" "HookOrCrook$Dealing" "takers" "[I" ∈ k_KT := k_t1 163 (by rfl) rfl
theorem la_1_2 : Cond.laysFinal "HookOrCrook$Dealing" "HookOrCrook$Dealing" "rest" "[I" ∈ k_KT := k_t1 165 (by rfl) rfl
theorem la_1_3 : Cond.laysFinal "HookOrCrook$Dealing" "HookOrCrook$Dealing" "free" "[I" ∈ k_KT := k_t1 167 (by rfl) rfl
theorem la_1_4 : Cond.laysFinal "HookOrCrook$Dealing" "HookOrCrook$Dealing" "owners" "[I" ∈ k_KT := k_t1 169 (by rfl) rfl
theorem la_1_5 : Cond.laysFinal "HookOrCrook$Dealing" "HookOrCrook$Dealing" "bestOwners" "[I" ∈ k_KT := k_t1 171 (by rfl) rfl
theorem la_1_6 : Cond.lays "HookOrCrook$Dealing" "HookOrCrook$Dealing" "most" "I" ∈ k_KT := k_t1 173 (by rfl) rfl
theorem ml_X6_60 : Cond.methodLink RX6 60 yX5_become ∈ k_KT := k_t1 177 (by rfl) rfl
theorem im_X5_become : Cond.instanceMethod yX5_become ∈ k_KT := k_t1 178 (by rfl) rfl
theorem se_X5_become : Cond.selects RX5 yX5_become yX5_become ∈ k_KT := k_t1 179 (by rfl) rfl
theorem co_X5_become : Cond.code yX5_become cX5_become 3 none ∈ k_KT := k_t1 180 (by rfl) rfl
theorem ml_X5_23 : Cond.methodLink RX5 23 yJ0_length_8abf5 ∈ k_KT := k_t1 181 (by rfl) rfl
theorem im_J0_length_8abf5 : Cond.instanceMethod yJ0_length_8abf5 ∈ k_KT := k_t1 182 (by rfl) rfl
theorem se_J0_length_8abf5 : Cond.selects RJ0 yJ0_length_8abf5 yJ0_length_8abf5 ∈ k_KT := k_t1 183 (by rfl) rfl
theorem co_J0_length_8abf5 : Cond.code yJ0_length_8abf5 cJ0_length_8abf5 1 (some .int) ∈ k_KT := k_t1 184 (by rfl) rfl
theorem ml_J0_335 : Cond.methodLink RJ0 335 yJ0_coder_7d493 ∈ k_KT := k_t1 185 (by rfl) rfl
theorem im_J0_coder_7d493 : Cond.instanceMethod yJ0_coder_7d493 ∈ k_KT := k_t1 186 (by rfl) rfl
theorem se_J0_coder_7d493 : Cond.selects RJ0 yJ0_coder_7d493 yJ0_coder_7d493 ∈ k_KT := k_t1 187 (by rfl) rfl
theorem co_J0_coder_7d493 : Cond.code yJ0_coder_7d493 cJ0_coder_7d493 1 (some .byte) ∈ k_KT := k_t1 188 (by rfl) rfl
theorem fl_J0_38 : Cond.fieldLink RJ0 38 "java/lang/String" "COMPACT_STRINGS" "Z" ∈ k_KT := k_t1 189 (by rfl) rfl
theorem ml_X5_28 : Cond.methodLink RX5 28 yJ0_charAt_5068e ∈ k_KT := k_t1 191 (by rfl) rfl
theorem im_J0_charAt_5068e : Cond.instanceMethod yJ0_charAt_5068e ∈ k_KT := k_t1 192 (by rfl) rfl
theorem se_J0_charAt_5068e : Cond.selects RJ0 yJ0_charAt_5068e yJ0_charAt_5068e ∈ k_KT := k_t1 193 (by rfl) rfl
theorem co_J0_charAt_5068e : Cond.code yJ0_charAt_5068e cJ0_charAt_5068e 2 (some .char) ∈ k_KT := k_t1 194 (by rfl) rfl
theorem ml_J0_492 : Cond.methodLink RJ0 492 yJ0_isLatin1_aae02 ∈ k_KT := k_t1 195 (by rfl) rfl
theorem im_J0_isLatin1_aae02 : Cond.instanceMethod yJ0_isLatin1_aae02 ∈ k_KT := k_t1 196 (by rfl) rfl
theorem se_J0_isLatin1_aae02 : Cond.selects RJ0 yJ0_isLatin1_aae02 yJ0_isLatin1_aae02 ∈ k_KT := k_t1 197 (by rfl) rfl
theorem co_J0_isLatin1_aae02 : Cond.code yJ0_isLatin1_aae02 cJ0_isLatin1_aae02 1 (some .boolean) ∈ k_KT := k_t1 198 (by rfl) rfl
theorem ml_J0_495 : Cond.methodLink RJ0 495 yJ1_charAt_3b067 ∈ k_KT := k_t1 199 (by rfl) rfl
theorem st_J1_charAt_3b067 : Cond.static yJ1_charAt_3b067 ∈ k_KT := k_t1 200 (by rfl) rfl
theorem co_J1_charAt_3b067 : Cond.code yJ1_charAt_3b067 cJ1_charAt_3b067 2 (some .char) ∈ k_KT := k_t1 201 (by rfl) rfl
theorem ml_J1_9 : Cond.methodLink RJ1 9 yJ0_checkIndex_df160 ∈ k_KT := k_t1 202 (by rfl) rfl
theorem st_J0_checkIndex_df160 : Cond.static yJ0_checkIndex_df160 ∈ k_KT := k_t1 203 (by rfl) rfl
theorem co_J0_checkIndex_df160 : Cond.code yJ0_checkIndex_df160 cJ0_checkIndex_df160 2 none ∈ k_KT := k_t1 204 (by rfl) rfl
theorem fl_J0_1053 : Cond.fieldLink RJ0 1053 "jdk/internal/util/Preconditions" "SIOOBE_FORMATTER" "Ljava/util/function/BiFunction;" ∈ k_KT := k_t1 205 (by rfl) rfl
theorem ml_J0_1059 : Cond.methodLink RJ0 1059 yJ3_checkIndex_8e157 ∈ k_KT := k_t1 207 (by rfl) rfl
theorem st_J3_checkIndex_8e157 : Cond.static yJ3_checkIndex_8e157 ∈ k_KT := k_t1 208 (by rfl) rfl
theorem co_J3_checkIndex_8e157 : Cond.code yJ3_checkIndex_8e157 cJ3_checkIndex_8e157 3 (some .int) ∈ k_KT := k_t1 209 (by rfl) rfl
theorem ml_J0_498 : Cond.methodLink RJ0 498 yJ2_charAt_3b067 ∈ k_KT := k_t1 210 (by rfl) rfl
theorem st_J2_charAt_3b067 : Cond.static yJ2_charAt_3b067 ∈ k_KT := k_t1 211 (by rfl) rfl
theorem co_J2_charAt_3b067 : Cond.code yJ2_charAt_3b067 cJ2_charAt_3b067 2 (some .char) ∈ k_KT := k_t1 212 (by rfl) rfl
theorem ml_J2_67 : Cond.methodLink RJ2 67 yJ2_checkIndex_2214a ∈ k_KT := k_t1 213 (by rfl) rfl
theorem st_J2_checkIndex_2214a : Cond.static yJ2_checkIndex_2214a ∈ k_KT := k_t1 214 (by rfl) rfl
theorem co_J2_checkIndex_2214a : Cond.code yJ2_checkIndex_2214a cJ2_checkIndex_2214a 2 none ∈ k_KT := k_t1 215 (by rfl) rfl
theorem ml_J2_48 : Cond.methodLink RJ2 48 yJ2_length_9d52b ∈ k_KT := k_t1 216 (by rfl) rfl
theorem st_J2_length_9d52b : Cond.static yJ2_length_9d52b ∈ k_KT := k_t1 217 (by rfl) rfl
theorem co_J2_length_9d52b : Cond.code yJ2_length_9d52b cJ2_length_9d52b 1 (some .int) ∈ k_KT := k_t1 218 (by rfl) rfl
theorem ml_J2_414 : Cond.methodLink RJ2 414 yJ0_checkIndex_df160 ∈ k_KT := k_t1 219 (by rfl) rfl
theorem ml_J2_71 : Cond.methodLink RJ2 71 yJ2_getChar_3b067 ∈ k_KT := k_t1 220 (by rfl) rfl
theorem st_J2_getChar_3b067 : Cond.static yJ2_getChar_3b067 ∈ k_KT := k_t1 221 (by rfl) rfl
theorem co_J2_getChar_3b067 : Cond.code yJ2_getChar_3b067 cJ2_getChar_3b067 2 (some .char) ∈ k_KT := k_t1 222 (by rfl) rfl
theorem fl_J2_44 : Cond.fieldLink RJ2 44 "java/lang/StringUTF16" "$assertionsDisabled" "Z" ∈ k_KT := k_t1 223 (by rfl) rfl
theorem fl_J2_59 : Cond.fieldLink RJ2 59 "java/lang/StringUTF16" "HI_BYTE_SHIFT" "I" ∈ k_KT := k_t1 225 (by rfl) rfl
theorem fl_J2_63 : Cond.fieldLink RJ2 63 "java/lang/StringUTF16" "LO_BYTE_SHIFT" "I" ∈ k_KT := k_t1 227 (by rfl) rfl
theorem ml_X5_32 : Cond.methodLink RX5 32 yX5_add ∈ k_KT := k_t1 229 (by rfl) rfl
theorem im_X5_add : Cond.instanceMethod yX5_add ∈ k_KT := k_t1 230 (by rfl) rfl
theorem se_X5_add : Cond.selects RX5 yX5_add yX5_add ∈ k_KT := k_t1 231 (by rfl) rfl
theorem co_X5_add : Cond.code yX5_add cX5_add 2 none ∈ k_KT := k_t1 232 (by rfl) rfl
theorem ml_X6_64 : Cond.methodLink RX6 64 yX2_read ∈ k_KT := k_t1 233 (by rfl) rfl
theorem im_X2_read : Cond.instanceMethod yX2_read ∈ k_KT := k_t1 234 (by rfl) rfl
theorem se_X2_read : Cond.selects RX2 yX2_read yX2_read ∈ k_KT := k_t1 235 (by rfl) rfl
theorem co_X2_read : Cond.code yX2_read cX2_read 6 none ∈ k_KT := k_t1 236 (by rfl) rfl
theorem ml_X2_43 : Cond.methodLink RX2 43 yX4_clear ∈ k_KT := k_t1 237 (by rfl) rfl
theorem im_X4_clear : Cond.instanceMethod yX4_clear ∈ k_KT := k_t1 238 (by rfl) rfl
theorem se_X4_clear : Cond.selects RX4 yX4_clear yX4_clear ∈ k_KT := k_t1 239 (by rfl) rfl
theorem co_X4_clear : Cond.code yX4_clear cX4_clear 2 none ∈ k_KT := k_t2 0 (by rfl) rfl
theorem ml_X2_53 : Cond.methodLink RX2 53 yX5_readItem ∈ k_KT := k_t2 1 (by rfl) rfl
theorem im_X5_readItem : Cond.instanceMethod yX5_readItem ∈ k_KT := k_t2 2 (by rfl) rfl
theorem se_X5_readItem : Cond.selects RX5 yX5_readItem yX5_readItem ∈ k_KT := k_t2 3 (by rfl) rfl
theorem co_X5_readItem : Cond.code yX5_readItem cX5_readItem 7 (some .int) ∈ k_KT := k_t2 4 (by rfl) rfl
theorem ml_X5_40 : Cond.methodLink RX5 40 yX5_letter ∈ k_KT := k_t2 5 (by rfl) rfl
theorem im_X5_letter : Cond.instanceMethod yX5_letter ∈ k_KT := k_t2 6 (by rfl) rfl
theorem se_X5_letter : Cond.selects RX5 yX5_letter yX5_letter ∈ k_KT := k_t2 7 (by rfl) rfl
theorem co_X5_letter : Cond.code yX5_letter cX5_letter 2 (some .char) ∈ k_KT := k_t2 8 (by rfl) rfl
theorem ml_X5_50 : Cond.methodLink RX5 50 yX5_firstLimit ∈ k_KT := k_t2 9 (by rfl) rfl
theorem st_X5_firstLimit : Cond.static yX5_firstLimit ∈ k_KT := k_t2 10 (by rfl) rfl
theorem co_X5_firstLimit : Cond.code yX5_firstLimit cX5_firstLimit 1 (some .int) ∈ k_KT := k_t2 11 (by rfl) rfl
theorem ml_X5_54 : Cond.methodLink RX5 54 yX5_howManyNumbers ∈ k_KT := k_t2 12 (by rfl) rfl
theorem st_X5_howManyNumbers : Cond.static yX5_howManyNumbers ∈ k_KT := k_t2 13 (by rfl) rfl
theorem co_X5_howManyNumbers : Cond.code yX5_howManyNumbers cX5_howManyNumbers 1 (some .int) ∈ k_KT := k_t2 14 (by rfl) rfl
theorem ml_X5_57 : Cond.methodLink RX5 57 yX5_figuresAt ∈ k_KT := k_t2 15 (by rfl) rfl
theorem im_X5_figuresAt : Cond.instanceMethod yX5_figuresAt ∈ k_KT := k_t2 17 (by rfl) rfl
theorem co_X5_figuresAt : Cond.code yX5_figuresAt cX5_figuresAt 2 (some .int) ∈ k_KT := k_t2 18 (by rfl) rfl
theorem ml_X5_74 : Cond.methodLink RX5 74 yX5_isFigure ∈ k_KT := k_t2 19 (by rfl) rfl
theorem st_X5_isFigure : Cond.static yX5_isFigure ∈ k_KT := k_t2 20 (by rfl) rfl
theorem co_X5_isFigure : Cond.code yX5_isFigure cX5_isFigure 1 (some .boolean) ∈ k_KT := k_t2 21 (by rfl) rfl
theorem ml_X5_60 : Cond.methodLink RX5 60 yX5_readNumber ∈ k_KT := k_t2 22 (by rfl) rfl
theorem im_X5_readNumber : Cond.instanceMethod yX5_readNumber ∈ k_KT := k_t2 24 (by rfl) rfl
theorem co_X5_readNumber : Cond.code yX5_readNumber cX5_readNumber 6 (some .boolean) ∈ k_KT := k_t2 25 (by rfl) rfl
theorem fl_X5_64 : Cond.fieldLink RX5 64 "HookOrCrook$Text" "LEAST" "[I" ∈ k_KT := k_t2 26 (by rfl) rfl
theorem fl_X5_67 : Cond.fieldLink RX5 67 "HookOrCrook$Text" "MOST" "[I" ∈ k_KT := k_t2 28 (by rfl) rfl
theorem st_X6_isWithin : Cond.static yX6_isWithin ∈ k_KT := k_t2 31 (by rfl) rfl
theorem co_X6_isWithin : Cond.code yX6_isWithin cX6_isWithin 3 (some .boolean) ∈ k_KT := k_t2 32 (by rfl) rfl
theorem ml_X2_57 : Cond.methodLink RX2 57 yX5_letter ∈ k_KT := k_t2 33 (by rfl) rfl
theorem ml_X2_61 : Cond.methodLink RX2 61 yX2_put ∈ k_KT := k_t2 34 (by rfl) rfl
theorem im_X2_put : Cond.instanceMethod yX2_put ∈ k_KT := k_t2 36 (by rfl) rfl
theorem co_X2_put : Cond.code yX2_put cX2_put 4 none ∈ k_KT := k_t2 37 (by rfl) rfl
theorem ml_X2_65 : Cond.methodLink RX2 65 yX2_putBough ∈ k_KT := k_t2 38 (by rfl) rfl
theorem im_X2_putBough : Cond.instanceMethod yX2_putBough ∈ k_KT := k_t2 40 (by rfl) rfl
theorem co_X2_putBough : Cond.code yX2_putBough cX2_putBough 3 none ∈ k_KT := k_t2 41 (by rfl) rfl
theorem ml_X2_72 : Cond.methodLink RX2 72 yX5_number ∈ k_KT := k_t2 42 (by rfl) rfl
theorem im_X5_number : Cond.instanceMethod yX5_number ∈ k_KT := k_t2 43 (by rfl) rfl
theorem se_X5_number : Cond.selects RX5 yX5_number yX5_number ∈ k_KT := k_t2 44 (by rfl) rfl
theorem co_X5_number : Cond.code yX5_number cX5_number 2 (some .int) ∈ k_KT := k_t2 45 (by rfl) rfl
theorem ml_X2_75 : Cond.methodLink RX2 75 yX4_setDeadFrom ∈ k_KT := k_t2 46 (by rfl) rfl
theorem im_X4_setDeadFrom : Cond.instanceMethod yX4_setDeadFrom ∈ k_KT := k_t2 47 (by rfl) rfl
theorem se_X4_setDeadFrom : Cond.selects RX4 yX4_setDeadFrom yX4_setDeadFrom ∈ k_KT := k_t2 48 (by rfl) rfl
theorem co_X4_setDeadFrom : Cond.code yX4_setDeadFrom cX4_setDeadFrom 3 none ∈ k_KT := k_t2 49 (by rfl) rfl
theorem ml_X2_69 : Cond.methodLink RX2 69 yX2_putTenant ∈ k_KT := k_t2 50 (by rfl) rfl
theorem im_X2_putTenant : Cond.instanceMethod yX2_putTenant ∈ k_KT := k_t2 52 (by rfl) rfl
theorem co_X2_putTenant : Cond.code yX2_putTenant cX2_putTenant 3 none ∈ k_KT := k_t2 53 (by rfl) rfl
theorem ml_X2_79 : Cond.methodLink RX2 79 yX4_setReach ∈ k_KT := k_t2 54 (by rfl) rfl
theorem im_X4_setReach : Cond.instanceMethod yX4_setReach ∈ k_KT := k_t2 55 (by rfl) rfl
theorem se_X4_setReach : Cond.selects RX4 yX4_setReach yX4_setReach ∈ k_KT := k_t2 56 (by rfl) rfl
theorem co_X4_setReach : Cond.code yX4_setReach cX4_setReach 3 none ∈ k_KT := k_t2 57 (by rfl) rfl
theorem fl_X6_10 : Cond.fieldLink RX6 10 "HookOrCrook" "text" "LHookOrCrook$Text;" ∈ k_KT := k_t2 58 (by rfl) rfl
theorem fl_X6_19 : Cond.fieldLink RX6 19 "HookOrCrook" "forest" "LHookOrCrook$Forest;" ∈ k_KT := k_t2 59 (by rfl) rfl
theorem fl_X6_26 : Cond.fieldLink RX6 26 "HookOrCrook" "now" "LHookOrCrook$State;" ∈ k_KT := k_t2 60 (by rfl) rfl
theorem fl_X6_35 : Cond.fieldLink RX6 35 "HookOrCrook" "past" "LHookOrCrook$Pile;" ∈ k_KT := k_t2 61 (by rfl) rfl
theorem fl_X6_39 : Cond.fieldLink RX6 39 "HookOrCrook" "kept" "LHookOrCrook$Pile;" ∈ k_KT := k_t2 62 (by rfl) rfl
theorem fl_X6_47 : Cond.fieldLink RX6 47 "HookOrCrook" "course" "LHookOrCrook$Course;" ∈ k_KT := k_t2 63 (by rfl) rfl
theorem fl_X6_54 : Cond.fieldLink RX6 54 "HookOrCrook" "dealing" "LHookOrCrook$Dealing;" ∈ k_KT := k_t2 64 (by rfl) rfl
theorem la_6_0 : Cond.laysFinal "HookOrCrook" "HookOrCrook" "text" "LHookOrCrook$Text;" ∈ k_KT := k_t2 65 (by rfl) rfl
theorem la_6_1 : Cond.laysFinal "HookOrCrook" "HookOrCrook" "forest" "LHookOrCrook$Forest;" ∈ k_KT := k_t2 67 (by rfl) rfl
theorem la_6_2 : Cond.laysFinal "HookOrCrook" "HookOrCrook" "now" "LHookOrCrook$State;" ∈ k_KT := k_t2 69 (by rfl) rfl
theorem la_6_3 : Cond.laysFinal "HookOrCrook" "HookOrCrook" "past" "LHookOrCrook$Pile;" ∈ k_KT := k_t2 71 (by rfl) rfl
theorem la_6_4 : Cond.laysFinal "HookOrCrook" "HookOrCrook" "kept" "LHookOrCrook$Pile;" ∈ k_KT := k_t2 73 (by rfl) rfl
theorem la_6_5 : Cond.laysFinal "HookOrCrook" "HookOrCrook" "course" "LHookOrCrook$Course;" ∈ k_KT := k_t2 75 (by rfl) rfl
theorem la_6_6 : Cond.laysFinal "HookOrCrook" "HookOrCrook" "dealing" "LHookOrCrook$Dealing;" ∈ k_KT := k_t2 77 (by rfl) rfl
theorem ac_byte : Cond.arrayClass .byte ∈ k_KT := k_t2 80 (by rfl) rfl
theorem ml_L_13 : Cond.methodLink RL 13 yX6_write ∈ k_KT := k_t2 81 (by rfl) rfl
theorem im_X6_write : Cond.instanceMethod yX6_write ∈ k_KT := k_t2 82 (by rfl) rfl
theorem se_X6_write : Cond.selects RX6 yX6_write yX6_write ∈ k_KT := k_t2 83 (by rfl) rfl
theorem co_X6_write : Cond.code yX6_write cX6_write 2 (some .int) ∈ k_KT := k_t2 84 (by rfl) rfl
theorem ml_X6_72 : Cond.methodLink RX6 72 yX6_isWithin ∈ k_KT := k_t2 85 (by rfl) rfl
theorem ml_X6_76 : Cond.methodLink RX6 76 yX5_isFull ∈ k_KT := k_t2 86 (by rfl) rfl
theorem im_X5_isFull : Cond.instanceMethod yX5_isFull ∈ k_KT := k_t2 87 (by rfl) rfl
theorem se_X5_isFull : Cond.selects RX5 yX5_isFull yX5_isFull ∈ k_KT := k_t2 88 (by rfl) rfl
theorem co_X5_isFull : Cond.code yX5_isFull cX5_isFull 1 (some .boolean) ∈ k_KT := k_t2 89 (by rfl) rfl
theorem ml_X6_80 : Cond.methodLink RX6 80 yX5_add ∈ k_KT := k_t2 90 (by rfl) rfl
theorem ml_L_18 : Cond.methodLink RL 18 yX6_wipe ∈ k_KT := k_t2 91 (by rfl) rfl
theorem im_X6_wipe : Cond.instanceMethod yX6_wipe ∈ k_KT := k_t2 92 (by rfl) rfl
theorem se_X6_wipe : Cond.selects RX6 yX6_wipe yX6_wipe ∈ k_KT := k_t2 93 (by rfl) rfl
theorem co_X6_wipe : Cond.code yX6_wipe cX6_wipe 2 (some .int) ∈ k_KT := k_t2 94 (by rfl) rfl
theorem ml_L_23 : Cond.methodLink RL 23 yX6_fault ∈ k_KT := k_t2 95 (by rfl) rfl
theorem im_X6_fault : Cond.instanceMethod yX6_fault ∈ k_KT := k_t2 96 (by rfl) rfl
theorem se_X6_fault : Cond.selects RX6 yX6_fault yX6_fault ∈ k_KT := k_t2 97 (by rfl) rfl
theorem co_X6_fault : Cond.code yX6_fault cX6_fault 1 (some .int) ∈ k_KT := k_t2 98 (by rfl) rfl
theorem ml_X6_84 : Cond.methodLink RX6 84 yX5_firstFault ∈ k_KT := k_t2 99 (by rfl) rfl
theorem im_X5_firstFault : Cond.instanceMethod yX5_firstFault ∈ k_KT := k_t2 100 (by rfl) rfl
theorem se_X5_firstFault : Cond.selects RX5 yX5_firstFault yX5_firstFault ∈ k_KT := k_t2 101 (by rfl) rfl
theorem co_X5_firstFault : Cond.code yX5_firstFault cX5_firstFault 6 (some .int) ∈ k_KT := k_t2 102 (by rfl) rfl
theorem ml_X5_36 : Cond.methodLink RX5 36 yX5_readItem ∈ k_KT := k_t2 103 (by rfl) rfl
theorem ml_L_27 : Cond.methodLink RL 27 yX6_lay ∈ k_KT := k_t2 104 (by rfl) rfl
theorem im_X6_lay : Cond.instanceMethod yX6_lay ∈ k_KT := k_t2 105 (by rfl) rfl
theorem se_X6_lay : Cond.selects RX6 yX6_lay yX6_lay ∈ k_KT := k_t2 106 (by rfl) rfl
theorem co_X6_lay : Cond.code yX6_lay cX6_lay 1 (some .int) ∈ k_KT := k_t2 107 (by rfl) rfl
theorem ml_X6_88 : Cond.methodLink RX6 88 yX5_canBeLaid ∈ k_KT := k_t2 108 (by rfl) rfl
theorem im_X5_canBeLaid : Cond.instanceMethod yX5_canBeLaid ∈ k_KT := k_t2 109 (by rfl) rfl
theorem se_X5_canBeLaid : Cond.selects RX5 yX5_canBeLaid yX5_canBeLaid ∈ k_KT := k_t2 110 (by rfl) rfl
theorem co_X5_canBeLaid : Cond.code yX5_canBeLaid cX5_canBeLaid 1 (some .boolean) ∈ k_KT := k_t2 111 (by rfl) rfl
theorem ml_X5_43 : Cond.methodLink RX5 43 yX5_firstFault ∈ k_KT := k_t2 112 (by rfl) rfl
theorem ml_X5_46 : Cond.methodLink RX5 46 yX5_has ∈ k_KT := k_t2 113 (by rfl) rfl
theorem im_X5_has : Cond.instanceMethod yX5_has ∈ k_KT := k_t2 115 (by rfl) rfl
theorem co_X5_has : Cond.code yX5_has cX5_has 3 (some .boolean) ∈ k_KT := k_t2 116 (by rfl) rfl
theorem ml_X6_91 : Cond.methodLink RX6 91 yX3_clear ∈ k_KT := k_t2 117 (by rfl) rfl
theorem im_X3_clear : Cond.instanceMethod yX3_clear ∈ k_KT := k_t2 118 (by rfl) rfl
theorem se_X3_clear : Cond.selects RX3 yX3_clear yX3_clear ∈ k_KT := k_t2 119 (by rfl) rfl
theorem co_X3_clear : Cond.code yX3_clear cX3_clear 1 none ∈ k_KT := k_t2 120 (by rfl) rfl
theorem ml_L_31 : Cond.methodLink RL 31 yX6_bough ∈ k_KT := k_t2 121 (by rfl) rfl
theorem im_X6_bough : Cond.instanceMethod yX6_bough ∈ k_KT := k_t2 122 (by rfl) rfl
theorem se_X6_bough : Cond.selects RX6 yX6_bough yX6_bough ∈ k_KT := k_t2 123 (by rfl) rfl
theorem co_X6_bough : Cond.code yX6_bough cX6_bough 3 (some .int) ∈ k_KT := k_t2 124 (by rfl) rfl
theorem ml_X6_97 : Cond.methodLink RX6 97 yX2_hasBough ∈ k_KT := k_t2 125 (by rfl) rfl
theorem im_X2_hasBough : Cond.instanceMethod yX2_hasBough ∈ k_KT := k_t2 126 (by rfl) rfl
theorem se_X2_hasBough : Cond.selects RX2 yX2_hasBough yX2_hasBough ∈ k_KT := k_t2 127 (by rfl) rfl
theorem co_X2_hasBough : Cond.code yX2_hasBough cX2_hasBough 2 (some .boolean) ∈ k_KT := k_t2 128 (by rfl) rfl
theorem ml_X6_101 : Cond.methodLink RX6 101 yX2_kind ∈ k_KT := k_t2 129 (by rfl) rfl
theorem im_X2_kind : Cond.instanceMethod yX2_kind ∈ k_KT := k_t2 130 (by rfl) rfl
theorem se_X2_kind : Cond.selects RX2 yX2_kind yX2_kind ∈ k_KT := k_t2 131 (by rfl) rfl
theorem co_X2_kind : Cond.code yX2_kind cX2_kind 2 (some .int) ∈ k_KT := k_t2 132 (by rfl) rfl
theorem ml_X6_105 : Cond.methodLink RX6 105 yX2_height ∈ k_KT := k_t2 133 (by rfl) rfl
theorem im_X2_height : Cond.instanceMethod yX2_height ∈ k_KT := k_t2 134 (by rfl) rfl
theorem se_X2_height : Cond.selects RX2 yX2_height yX2_height ∈ k_KT := k_t2 135 (by rfl) rfl
theorem co_X2_height : Cond.code yX2_height cX2_height 2 (some .int) ∈ k_KT := k_t2 136 (by rfl) rfl
theorem ml_X6_108 : Cond.methodLink RX6 108 yX2_weight ∈ k_KT := k_t2 137 (by rfl) rfl
theorem im_X2_weight : Cond.instanceMethod yX2_weight ∈ k_KT := k_t2 138 (by rfl) rfl
theorem se_X2_weight : Cond.selects RX2 yX2_weight yX2_weight ∈ k_KT := k_t2 139 (by rfl) rfl
theorem co_X2_weight : Cond.code yX2_weight cX2_weight 2 (some .int) ∈ k_KT := k_t2 140 (by rfl) rfl
theorem ml_X6_111 : Cond.methodLink RX6 111 yX4_deadFrom ∈ k_KT := k_t2 141 (by rfl) rfl
theorem im_X4_deadFrom : Cond.instanceMethod yX4_deadFrom ∈ k_KT := k_t2 142 (by rfl) rfl
theorem se_X4_deadFrom : Cond.selects RX4 yX4_deadFrom yX4_deadFrom ∈ k_KT := k_t2 143 (by rfl) rfl
theorem co_X4_deadFrom : Cond.code yX4_deadFrom cX4_deadFrom 2 (some .int) ∈ k_KT := k_t2 144 (by rfl) rfl
theorem ml_X6_117 : Cond.methodLink RX6 117 yX2_isDead ∈ k_KT := k_t2 145 (by rfl) rfl
theorem im_X2_isDead : Cond.instanceMethod yX2_isDead ∈ k_KT := k_t2 146 (by rfl) rfl
theorem se_X2_isDead : Cond.selects RX2 yX2_isDead yX2_isDead ∈ k_KT := k_t2 147 (by rfl) rfl
theorem co_X2_isDead : Cond.code yX2_isDead cX2_isDead 4 (some .boolean) ∈ k_KT := k_t2 148 (by rfl) rfl
theorem ml_X2_85 : Cond.methodLink RX2 85 yX4_deadFrom ∈ k_KT := k_t2 149 (by rfl) rfl
theorem ml_X6_121 : Cond.methodLink RX6 121 yX6_bit ∈ k_KT := k_t2 150 (by rfl) rfl
theorem st_X6_bit : Cond.static yX6_bit ∈ k_KT := k_t2 151 (by rfl) rfl
theorem co_X6_bit : Cond.code yX6_bit cX6_bit 1 (some .int) ∈ k_KT := k_t2 152 (by rfl) rfl
theorem ml_X6_125 : Cond.methodLink RX6 125 yX2_hasFallen ∈ k_KT := k_t2 153 (by rfl) rfl
theorem im_X2_hasFallen : Cond.instanceMethod yX2_hasFallen ∈ k_KT := k_t2 154 (by rfl) rfl
theorem se_X2_hasFallen : Cond.selects RX2 yX2_hasFallen yX2_hasFallen ∈ k_KT := k_t2 155 (by rfl) rfl
theorem co_X2_hasFallen : Cond.code yX2_hasFallen cX2_hasFallen 4 (some .boolean) ∈ k_KT := k_t2 156 (by rfl) rfl
theorem ml_X6_128 : Cond.methodLink RX6 128 yX4_isGone ∈ k_KT := k_t2 157 (by rfl) rfl
theorem im_X4_isGone : Cond.instanceMethod yX4_isGone ∈ k_KT := k_t2 158 (by rfl) rfl
theorem se_X4_isGone : Cond.selects RX4 yX4_isGone yX4_isGone ∈ k_KT := k_t2 159 (by rfl) rfl
theorem co_X4_isGone : Cond.code yX4_isGone cX4_isGone 2 (some .boolean) ∈ k_KT := k_t2 160 (by rfl) rfl
theorem ml_L_36 : Cond.methodLink RL 36 yX6_tenant ∈ k_KT := k_t2 161 (by rfl) rfl
theorem im_X6_tenant : Cond.instanceMethod yX6_tenant ∈ k_KT := k_t2 162 (by rfl) rfl
theorem se_X6_tenant : Cond.selects RX6 yX6_tenant yX6_tenant ∈ k_KT := k_t2 163 (by rfl) rfl
theorem co_X6_tenant : Cond.code yX6_tenant cX6_tenant 3 (some .int) ∈ k_KT := k_t2 164 (by rfl) rfl
theorem ml_X6_131 : Cond.methodLink RX6 131 yX2_hasTenant ∈ k_KT := k_t2 165 (by rfl) rfl
theorem im_X2_hasTenant : Cond.instanceMethod yX2_hasTenant ∈ k_KT := k_t2 166 (by rfl) rfl
theorem se_X2_hasTenant : Cond.selects RX2 yX2_hasTenant yX2_hasTenant ∈ k_KT := k_t2 167 (by rfl) rfl
theorem co_X2_hasTenant : Cond.code yX2_hasTenant cX2_hasTenant 2 (some .boolean) ∈ k_KT := k_t2 168 (by rfl) rfl
theorem ml_X6_134 : Cond.methodLink RX6 134 yX4_reach ∈ k_KT := k_t2 169 (by rfl) rfl
theorem im_X4_reach : Cond.instanceMethod yX4_reach ∈ k_KT := k_t2 170 (by rfl) rfl
theorem se_X4_reach : Cond.selects RX4 yX4_reach yX4_reach ∈ k_KT := k_t2 171 (by rfl) rfl
theorem co_X4_reach : Cond.code yX4_reach cX4_reach 2 (some .int) ∈ k_KT := k_t2 172 (by rfl) rfl
theorem ml_X6_137 : Cond.methodLink RX6 137 yX2_strength ∈ k_KT := k_t2 173 (by rfl) rfl
theorem im_X2_strength : Cond.instanceMethod yX2_strength ∈ k_KT := k_t2 174 (by rfl) rfl
theorem se_X2_strength : Cond.selects RX2 yX2_strength yX2_strength ∈ k_KT := k_t2 175 (by rfl) rfl
theorem co_X2_strength : Cond.code yX2_strength cX2_strength 2 (some .int) ∈ k_KT := k_t2 176 (by rfl) rfl
theorem ml_X6_140 : Cond.methodLink RX6 140 yX2_hearth ∈ k_KT := k_t2 177 (by rfl) rfl
theorem im_X2_hearth : Cond.instanceMethod yX2_hearth ∈ k_KT := k_t2 178 (by rfl) rfl
theorem se_X2_hearth : Cond.selects RX2 yX2_hearth yX2_hearth ∈ k_KT := k_t2 179 (by rfl) rfl
theorem co_X2_hearth : Cond.code yX2_hearth cX2_hearth 2 (some .int) ∈ k_KT := k_t2 180 (by rfl) rfl
theorem ml_X6_143 : Cond.methodLink RX6 143 yX4_stack ∈ k_KT := k_t2 181 (by rfl) rfl
theorem im_X4_stack : Cond.instanceMethod yX4_stack ∈ k_KT := k_t2 182 (by rfl) rfl
theorem se_X4_stack : Cond.selects RX4 yX4_stack yX4_stack ∈ k_KT := k_t2 183 (by rfl) rfl
theorem co_X4_stack : Cond.code yX4_stack cX4_stack 2 (some .int) ∈ k_KT := k_t2 184 (by rfl) rfl
theorem ml_X6_146 : Cond.methodLink RX6 146 yX4_carried ∈ k_KT := k_t2 185 (by rfl) rfl
theorem im_X4_carried : Cond.instanceMethod yX4_carried ∈ k_KT := k_t2 186 (by rfl) rfl
theorem se_X4_carried : Cond.selects RX4 yX4_carried yX4_carried ∈ k_KT := k_t2 187 (by rfl) rfl
theorem co_X4_carried : Cond.code yX4_carried cX4_carried 2 (some .int) ∈ k_KT := k_t2 188 (by rfl) rfl
theorem ml_X6_149 : Cond.methodLink RX6 149 yX2_isWarm ∈ k_KT := k_t2 189 (by rfl) rfl
theorem im_X2_isWarm : Cond.instanceMethod yX2_isWarm ∈ k_KT := k_t2 190 (by rfl) rfl
theorem se_X2_isWarm : Cond.selects RX2 yX2_isWarm yX2_isWarm ∈ k_KT := k_t2 191 (by rfl) rfl
theorem co_X2_isWarm : Cond.code yX2_isWarm cX2_isWarm 3 (some .boolean) ∈ k_KT := k_t2 192 (by rfl) rfl
theorem ml_X2_124 : Cond.methodLink RX2 124 yX4_stack ∈ k_KT := k_t2 193 (by rfl) rfl
theorem ml_X2_127 : Cond.methodLink RX2 127 yX2_hearth ∈ k_KT := k_t2 194 (by rfl) rfl
theorem ml_L_40 : Cond.methodLink RL 40 yX6_can ∈ k_KT := k_t2 195 (by rfl) rfl
theorem im_X6_can : Cond.instanceMethod yX6_can ∈ k_KT := k_t2 196 (by rfl) rfl
theorem se_X6_can : Cond.selects RX6 yX6_can yX6_can ∈ k_KT := k_t2 197 (by rfl) rfl
theorem co_X6_can : Cond.code yX6_can cX6_can 3 (some .int) ∈ k_KT := k_t2 198 (by rfl) rfl
theorem ml_X6_153 : Cond.methodLink RX6 153 yX2_canTake ∈ k_KT := k_t2 199 (by rfl) rfl
theorem im_X2_canTake : Cond.instanceMethod yX2_canTake ∈ k_KT := k_t2 200 (by rfl) rfl
theorem se_X2_canTake : Cond.selects RX2 yX2_canTake yX2_canTake ∈ k_KT := k_t2 201 (by rfl) rfl
theorem co_X2_canTake : Cond.code yX2_canTake cX2_canTake 4 (some .boolean) ∈ k_KT := k_t2 202 (by rfl) rfl
theorem ml_X2_110 : Cond.methodLink RX2 110 yX4_isGone ∈ k_KT := k_t2 203 (by rfl) rfl
theorem ml_X2_117 : Cond.methodLink RX2 117 yX4_carried ∈ k_KT := k_t2 204 (by rfl) rfl
theorem ml_X2_120 : Cond.methodLink RX2 120 yX2_couldTake ∈ k_KT := k_t2 205 (by rfl) rfl
theorem im_X2_couldTake : Cond.instanceMethod yX2_couldTake ∈ k_KT := k_t2 206 (by rfl) rfl
theorem se_X2_couldTake : Cond.selects RX2 yX2_couldTake yX2_couldTake ∈ k_KT := k_t2 207 (by rfl) rfl
theorem co_X2_couldTake : Cond.code yX2_couldTake cX2_couldTake 6 (some .boolean) ∈ k_KT := k_t2 208 (by rfl) rfl
theorem ml_X2_97 : Cond.methodLink RX2 97 yX2_isDead ∈ k_KT := k_t2 209 (by rfl) rfl
theorem ml_X2_82 : Cond.methodLink RX2 82 yX2_weight ∈ k_KT := k_t2 210 (by rfl) rfl
theorem ml_X2_101 : Cond.methodLink RX2 101 yX2_strength ∈ k_KT := k_t2 211 (by rfl) rfl
theorem ml_X2_104 : Cond.methodLink RX2 104 yX2_hasFallen ∈ k_KT := k_t2 212 (by rfl) rfl
theorem ml_X2_107 : Cond.methodLink RX2 107 yX2_isInReach ∈ k_KT := k_t2 213 (by rfl) rfl
theorem im_X2_isInReach : Cond.instanceMethod yX2_isInReach ∈ k_KT := k_t2 215 (by rfl) rfl
theorem co_X2_isInReach : Cond.code yX2_isInReach cX2_isInReach 4 (some .boolean) ∈ k_KT := k_t2 216 (by rfl) rfl
theorem ml_X2_88 : Cond.methodLink RX2 88 yX2_kind ∈ k_KT := k_t2 217 (by rfl) rfl
theorem ml_X2_91 : Cond.methodLink RX2 91 yX2_height ∈ k_KT := k_t2 218 (by rfl) rfl
theorem ml_X2_94 : Cond.methodLink RX2 94 yX4_reach ∈ k_KT := k_t2 219 (by rfl) rfl
theorem ml_L_44 : Cond.methodLink RL 44 yX6_take ∈ k_KT := k_t2 220 (by rfl) rfl
theorem im_X6_take : Cond.instanceMethod yX6_take ∈ k_KT := k_t2 221 (by rfl) rfl
theorem se_X6_take : Cond.selects RX6 yX6_take yX6_take ∈ k_KT := k_t2 222 (by rfl) rfl
theorem co_X6_take : Cond.code yX6_take cX6_take 4 (some .int) ∈ k_KT := k_t2 223 (by rfl) rfl
theorem ml_X6_156 : Cond.methodLink RX6 156 yX2_isCaught ∈ k_KT := k_t2 224 (by rfl) rfl
theorem im_X2_isCaught : Cond.instanceMethod yX2_isCaught ∈ k_KT := k_t2 225 (by rfl) rfl
theorem se_X2_isCaught : Cond.selects RX2 yX2_isCaught yX2_isCaught ∈ k_KT := k_t2 226 (by rfl) rfl
theorem co_X2_isCaught : Cond.code yX2_isCaught cX2_isCaught 4 (some .boolean) ∈ k_KT := k_t2 227 (by rfl) rfl
theorem ml_X6_159 : Cond.methodLink RX6 159 yX3_add ∈ k_KT := k_t2 228 (by rfl) rfl
theorem im_X3_add : Cond.instanceMethod yX3_add ∈ k_KT := k_t2 229 (by rfl) rfl
theorem se_X3_add : Cond.selects RX3 yX3_add yX3_add ∈ k_KT := k_t2 230 (by rfl) rfl
theorem co_X3_add : Cond.code yX3_add cX3_add 2 none ∈ k_KT := k_t2 231 (by rfl) rfl
theorem ml_X3_26 : Cond.methodLink RX3 26 yX3_isFull ∈ k_KT := k_t2 232 (by rfl) rfl
theorem im_X3_isFull : Cond.instanceMethod yX3_isFull ∈ k_KT := k_t2 233 (by rfl) rfl
theorem se_X3_isFull : Cond.selects RX3 yX3_isFull yX3_isFull ∈ k_KT := k_t2 234 (by rfl) rfl
theorem co_X3_isFull : Cond.code yX3_isFull cX3_isFull 1 (some .boolean) ∈ k_KT := k_t2 235 (by rfl) rfl
theorem ml_X3_30 : Cond.methodLink RX3 30 yX3_dropOldest ∈ k_KT := k_t2 236 (by rfl) rfl
theorem im_X3_dropOldest : Cond.instanceMethod yX3_dropOldest ∈ k_KT := k_t2 238 (by rfl) rfl
theorem co_X3_dropOldest : Cond.code yX3_dropOldest cX3_dropOldest 3 none ∈ k_KT := k_t2 239 (by rfl) rfl
theorem ml_X3_33 : Cond.methodLink RX3 33 yX4_become ∈ k_KT := k_t3 0 (by rfl) rfl
theorem im_X4_become : Cond.instanceMethod yX4_become ∈ k_KT := k_t3 1 (by rfl) rfl
theorem se_X4_become : Cond.selects RX4 yX4_become yX4_become ∈ k_KT := k_t3 2 (by rfl) rfl
theorem co_X4_become : Cond.code yX4_become cX4_become 2 none ∈ k_KT := k_t3 3 (by rfl) rfl
theorem ml_X4_22 : Cond.methodLink RX4 22 arraycopyName ∈ k_KT := k_t3 4 (by rfl) rfl
theorem st_acopy : Cond.static arraycopyName ∈ k_KT := k_t3 5 (by rfl) rfl
theorem na_acopy : Cond.native arraycopyName ∈ k_KT := k_t3 6 (by rfl) rfl
theorem ml_X6_162 : Cond.methodLink RX6 162 yX4_pick ∈ k_KT := k_t3 7 (by rfl) rfl
theorem im_X4_pick : Cond.instanceMethod yX4_pick ∈ k_KT := k_t3 8 (by rfl) rfl
theorem se_X4_pick : Cond.selects RX4 yX4_pick yX4_pick ∈ k_KT := k_t3 9 (by rfl) rfl
theorem co_X4_pick : Cond.code yX4_pick cX4_pick 4 none ∈ k_KT := k_t3 10 (by rfl) rfl
theorem ml_X6_166 : Cond.methodLink RX6 166 yX4_loseStack ∈ k_KT := k_t3 11 (by rfl) rfl
theorem im_X4_loseStack : Cond.instanceMethod yX4_loseStack ∈ k_KT := k_t3 12 (by rfl) rfl
theorem se_X4_loseStack : Cond.selects RX4 yX4_loseStack yX4_loseStack ∈ k_KT := k_t3 13 (by rfl) rfl
theorem co_X4_loseStack : Cond.code yX4_loseStack cX4_loseStack 2 none ∈ k_KT := k_t3 14 (by rfl) rfl
theorem ml_L_48 : Cond.methodLink RL 48 yX6_pass ∈ k_KT := k_t3 15 (by rfl) rfl
theorem im_X6_pass : Cond.instanceMethod yX6_pass ∈ k_KT := k_t3 16 (by rfl) rfl
theorem se_X6_pass : Cond.selects RX6 yX6_pass yX6_pass ∈ k_KT := k_t3 17 (by rfl) rfl
theorem co_X6_pass : Cond.code yX6_pass cX6_pass 2 (some .int) ∈ k_KT := k_t3 18 (by rfl) rfl
theorem ml_X6_169 : Cond.methodLink RX6 169 yX4_goBy ∈ k_KT := k_t3 19 (by rfl) rfl
theorem im_X4_goBy : Cond.instanceMethod yX4_goBy ∈ k_KT := k_t3 20 (by rfl) rfl
theorem se_X4_goBy : Cond.selects RX4 yX4_goBy yX4_goBy ∈ k_KT := k_t3 21 (by rfl) rfl
theorem co_X4_goBy : Cond.code yX4_goBy cX4_goBy 3 none ∈ k_KT := k_t3 22 (by rfl) rfl
theorem ml_L_52 : Cond.methodLink RL 52 yX6_hook ∈ k_KT := k_t3 23 (by rfl) rfl
theorem im_X6_hook : Cond.instanceMethod yX6_hook ∈ k_KT := k_t3 24 (by rfl) rfl
theorem se_X6_hook : Cond.selects RX6 yX6_hook yX6_hook ∈ k_KT := k_t3 25 (by rfl) rfl
theorem co_X6_hook : Cond.code yX6_hook cX6_hook 4 (some .int) ∈ k_KT := k_t3 26 (by rfl) rfl
theorem ml_X6_172 : Cond.methodLink RX6 172 yX4_setReach ∈ k_KT := k_t3 27 (by rfl) rfl
theorem ml_L_56 : Cond.methodLink RL 56 yX6_ring ∈ k_KT := k_t3 28 (by rfl) rfl
theorem im_X6_ring : Cond.instanceMethod yX6_ring ∈ k_KT := k_t3 29 (by rfl) rfl
theorem se_X6_ring : Cond.selects RX6 yX6_ring yX6_ring ∈ k_KT := k_t3 30 (by rfl) rfl
theorem co_X6_ring : Cond.code yX6_ring cX6_ring 3 (some .int) ∈ k_KT := k_t3 31 (by rfl) rfl
theorem ml_X6_176 : Cond.methodLink RX6 176 yX4_setDeadFrom ∈ k_KT := k_t3 32 (by rfl) rfl
theorem ml_L_60 : Cond.methodLink RL 60 yX6_undo ∈ k_KT := k_t3 33 (by rfl) rfl
theorem im_X6_undo : Cond.instanceMethod yX6_undo ∈ k_KT := k_t3 34 (by rfl) rfl
theorem se_X6_undo : Cond.selects RX6 yX6_undo yX6_undo ∈ k_KT := k_t3 35 (by rfl) rfl
theorem co_X6_undo : Cond.code yX6_undo cX6_undo 1 (some .int) ∈ k_KT := k_t3 36 (by rfl) rfl
theorem ml_X6_182 : Cond.methodLink RX6 182 yX3_moveLastTo ∈ k_KT := k_t3 37 (by rfl) rfl
theorem im_X3_moveLastTo : Cond.instanceMethod yX3_moveLastTo ∈ k_KT := k_t3 38 (by rfl) rfl
theorem se_X3_moveLastTo : Cond.selects RX3 yX3_moveLastTo yX3_moveLastTo ∈ k_KT := k_t3 39 (by rfl) rfl
theorem co_X3_moveLastTo : Cond.code yX3_moveLastTo cX3_moveLastTo 2 none ∈ k_KT := k_t3 40 (by rfl) rfl
theorem ml_L_64 : Cond.methodLink RL 64 yX6_warmBy ∈ k_KT := k_t3 41 (by rfl) rfl
theorem im_X6_warmBy : Cond.instanceMethod yX6_warmBy ∈ k_KT := k_t3 42 (by rfl) rfl
theorem se_X6_warmBy : Cond.selects RX6 yX6_warmBy yX6_warmBy ∈ k_KT := k_t3 43 (by rfl) rfl
theorem co_X6_warmBy : Cond.code yX6_warmBy cX6_warmBy 2 (some .int) ∈ k_KT := k_t3 44 (by rfl) rfl
theorem ml_X6_185 : Cond.methodLink RX6 185 yX0_begin ∈ k_KT := k_t3 45 (by rfl) rfl
theorem im_X0_begin : Cond.instanceMethod yX0_begin ∈ k_KT := k_t3 46 (by rfl) rfl
theorem se_X0_begin : Cond.selects RX0 yX0_begin yX0_begin ∈ k_KT := k_t3 47 (by rfl) rfl
theorem co_X0_begin : Cond.code yX0_begin cX0_begin 2 none ∈ k_KT := k_t3 48 (by rfl) rfl
theorem ml_X0_22 : Cond.methodLink RX0 22 yX4_become ∈ k_KT := k_t3 49 (by rfl) rfl
theorem ml_X6_188 : Cond.methodLink RX6 188 yX0_goTo ∈ k_KT := k_t3 50 (by rfl) rfl
theorem im_X0_goTo : Cond.instanceMethod yX0_goTo ∈ k_KT := k_t3 51 (by rfl) rfl
theorem se_X0_goTo : Cond.selects RX0 yX0_goTo yX0_goTo ∈ k_KT := k_t3 52 (by rfl) rfl
theorem co_X0_goTo : Cond.code yX0_goTo cX0_goTo 3 none ∈ k_KT := k_t3 53 (by rfl) rfl
theorem ml_X0_46 : Cond.methodLink RX0 46 yX0_isOver ∈ k_KT := k_t3 54 (by rfl) rfl
theorem im_X0_isOver : Cond.instanceMethod yX0_isOver ∈ k_KT := k_t3 56 (by rfl) rfl
theorem co_X0_isOver : Cond.code yX0_isOver cX0_isOver 1 (some .boolean) ∈ k_KT := k_t3 57 (by rfl) rfl
theorem ml_X0_66 : Cond.methodLink RX0 66 yX2_areAllWarm ∈ k_KT := k_t3 58 (by rfl) rfl
theorem im_X2_areAllWarm : Cond.instanceMethod yX2_areAllWarm ∈ k_KT := k_t3 59 (by rfl) rfl
theorem se_X2_areAllWarm : Cond.selects RX2 yX2_areAllWarm yX2_areAllWarm ∈ k_KT := k_t3 60 (by rfl) rfl
theorem co_X2_areAllWarm : Cond.code yX2_areAllWarm cX2_areAllWarm 2 (some .boolean) ∈ k_KT := k_t3 61 (by rfl) rfl
theorem ml_X2_134 : Cond.methodLink RX2 134 yX2_warmOnes ∈ k_KT := k_t3 62 (by rfl) rfl
theorem im_X2_warmOnes : Cond.instanceMethod yX2_warmOnes ∈ k_KT := k_t3 63 (by rfl) rfl
theorem se_X2_warmOnes : Cond.selects RX2 yX2_warmOnes yX2_warmOnes ∈ k_KT := k_t3 64 (by rfl) rfl
theorem co_X2_warmOnes : Cond.code yX2_warmOnes cX2_warmOnes 4 (some .int) ∈ k_KT := k_t3 65 (by rfl) rfl
theorem ml_X2_130 : Cond.methodLink RX2 130 yX2_isWarm ∈ k_KT := k_t3 66 (by rfl) rfl
theorem ml_X0_50 : Cond.methodLink RX0 50 yX0_gatherToday ∈ k_KT := k_t3 67 (by rfl) rfl
theorem im_X0_gatherToday : Cond.instanceMethod yX0_gatherToday ∈ k_KT := k_t3 69 (by rfl) rfl
theorem co_X0_gatherToday : Cond.code yX0_gatherToday cX0_gatherToday 3 none ∈ k_KT := k_t3 70 (by rfl) rfl
theorem ml_X0_93 : Cond.methodLink RX0 93 yX2_isWarm ∈ k_KT := k_t3 71 (by rfl) rfl
theorem ml_X0_97 : Cond.methodLink RX0 97 yX2_canTake ∈ k_KT := k_t3 72 (by rfl) rfl
theorem ml_X0_101 : Cond.methodLink RX0 101 yX2_weight ∈ k_KT := k_t3 73 (by rfl) rfl
theorem ml_X0_104 : Cond.methodLink RX0 104 yX4_pick ∈ k_KT := k_t3 74 (by rfl) rfl
theorem ml_X0_56 : Cond.methodLink RX0 56 yX4_goBy ∈ k_KT := k_t3 75 (by rfl) rfl
theorem ml_X6_194 : Cond.methodLink RX6 194 yX2_warmOnes ∈ k_KT := k_t3 76 (by rfl) rfl
theorem ml_L_68 : Cond.methodLink RL 68 yX6_allWarm ∈ k_KT := k_t3 77 (by rfl) rfl
theorem im_X6_allWarm : Cond.instanceMethod yX6_allWarm ∈ k_KT := k_t3 78 (by rfl) rfl
theorem se_X6_allWarm : Cond.selects RX6 yX6_allWarm yX6_allWarm ∈ k_KT := k_t3 79 (by rfl) rfl
theorem co_X6_allWarm : Cond.code yX6_allWarm cX6_allWarm 1 (some .int) ∈ k_KT := k_t3 80 (by rfl) rfl
theorem ml_X6_198 : Cond.methodLink RX6 198 yX0_firstDayAllWarm ∈ k_KT := k_t3 81 (by rfl) rfl
theorem im_X0_firstDayAllWarm : Cond.instanceMethod yX0_firstDayAllWarm ∈ k_KT := k_t3 82 (by rfl) rfl
theorem se_X0_firstDayAllWarm : Cond.selects RX0 yX0_firstDayAllWarm yX0_firstDayAllWarm ∈ k_KT := k_t3 83 (by rfl) rfl
theorem co_X0_firstDayAllWarm : Cond.code yX0_firstDayAllWarm cX0_firstDayAllWarm 2 (some .int) ∈ k_KT := k_t3 84 (by rfl) rfl
theorem ml_L_72 : Cond.methodLink RL 72 yX6_share ∈ k_KT := k_t3 85 (by rfl) rfl
theorem im_X6_share : Cond.instanceMethod yX6_share ∈ k_KT := k_t3 86 (by rfl) rfl
theorem se_X6_share : Cond.selects RX6 yX6_share yX6_share ∈ k_KT := k_t3 87 (by rfl) rfl
theorem co_X6_share : Cond.code yX6_share cX6_share 2 (some .int) ∈ k_KT := k_t3 88 (by rfl) rfl
theorem ml_X6_201 : Cond.methodLink RX6 201 yX1_find ∈ k_KT := k_t3 89 (by rfl) rfl
theorem im_X1_find : Cond.instanceMethod yX1_find ∈ k_KT := k_t3 90 (by rfl) rfl
theorem se_X1_find : Cond.selects RX1 yX1_find yX1_find ∈ k_KT := k_t3 91 (by rfl) rfl
theorem co_X1_find : Cond.code yX1_find cX1_find 4 none ∈ k_KT := k_t3 92 (by rfl) rfl
theorem ml_X1_31 : Cond.methodLink RX1 31 yX2_hasTenant ∈ k_KT := k_t3 93 (by rfl) rfl
theorem ml_X1_37 : Cond.methodLink RX1 37 yX2_strength ∈ k_KT := k_t3 94 (by rfl) rfl
theorem ml_X1_41 : Cond.methodLink RX1 41 yX4_carried ∈ k_KT := k_t3 95 (by rfl) rfl
theorem ml_X1_46 : Cond.methodLink RX1 46 yX2_hasBough ∈ k_KT := k_t3 96 (by rfl) rfl
theorem ml_X1_49 : Cond.methodLink RX1 49 yX1_takersOf ∈ k_KT := k_t3 97 (by rfl) rfl
theorem im_X1_takersOf : Cond.instanceMethod yX1_takersOf ∈ k_KT := k_t3 99 (by rfl) rfl
theorem co_X1_takersOf : Cond.code yX1_takersOf cX1_takersOf 5 (some .int) ∈ k_KT := k_t3 100 (by rfl) rfl
theorem ml_X1_67 : Cond.methodLink RX1 67 yX2_canTake ∈ k_KT := k_t3 101 (by rfl) rfl
theorem ml_X1_53 : Cond.methodLink RX1 53 yX2_weight ∈ k_KT := k_t3 102 (by rfl) rfl
theorem ml_X1_60 : Cond.methodLink RX1 60 yX1_deal ∈ k_KT := k_t3 103 (by rfl) rfl
theorem st_X1_deal : Cond.static yX1_deal ∈ k_KT := k_t3 104 (by rfl) rfl
theorem co_X1_deal : Cond.code yX1_deal cX1_deal 6 none ∈ k_KT := k_t3 105 (by rfl) rfl
theorem ml_X1_71 : Cond.methodLink RX1 71 yX1_keepIfBetter ∈ k_KT := k_t3 106 (by rfl) rfl
theorem im_X1_keepIfBetter : Cond.instanceMethod yX1_keepIfBetter ∈ k_KT := k_t3 108 (by rfl) rfl
theorem co_X1_keepIfBetter : Cond.code yX1_keepIfBetter cX1_keepIfBetter 2 none ∈ k_KT := k_t3 109 (by rfl) rfl
theorem ml_X1_81 : Cond.methodLink RX1 81 arraycopyName ∈ k_KT := k_t3 110 (by rfl) rfl
theorem ml_X1_75 : Cond.methodLink RX1 75 Lib.Math.min.name ∈ k_KT := k_t3 111 (by rfl) rfl
theorem st_mmin : Cond.static Lib.Math.min.name ∈ k_KT := k_t3 112 (by rfl) rfl
theorem co_mmin : Cond.code Lib.Math.min.name Lib.Math.min.code 2 (some .int) ∈ k_KT := k_t3 113 (by rfl) rfl
theorem ml_X6_207 : Cond.methodLink RX6 207 yX1_whoHas ∈ k_KT := k_t3 114 (by rfl) rfl
theorem im_X1_whoHas : Cond.instanceMethod yX1_whoHas ∈ k_KT := k_t3 115 (by rfl) rfl
theorem se_X1_whoHas : Cond.selects RX1 yX1_whoHas yX1_whoHas ∈ k_KT := k_t3 116 (by rfl) rfl
theorem co_X1_whoHas : Cond.code yX1_whoHas cX1_whoHas 2 (some .int) ∈ k_KT := k_t3 117 (by rfl) rfl
theorem ml_L_76 : Cond.methodLink RL 76 yX6_leastHook ∈ k_KT := k_t3 118 (by rfl) rfl
theorem im_X6_leastHook : Cond.instanceMethod yX6_leastHook ∈ k_KT := k_t3 119 (by rfl) rfl
theorem se_X6_leastHook : Cond.selects RX6 yX6_leastHook yX6_leastHook ∈ k_KT := k_t3 120 (by rfl) rfl
theorem co_X6_leastHook : Cond.code yX6_leastHook cX6_leastHook 3 (some .int) ∈ k_KT := k_t3 121 (by rfl) rfl
theorem ml_L_80 : Cond.methodLink RL 80 yX6_pole ∈ k_KT := k_t3 122 (by rfl) rfl
theorem im_X6_pole : Cond.instanceMethod yX6_pole ∈ k_KT := k_t3 123 (by rfl) rfl
theorem se_X6_pole : Cond.selects RX6 yX6_pole yX6_pole ∈ k_KT := k_t3 124 (by rfl) rfl
theorem co_X6_pole : Cond.code yX6_pole cX6_pole 2 (some .int) ∈ k_KT := k_t3 125 (by rfl) rfl
theorem ml_X6_210 : Cond.methodLink RX6 210 yX0_shortenHooks ∈ k_KT := k_t3 126 (by rfl) rfl
theorem im_X0_shortenHooks : Cond.instanceMethod yX0_shortenHooks ∈ k_KT := k_t3 127 (by rfl) rfl
theorem se_X0_shortenHooks : Cond.selects RX0 yX0_shortenHooks yX0_shortenHooks ∈ k_KT := k_t3 128 (by rfl) rfl
theorem co_X0_shortenHooks : Cond.code yX0_shortenHooks cX0_shortenHooks 3 none ∈ k_KT := k_t3 129 (by rfl) rfl
theorem ml_X0_32 : Cond.methodLink RX0 32 yX4_reach ∈ k_KT := k_t3 130 (by rfl) rfl
theorem ml_X0_36 : Cond.methodLink RX0 36 Lib.Math.min.name ∈ k_KT := k_t3 131 (by rfl) rfl
theorem ml_X0_42 : Cond.methodLink RX0 42 yX4_setReach ∈ k_KT := k_t3 132 (by rfl) rfl
theorem ml_X6_213 : Cond.methodLink RX6 213 yX2_areAllWarm ∈ k_KT := k_t3 133 (by rfl) rfl
theorem ml_L_84 : Cond.methodLink RL 84 yX6_firstDay ∈ k_KT := k_t3 134 (by rfl) rfl
theorem im_X6_firstDay : Cond.instanceMethod yX6_firstDay ∈ k_KT := k_t3 135 (by rfl) rfl
theorem se_X6_firstDay : Cond.selects RX6 yX6_firstDay yX6_firstDay ∈ k_KT := k_t3 136 (by rfl) rfl
theorem co_X6_firstDay : Cond.code yX6_firstDay cX6_firstDay 3 (some .int) ∈ k_KT := k_t3 137 (by rfl) rfl
theorem ml_X6_217 : Cond.methodLink RX6 217 yX2_firstDayFor ∈ k_KT := k_t3 138 (by rfl) rfl
theorem im_X2_firstDayFor : Cond.instanceMethod yX2_firstDayFor ∈ k_KT := k_t3 139 (by rfl) rfl
theorem se_X2_firstDayFor : Cond.selects RX2 yX2_firstDayFor yX2_firstDayFor ∈ k_KT := k_t3 140 (by rfl) rfl
theorem co_X2_firstDayFor : Cond.code yX2_firstDayFor cX2_firstDayFor 5 (some .int) ∈ k_KT := k_t3 141 (by rfl) rfl
theorem ml_L_88 : Cond.methodLink RL 88 yX6_sticks ∈ k_KT := k_t3 142 (by rfl) rfl
theorem im_X6_sticks : Cond.instanceMethod yX6_sticks ∈ k_KT := k_t3 143 (by rfl) rfl
theorem se_X6_sticks : Cond.selects RX6 yX6_sticks yX6_sticks ∈ k_KT := k_t3 144 (by rfl) rfl
theorem co_X6_sticks : Cond.code yX6_sticks cX6_sticks 6 (some .int) ∈ k_KT := k_t3 145 (by rfl) rfl
theorem ml_X6_224 : Cond.methodLink RX6 224 yX2_weightOf ∈ k_KT := k_t3 146 (by rfl) rfl
theorem im_X2_weightOf : Cond.instanceMethod yX2_weightOf ∈ k_KT := k_t3 147 (by rfl) rfl
theorem se_X2_weightOf : Cond.selects RX2 yX2_weightOf yX2_weightOf ∈ k_KT := k_t3 148 (by rfl) rfl
theorem co_X2_weightOf : Cond.code yX2_weightOf cX2_weightOf 4 (some .int) ∈ k_KT := k_t3 149 (by rfl) rfl
theorem ml_L_92 : Cond.methodLink RL 92 yX6_whose ∈ k_KT := k_t3 150 (by rfl) rfl
theorem im_X6_whose : Cond.instanceMethod yX6_whose ∈ k_KT := k_t3 151 (by rfl) rfl
theorem se_X6_whose : Cond.selects RX6 yX6_whose yX6_whose ∈ k_KT := k_t3 152 (by rfl) rfl
theorem co_X6_whose : Cond.code yX6_whose cX6_whose 5 (some .int) ∈ k_KT := k_t3 153 (by rfl) rfl
theorem ml_X6_230 : Cond.methodLink RX6 230 yX2_couldTake ∈ k_KT := k_t3 154 (by rfl) rfl
theorem ml_L_96 : Cond.methodLink RL 96 yX6_sure ∈ k_KT := k_t3 155 (by rfl) rfl
theorem im_X6_sure : Cond.instanceMethod yX6_sure ∈ k_KT := k_t3 156 (by rfl) rfl
theorem se_X6_sure : Cond.selects RX6 yX6_sure yX6_sure ∈ k_KT := k_t3 157 (by rfl) rfl
theorem co_X6_sure : Cond.code yX6_sure cX6_sure 9 (some .int) ∈ k_KT := k_t3 158 (by rfl) rfl
theorem ml_X6_237 : Cond.methodLink RX6 237 yX6_commonWithTen ∈ k_KT := k_t3 159 (by rfl) rfl
theorem st_X6_commonWithTen : Cond.static yX6_commonWithTen ∈ k_KT := k_t3 160 (by rfl) rfl
theorem co_X6_commonWithTen : Cond.code yX6_commonWithTen cX6_commonWithTen 2 (some .int) ∈ k_KT := k_t3 161 (by rfl) rfl
theorem ml_L_101 : Cond.methodLink RL 101 yX6_waste ∈ k_KT := k_t3 162 (by rfl) rfl
theorem im_X6_waste : Cond.instanceMethod yX6_waste ∈ k_KT := k_t3 163 (by rfl) rfl
theorem se_X6_waste : Cond.selects RX6 yX6_waste yX6_waste ∈ k_KT := k_t3 164 (by rfl) rfl
theorem co_X6_waste : Cond.code yX6_waste cX6_waste 3 (some .int) ∈ k_KT := k_t3 165 (by rfl) rfl
theorem ml_X6_240 : Cond.methodLink RX6 240 yX2_nobodyEverTakes ∈ k_KT := k_t3 166 (by rfl) rfl
theorem im_X2_nobodyEverTakes : Cond.instanceMethod yX2_nobodyEverTakes ∈ k_KT := k_t3 167 (by rfl) rfl
theorem se_X2_nobodyEverTakes : Cond.selects RX2 yX2_nobodyEverTakes yX2_nobodyEverTakes ∈ k_KT := k_t3 168 (by rfl) rfl
theorem co_X2_nobodyEverTakes : Cond.code yX2_nobodyEverTakes cX2_nobodyEverTakes 4 (some .boolean) ∈ k_KT := k_t3 169 (by rfl) rfl
theorem ml_X2_138 : Cond.methodLink RX2 138 yX2_firstDayFor ∈ k_KT := k_t3 170 (by rfl) rfl
theorem ml_L_105 : Cond.methodLink RL 105 yX6_needs ∈ k_KT := k_t3 171 (by rfl) rfl
theorem im_X6_needs : Cond.instanceMethod yX6_needs ∈ k_KT := k_t3 172 (by rfl) rfl
theorem se_X6_needs : Cond.selects RX6 yX6_needs yX6_needs ∈ k_KT := k_t3 173 (by rfl) rfl
theorem co_X6_needs : Cond.code yX6_needs cX6_needs 3 (some .int) ∈ k_KT := k_t3 174 (by rfl) rfl
theorem ml_X6_243 : Cond.methodLink RX6 243 Lib.Math.max.name ∈ k_KT := k_t3 175 (by rfl) rfl
theorem ml_L_109 : Cond.methodLink RL 109 yX6_storm ∈ k_KT := k_t3 176 (by rfl) rfl
theorem im_X6_storm : Cond.instanceMethod yX6_storm ∈ k_KT := k_t3 177 (by rfl) rfl
theorem se_X6_storm : Cond.selects RX6 yX6_storm yX6_storm ∈ k_KT := k_t3 178 (by rfl) rfl
theorem co_X6_storm : Cond.code yX6_storm cX6_storm 4 (some .int) ∈ k_KT := k_t3 179 (by rfl) rfl
theorem ml_X6_249 : Cond.methodLink RX6 249 yX0_goThroughStorm ∈ k_KT := k_t3 180 (by rfl) rfl
theorem im_X0_goThroughStorm : Cond.instanceMethod yX0_goThroughStorm ∈ k_KT := k_t3 181 (by rfl) rfl
theorem se_X0_goThroughStorm : Cond.selects RX0 yX0_goThroughStorm yX0_goThroughStorm ∈ k_KT := k_t3 182 (by rfl) rfl
theorem co_X0_goThroughStorm : Cond.code yX0_goThroughStorm cX0_goThroughStorm 4 none ∈ k_KT := k_t3 183 (by rfl) rfl
theorem ml_X0_70 : Cond.methodLink RX0 70 yX0_draw ∈ k_KT := k_t3 184 (by rfl) rfl
theorem st_X0_draw : Cond.static yX0_draw ∈ k_KT := k_t3 185 (by rfl) rfl
theorem co_X0_draw : Cond.code yX0_draw cX0_draw 4 (some .int) ∈ k_KT := k_t3 186 (by rfl) rfl
theorem kl_X0_76 : Cond.constantLong RX0 76 7919 ∈ k_KT := k_t3 187 (by rfl) rfl
theorem kl_X0_78 : Cond.constantLong RX0 78 6151 ∈ k_KT := k_t3 188 (by rfl) rfl
theorem kl_X0_80 : Cond.constantLong RX0 80 65521 ∈ k_KT := k_t3 189 (by rfl) rfl
theorem kl_X0_82 : Cond.constantLong RX0 82 2 ∈ k_KT := k_t3 190 (by rfl) rfl
theorem ml_X0_73 : Cond.methodLink RX0 73 yX0_blow ∈ k_KT := k_t3 191 (by rfl) rfl
theorem im_X0_blow : Cond.instanceMethod yX0_blow ∈ k_KT := k_t3 193 (by rfl) rfl
theorem co_X0_blow : Cond.code yX0_blow cX0_blow 3 none ∈ k_KT := k_t3 194 (by rfl) rfl
theorem ml_X0_84 : Cond.methodLink RX0 84 yX4_deadFrom ∈ k_KT := k_t3 195 (by rfl) rfl
theorem ml_X0_90 : Cond.methodLink RX0 90 yX4_setDeadFrom ∈ k_KT := k_t3 196 (by rfl) rfl
theorem ml_L_114 : Cond.methodLink RL 114 yX6_keep ∈ k_KT := k_t3 197 (by rfl) rfl
theorem im_X6_keep : Cond.instanceMethod yX6_keep ∈ k_KT := k_t3 198 (by rfl) rfl
theorem se_X6_keep : Cond.selects RX6 yX6_keep yX6_keep ∈ k_KT := k_t3 199 (by rfl) rfl
theorem co_X6_keep : Cond.code yX6_keep cX6_keep 1 (some .int) ∈ k_KT := k_t3 200 (by rfl) rfl
theorem ml_X6_252 : Cond.methodLink RX6 252 yX3_isFull ∈ k_KT := k_t3 201 (by rfl) rfl
theorem ml_L_118 : Cond.methodLink RL 118 yX6_back ∈ k_KT := k_t3 202 (by rfl) rfl
theorem im_X6_back : Cond.instanceMethod yX6_back ∈ k_KT := k_t3 203 (by rfl) rfl
theorem se_X6_back : Cond.selects RX6 yX6_back yX6_back ∈ k_KT := k_t3 204 (by rfl) rfl
theorem co_X6_back : Cond.code yX6_back cX6_back 1 (some .int) ∈ k_KT := k_t3 205 (by rfl) rfl
theorem ml_L_122 : Cond.methodLink RL 122 yX6_count ∈ k_KT := k_t3 206 (by rfl) rfl
theorem im_X6_count : Cond.instanceMethod yX6_count ∈ k_KT := k_t3 207 (by rfl) rfl
theorem se_X6_count : Cond.selects RX6 yX6_count yX6_count ∈ k_KT := k_t3 208 (by rfl) rfl
theorem co_X6_count : Cond.code yX6_count cX6_count 2 (some .int) ∈ k_KT := k_t3 209 (by rfl) rfl
theorem ml_X6_259 : Cond.methodLink RX6 259 yJ6_bitCount_0f7a4 ∈ k_KT := k_t3 210 (by rfl) rfl
theorem st_J6_bitCount_0f7a4 : Cond.static yJ6_bitCount_0f7a4 ∈ k_KT := k_t3 211 (by rfl) rfl
theorem co_J6_bitCount_0f7a4 : Cond.code yJ6_bitCount_0f7a4 cJ6_bitCount_0f7a4 1 (some .int) ∈ k_KT := k_t3 212 (by rfl) rfl
theorem kc_J6_265 : Cond.constant RJ6 265 1431655765 ∈ k_KT := k_t3 213 (by rfl) rfl
theorem kc_J6_266 : Cond.constant RJ6 266 858993459 ∈ k_KT := k_t3 214 (by rfl) rfl
theorem kc_J6_267 : Cond.constant RJ6 267 252645135 ∈ k_KT := k_t3 215 (by rfl) rfl
theorem cl_L_10 : Cond.classLink RL 10 RX7 ∈ k_KT := k_t3 216 (by rfl) rfl
theorem is_X7 : Cond.instantiable RX7 14 ∈ k_KT := k_t3 217 (by rfl) rfl
theorem ml_L_12 : Cond.methodLink RL 12 yX7_init ∈ k_KT := k_t3 218 (by rfl) rfl
theorem im_X7_init : Cond.instanceMethod yX7_init ∈ k_KT := k_t3 219 (by rfl) rfl
theorem co_X7_init : Cond.code yX7_init cX7_init 1 none ∈ k_KT := k_t3 220 (by rfl) rfl
theorem ml_X7_1 : Cond.methodLink RX7 1 objectInit ∈ k_KT := k_t3 221 (by rfl) rfl
theorem ml_X7_40 : Cond.methodLink RX7 40 yX7_begins ∈ k_KT := k_t3 222 (by rfl) rfl
theorem im_X7_begins : Cond.instanceMethod yX7_begins ∈ k_KT := k_t3 224 (by rfl) rfl
theorem co_X7_begins : Cond.code yX7_begins cX7_begins 2 none ∈ k_KT := k_t3 225 (by rfl) rfl
theorem ml_X7_43 : Cond.methodLink RX7 43 yX7_boughOf ∈ k_KT := k_t3 226 (by rfl) rfl
theorem im_X7_boughOf : Cond.instanceMethod yX7_boughOf ∈ k_KT := k_t3 228 (by rfl) rfl
theorem co_X7_boughOf : Cond.code yX7_boughOf cX7_boughOf 6 none ∈ k_KT := k_t3 229 (by rfl) rfl
theorem ml_X7_47 : Cond.methodLink RX7 47 yX7_tenantOf ∈ k_KT := k_t3 230 (by rfl) rfl
theorem im_X7_tenantOf : Cond.instanceMethod yX7_tenantOf ∈ k_KT := k_t3 232 (by rfl) rfl
theorem co_X7_tenantOf : Cond.code yX7_tenantOf cX7_tenantOf 5 none ∈ k_KT := k_t3 233 (by rfl) rfl
theorem ml_X7_51 : Cond.methodLink RX7 51 yX7_lays ∈ k_KT := k_t3 234 (by rfl) rfl
theorem im_X7_lays : Cond.instanceMethod yX7_lays ∈ k_KT := k_t3 236 (by rfl) rfl
theorem co_X7_lays : Cond.code yX7_lays cX7_lays 2 none ∈ k_KT := k_t3 237 (by rfl) rfl
theorem fl_X7_7 : Cond.fieldLink RX7 7 "HookOrCrookModel" "text" "[I" ∈ k_KT := k_t3 238 (by rfl) rfl
theorem fl_X7_58 : Cond.fieldLink RX7 58 "HookOrCrookModel" "typed" "I" ∈ k_KT := k_t3 239 (by rfl) rfl
theorem fl_X7_13 : Cond.fieldLink RX7 13 "HookOrCrookModel" "told" "[I" ∈ k_KT := k_t4 0 (by rfl) rfl
theorem fl_X7_16 : Cond.fieldLink RX7 16 "HookOrCrookModel" "draft" "[I" ∈ k_KT := k_t4 1 (by rfl) rfl
theorem fl_X7_19 : Cond.fieldLink RX7 19 "HookOrCrookModel" "begun" "[I" ∈ k_KT := k_t4 2 (by rfl) rfl
theorem fl_X7_22 : Cond.fieldLink RX7 22 "HookOrCrookModel" "s" "[I" ∈ k_KT := k_t4 3 (by rfl) rfl
theorem fl_X7_25 : Cond.fieldLink RX7 25 "HookOrCrookModel" "past" "[I" ∈ k_KT := k_t4 4 (by rfl) rfl
theorem fl_X7_84 : Cond.fieldLink RX7 84 "HookOrCrookModel" "known" "I" ∈ k_KT := k_t4 5 (by rfl) rfl
theorem fl_X7_28 : Cond.fieldLink RX7 28 "HookOrCrookModel" "images" "[I" ∈ k_KT := k_t4 6 (by rfl) rfl
theorem fl_X7_87 : Cond.fieldLink RX7 87 "HookOrCrookModel" "kept" "I" ∈ k_KT := k_t4 7 (by rfl) rfl
theorem fl_X7_62 : Cond.fieldLink RX7 62 "HookOrCrookModel" "at" "I" ∈ k_KT := k_t4 8 (by rfl) rfl
theorem fl_X7_31 : Cond.fieldLink RX7 31 "HookOrCrookModel" "held" "[I" ∈ k_KT := k_t4 9 (by rfl) rfl
theorem fl_X7_34 : Cond.fieldLink RX7 34 "HookOrCrookModel" "load" "[I" ∈ k_KT := k_t4 10 (by rfl) rfl
theorem fl_X7_37 : Cond.fieldLink RX7 37 "HookOrCrookModel" "shared" "[I" ∈ k_KT := k_t4 11 (by rfl) rfl
theorem la_7_0 : Cond.laysFinal "HookOrCrookModel" "HookOrCrookModel" "text" "[I" ∈ k_KT := k_t4 12 (by rfl) rfl
theorem la_7_1 : Cond.lays "HookOrCrookModel" "HookOrCrookModel" "typed" "I" ∈ k_KT := k_t4 14 (by rfl) rfl
theorem la_7_2 : Cond.laysFinal "HookOrCrookModel" "HookOrCrookModel" "told" "[I" ∈ k_KT := k_t4 16 (by rfl) rfl
theorem la_7_3 : Cond.laysFinal "HookOrCrookModel" "HookOrCrookModel" "draft" "[I" ∈ k_KT := k_t4 18 (by rfl) rfl
theorem la_7_4 : Cond.laysFinal "HookOrCrookModel" "HookOrCrookModel" "begun" "[I" ∈ k_KT := k_t4 20 (by rfl) rfl
theorem la_7_5 : Cond.laysFinal "HookOrCrookModel" "HookOrCrookModel" "s" "[I" ∈ k_KT := k_t4 22 (by rfl) rfl
theorem la_7_6 : Cond.laysFinal "HookOrCrookModel" "HookOrCrookModel" "past" "[I" ∈ k_KT := k_t4 24 (by rfl) rfl
theorem la_7_7 : Cond.lays "HookOrCrookModel" "HookOrCrookModel" "known" "I" ∈ k_KT := k_t4 26 (by rfl) rfl
theorem la_7_8 : Cond.laysFinal "HookOrCrookModel" "HookOrCrookModel" "images" "[I" ∈ k_KT := k_t4 28 (by rfl) rfl
theorem la_7_9 : Cond.lays "HookOrCrookModel" "HookOrCrookModel" "kept" "I" ∈ k_KT := k_t4 30 (by rfl) rfl
theorem la_7_10 : Cond.lays "HookOrCrookModel" "HookOrCrookModel" "at" "I" ∈ k_KT := k_t4 32 (by rfl) rfl
theorem la_7_11 : Cond.laysFinal "HookOrCrookModel" "HookOrCrookModel" "held" "[I" ∈ k_KT := k_t4 34 (by rfl) rfl
theorem la_7_12 : Cond.laysFinal "HookOrCrookModel" "HookOrCrookModel" "load" "[I" ∈ k_KT := k_t4 36 (by rfl) rfl
theorem la_7_13 : Cond.laysFinal "HookOrCrookModel" "HookOrCrookModel" "shared" "[I" ∈ k_KT := k_t4 38 (by rfl) rfl
theorem ml_L_17 : Cond.methodLink RL 17 yX7_write ∈ k_KT := k_t4 41 (by rfl) rfl
theorem im_X7_write : Cond.instanceMethod yX7_write ∈ k_KT := k_t4 42 (by rfl) rfl
theorem se_X7_write : Cond.selects RX7 yX7_write yX7_write ∈ k_KT := k_t4 43 (by rfl) rfl
theorem co_X7_write : Cond.code yX7_write cX7_write 2 (some .int) ∈ k_KT := k_t4 44 (by rfl) rfl
theorem ml_X7_54 : Cond.methodLink RX7 54 yX7_in ∈ k_KT := k_t4 45 (by rfl) rfl
theorem st_X7_in : Cond.static yX7_in ∈ k_KT := k_t4 46 (by rfl) rfl
theorem co_X7_in : Cond.code yX7_in cX7_in 3 (some .boolean) ∈ k_KT := k_t4 47 (by rfl) rfl
theorem ml_L_22 : Cond.methodLink RL 22 yX7_wipe ∈ k_KT := k_t4 48 (by rfl) rfl
theorem im_X7_wipe : Cond.instanceMethod yX7_wipe ∈ k_KT := k_t4 49 (by rfl) rfl
theorem se_X7_wipe : Cond.selects RX7 yX7_wipe yX7_wipe ∈ k_KT := k_t4 50 (by rfl) rfl
theorem co_X7_wipe : Cond.code yX7_wipe cX7_wipe 2 (some .int) ∈ k_KT := k_t4 51 (by rfl) rfl
theorem ml_L_26 : Cond.methodLink RL 26 yX7_fault ∈ k_KT := k_t4 52 (by rfl) rfl
theorem im_X7_fault : Cond.instanceMethod yX7_fault ∈ k_KT := k_t4 53 (by rfl) rfl
theorem se_X7_fault : Cond.selects RX7 yX7_fault yX7_fault ∈ k_KT := k_t4 54 (by rfl) rfl
theorem co_X7_fault : Cond.code yX7_fault cX7_fault 1 (some .int) ∈ k_KT := k_t4 55 (by rfl) rfl
theorem ml_X7_80 : Cond.methodLink RX7 80 yX7_readsAll ∈ k_KT := k_t4 56 (by rfl) rfl
theorem im_X7_readsAll : Cond.instanceMethod yX7_readsAll ∈ k_KT := k_t4 58 (by rfl) rfl
theorem co_X7_readsAll : Cond.code yX7_readsAll cX7_readsAll 2 (some .int) ∈ k_KT := k_t4 59 (by rfl) rfl
theorem ml_X7_77 : Cond.methodLink RX7 77 yX7_readsItem ∈ k_KT := k_t4 60 (by rfl) rfl
theorem im_X7_readsItem : Cond.instanceMethod yX7_readsItem ∈ k_KT := k_t4 62 (by rfl) rfl
theorem co_X7_readsItem : Cond.code yX7_readsItem cX7_readsItem 6 (some .boolean) ∈ k_KT := k_t4 63 (by rfl) rfl
theorem ml_X7_73 : Cond.methodLink RX7 73 yX7_number ∈ k_KT := k_t4 64 (by rfl) rfl
theorem im_X7_number : Cond.instanceMethod yX7_number ∈ k_KT := k_t4 66 (by rfl) rfl
theorem co_X7_number : Cond.code yX7_number cX7_number 6 (some .int) ∈ k_KT := k_t4 67 (by rfl) rfl
theorem ml_X7_65 : Cond.methodLink RX7 65 yX7_letterAt ∈ k_KT := k_t4 68 (by rfl) rfl
theorem im_X7_letterAt : Cond.instanceMethod yX7_letterAt ∈ k_KT := k_t4 70 (by rfl) rfl
theorem co_X7_letterAt : Cond.code yX7_letterAt cX7_letterAt 2 (some .int) ∈ k_KT := k_t4 71 (by rfl) rfl
theorem ml_X7_69 : Cond.methodLink RX7 69 yX7_isFigure ∈ k_KT := k_t4 72 (by rfl) rfl
theorem st_X7_isFigure : Cond.static yX7_isFigure ∈ k_KT := k_t4 73 (by rfl) rfl
theorem co_X7_isFigure : Cond.code yX7_isFigure cX7_isFigure 1 (some .boolean) ∈ k_KT := k_t4 74 (by rfl) rfl
theorem ml_L_30 : Cond.methodLink RL 30 yX7_lay ∈ k_KT := k_t4 75 (by rfl) rfl
theorem im_X7_lay : Cond.instanceMethod yX7_lay ∈ k_KT := k_t4 76 (by rfl) rfl
theorem se_X7_lay : Cond.selects RX7 yX7_lay yX7_lay ∈ k_KT := k_t4 77 (by rfl) rfl
theorem co_X7_lay : Cond.code yX7_lay cX7_lay 1 (some .int) ∈ k_KT := k_t4 78 (by rfl) rfl
theorem ml_L_35 : Cond.methodLink RL 35 yX7_bough ∈ k_KT := k_t4 79 (by rfl) rfl
theorem im_X7_bough : Cond.instanceMethod yX7_bough ∈ k_KT := k_t4 80 (by rfl) rfl
theorem se_X7_bough : Cond.selects RX7 yX7_bough yX7_bough ∈ k_KT := k_t4 81 (by rfl) rfl
theorem co_X7_bough : Cond.code yX7_bough cX7_bough 3 (some .int) ∈ k_KT := k_t4 82 (by rfl) rfl
theorem ml_X7_90 : Cond.methodLink RX7 90 yX7_isBough ∈ k_KT := k_t4 83 (by rfl) rfl
theorem im_X7_isBough : Cond.instanceMethod yX7_isBough ∈ k_KT := k_t4 85 (by rfl) rfl
theorem co_X7_isBough : Cond.code yX7_isBough cX7_isBough 2 (some .boolean) ∈ k_KT := k_t4 86 (by rfl) rfl
theorem ml_X7_93 : Cond.methodLink RX7 93 yX7_isDead ∈ k_KT := k_t4 87 (by rfl) rfl
theorem im_X7_isDead : Cond.instanceMethod yX7_isDead ∈ k_KT := k_t4 89 (by rfl) rfl
theorem co_X7_isDead : Cond.code yX7_isDead cX7_isDead 3 (some .boolean) ∈ k_KT := k_t4 90 (by rfl) rfl
theorem ml_X7_97 : Cond.methodLink RX7 97 yX7_isFallen ∈ k_KT := k_t4 91 (by rfl) rfl
theorem im_X7_isFallen : Cond.instanceMethod yX7_isFallen ∈ k_KT := k_t4 93 (by rfl) rfl
theorem co_X7_isFallen : Cond.code yX7_isFallen cX7_isFallen 3 (some .boolean) ∈ k_KT := k_t4 94 (by rfl) rfl
theorem ml_L_39 : Cond.methodLink RL 39 yX7_tenant ∈ k_KT := k_t4 95 (by rfl) rfl
theorem im_X7_tenant : Cond.instanceMethod yX7_tenant ∈ k_KT := k_t4 96 (by rfl) rfl
theorem se_X7_tenant : Cond.selects RX7 yX7_tenant yX7_tenant ∈ k_KT := k_t4 97 (by rfl) rfl
theorem co_X7_tenant : Cond.code yX7_tenant cX7_tenant 3 (some .int) ∈ k_KT := k_t4 98 (by rfl) rfl
theorem ml_X7_100 : Cond.methodLink RX7 100 yX7_isTenant ∈ k_KT := k_t4 99 (by rfl) rfl
theorem im_X7_isTenant : Cond.instanceMethod yX7_isTenant ∈ k_KT := k_t4 101 (by rfl) rfl
theorem co_X7_isTenant : Cond.code yX7_isTenant cX7_isTenant 2 (some .boolean) ∈ k_KT := k_t4 102 (by rfl) rfl
theorem ml_X7_103 : Cond.methodLink RX7 103 yX7_isWarm ∈ k_KT := k_t4 103 (by rfl) rfl
theorem im_X7_isWarm : Cond.instanceMethod yX7_isWarm ∈ k_KT := k_t4 105 (by rfl) rfl
theorem co_X7_isWarm : Cond.code yX7_isWarm cX7_isWarm 2 (some .boolean) ∈ k_KT := k_t4 106 (by rfl) rfl
theorem ml_L_43 : Cond.methodLink RL 43 yX7_can ∈ k_KT := k_t4 107 (by rfl) rfl
theorem im_X7_can : Cond.instanceMethod yX7_can ∈ k_KT := k_t4 108 (by rfl) rfl
theorem se_X7_can : Cond.selects RX7 yX7_can yX7_can ∈ k_KT := k_t4 109 (by rfl) rfl
theorem co_X7_can : Cond.code yX7_can cX7_can 3 (some .int) ∈ k_KT := k_t4 110 (by rfl) rfl
theorem ml_X7_110 : Cond.methodLink RX7 110 yX7_canNow ∈ k_KT := k_t4 111 (by rfl) rfl
theorem im_X7_canNow : Cond.instanceMethod yX7_canNow ∈ k_KT := k_t4 113 (by rfl) rfl
theorem co_X7_canNow : Cond.code yX7_canNow cX7_canNow 3 (some .boolean) ∈ k_KT := k_t4 114 (by rfl) rfl
theorem ml_X7_106 : Cond.methodLink RX7 106 yX7_could ∈ k_KT := k_t4 115 (by rfl) rfl
theorem im_X7_could : Cond.instanceMethod yX7_could ∈ k_KT := k_t4 117 (by rfl) rfl
theorem co_X7_could : Cond.code yX7_could cX7_could 9 (some .boolean) ∈ k_KT := k_t4 118 (by rfl) rfl
theorem ml_L_47 : Cond.methodLink RL 47 yX7_take ∈ k_KT := k_t4 119 (by rfl) rfl
theorem im_X7_take : Cond.instanceMethod yX7_take ∈ k_KT := k_t4 120 (by rfl) rfl
theorem se_X7_take : Cond.selects RX7 yX7_take yX7_take ∈ k_KT := k_t4 121 (by rfl) rfl
theorem co_X7_take : Cond.code yX7_take cX7_take 4 (some .int) ∈ k_KT := k_t4 122 (by rfl) rfl
theorem ml_X7_113 : Cond.methodLink RX7 113 yX7_keeps ∈ k_KT := k_t4 123 (by rfl) rfl
theorem im_X7_keeps : Cond.instanceMethod yX7_keeps ∈ k_KT := k_t4 125 (by rfl) rfl
theorem co_X7_keeps : Cond.code yX7_keeps cX7_keeps 2 none ∈ k_KT := k_t4 126 (by rfl) rfl
theorem ml_X7_116 : Cond.methodLink RX7 116 yX7_takes ∈ k_KT := k_t4 127 (by rfl) rfl
theorem im_X7_takes : Cond.instanceMethod yX7_takes ∈ k_KT := k_t4 129 (by rfl) rfl
theorem co_X7_takes : Cond.code yX7_takes cX7_takes 3 none ∈ k_KT := k_t4 130 (by rfl) rfl
theorem ml_L_51 : Cond.methodLink RL 51 yX7_pass ∈ k_KT := k_t4 131 (by rfl) rfl
theorem im_X7_pass : Cond.instanceMethod yX7_pass ∈ k_KT := k_t4 132 (by rfl) rfl
theorem se_X7_pass : Cond.selects RX7 yX7_pass yX7_pass ∈ k_KT := k_t4 133 (by rfl) rfl
theorem co_X7_pass : Cond.code yX7_pass cX7_pass 3 (some .int) ∈ k_KT := k_t4 134 (by rfl) rfl
theorem ml_X7_120 : Cond.methodLink RX7 120 yX7_passes ∈ k_KT := k_t4 135 (by rfl) rfl
theorem im_X7_passes : Cond.instanceMethod yX7_passes ∈ k_KT := k_t4 137 (by rfl) rfl
theorem co_X7_passes : Cond.code yX7_passes cX7_passes 2 none ∈ k_KT := k_t4 138 (by rfl) rfl
theorem ml_L_55 : Cond.methodLink RL 55 yX7_hook ∈ k_KT := k_t4 139 (by rfl) rfl
theorem im_X7_hook : Cond.instanceMethod yX7_hook ∈ k_KT := k_t4 140 (by rfl) rfl
theorem se_X7_hook : Cond.selects RX7 yX7_hook yX7_hook ∈ k_KT := k_t4 141 (by rfl) rfl
theorem co_X7_hook : Cond.code yX7_hook cX7_hook 4 (some .int) ∈ k_KT := k_t4 142 (by rfl) rfl
theorem ml_L_59 : Cond.methodLink RL 59 yX7_ring ∈ k_KT := k_t4 143 (by rfl) rfl
theorem im_X7_ring : Cond.instanceMethod yX7_ring ∈ k_KT := k_t4 144 (by rfl) rfl
theorem se_X7_ring : Cond.selects RX7 yX7_ring yX7_ring ∈ k_KT := k_t4 145 (by rfl) rfl
theorem co_X7_ring : Cond.code yX7_ring cX7_ring 3 (some .int) ∈ k_KT := k_t4 146 (by rfl) rfl
theorem ml_L_63 : Cond.methodLink RL 63 yX7_undo ∈ k_KT := k_t4 147 (by rfl) rfl
theorem im_X7_undo : Cond.instanceMethod yX7_undo ∈ k_KT := k_t4 148 (by rfl) rfl
theorem se_X7_undo : Cond.selects RX7 yX7_undo yX7_undo ∈ k_KT := k_t4 149 (by rfl) rfl
theorem co_X7_undo : Cond.code yX7_undo cX7_undo 2 (some .int) ∈ k_KT := k_t4 150 (by rfl) rfl
theorem ml_L_67 : Cond.methodLink RL 67 yX7_warmBy ∈ k_KT := k_t4 151 (by rfl) rfl
theorem im_X7_warmBy : Cond.instanceMethod yX7_warmBy ∈ k_KT := k_t4 152 (by rfl) rfl
theorem se_X7_warmBy : Cond.selects RX7 yX7_warmBy yX7_warmBy ∈ k_KT := k_t4 153 (by rfl) rfl
theorem co_X7_warmBy : Cond.code yX7_warmBy cX7_warmBy 3 (some .int) ∈ k_KT := k_t4 154 (by rfl) rfl
theorem ml_X7_129 : Cond.methodLink RX7 129 yX7_holds ∈ k_KT := k_t4 155 (by rfl) rfl
theorem im_X7_holds : Cond.instanceMethod yX7_holds ∈ k_KT := k_t4 157 (by rfl) rfl
theorem co_X7_holds : Cond.code yX7_holds cX7_holds 2 none ∈ k_KT := k_t4 158 (by rfl) rfl
theorem ml_X7_132 : Cond.methodLink RX7 132 yX7_warmAt ∈ k_KT := k_t4 159 (by rfl) rfl
theorem im_X7_warmAt : Cond.instanceMethod yX7_warmAt ∈ k_KT := k_t4 161 (by rfl) rfl
theorem co_X7_warmAt : Cond.code yX7_warmAt cX7_warmAt 2 (some .int) ∈ k_KT := k_t4 162 (by rfl) rfl
theorem ml_X7_123 : Cond.methodLink RX7 123 yX7_eachTakes ∈ k_KT := k_t4 163 (by rfl) rfl
theorem im_X7_eachTakes : Cond.instanceMethod yX7_eachTakes ∈ k_KT := k_t4 165 (by rfl) rfl
theorem co_X7_eachTakes : Cond.code yX7_eachTakes cX7_eachTakes 3 none ∈ k_KT := k_t4 166 (by rfl) rfl
theorem ml_X7_126 : Cond.methodLink RX7 126 yX7_warm ∈ k_KT := k_t4 167 (by rfl) rfl
theorem im_X7_warm : Cond.instanceMethod yX7_warm ∈ k_KT := k_t4 169 (by rfl) rfl
theorem co_X7_warm : Cond.code yX7_warm cX7_warm 3 (some .int) ∈ k_KT := k_t4 170 (by rfl) rfl
theorem ml_X7_135 : Cond.methodLink RX7 135 yX7_lets ∈ k_KT := k_t4 171 (by rfl) rfl
theorem im_X7_lets : Cond.instanceMethod yX7_lets ∈ k_KT := k_t4 173 (by rfl) rfl
theorem co_X7_lets : Cond.code yX7_lets cX7_lets 2 none ∈ k_KT := k_t4 174 (by rfl) rfl
theorem ml_L_71 : Cond.methodLink RL 71 yX7_allWarm ∈ k_KT := k_t4 175 (by rfl) rfl
theorem im_X7_allWarm : Cond.instanceMethod yX7_allWarm ∈ k_KT := k_t4 176 (by rfl) rfl
theorem se_X7_allWarm : Cond.selects RX7 yX7_allWarm yX7_allWarm ∈ k_KT := k_t4 177 (by rfl) rfl
theorem co_X7_allWarm : Cond.code yX7_allWarm cX7_allWarm 2 (some .int) ∈ k_KT := k_t4 178 (by rfl) rfl
theorem ml_L_75 : Cond.methodLink RL 75 yX7_share ∈ k_KT := k_t4 179 (by rfl) rfl
theorem im_X7_share : Cond.instanceMethod yX7_share ∈ k_KT := k_t4 180 (by rfl) rfl
theorem se_X7_share : Cond.selects RX7 yX7_share yX7_share ∈ k_KT := k_t4 181 (by rfl) rfl
theorem co_X7_share : Cond.code yX7_share cX7_share 13 (some .int) ∈ k_KT := k_t4 182 (by rfl) rfl
theorem ml_L_79 : Cond.methodLink RL 79 yX7_leastHook ∈ k_KT := k_t4 183 (by rfl) rfl
theorem im_X7_leastHook : Cond.instanceMethod yX7_leastHook ∈ k_KT := k_t4 184 (by rfl) rfl
theorem se_X7_leastHook : Cond.selects RX7 yX7_leastHook yX7_leastHook ∈ k_KT := k_t4 185 (by rfl) rfl
theorem co_X7_leastHook : Cond.code yX7_leastHook cX7_leastHook 4 (some .int) ∈ k_KT := k_t4 186 (by rfl) rfl
theorem ml_L_83 : Cond.methodLink RL 83 yX7_pole ∈ k_KT := k_t4 187 (by rfl) rfl
theorem im_X7_pole : Cond.instanceMethod yX7_pole ∈ k_KT := k_t4 188 (by rfl) rfl
theorem se_X7_pole : Cond.selects RX7 yX7_pole yX7_pole ∈ k_KT := k_t4 189 (by rfl) rfl
theorem co_X7_pole : Cond.code yX7_pole cX7_pole 4 (some .int) ∈ k_KT := k_t4 190 (by rfl) rfl
theorem ml_L_87 : Cond.methodLink RL 87 yX7_firstDay ∈ k_KT := k_t4 191 (by rfl) rfl
theorem im_X7_firstDay : Cond.instanceMethod yX7_firstDay ∈ k_KT := k_t4 192 (by rfl) rfl
theorem se_X7_firstDay : Cond.selects RX7 yX7_firstDay yX7_firstDay ∈ k_KT := k_t4 193 (by rfl) rfl
theorem co_X7_firstDay : Cond.code yX7_firstDay cX7_firstDay 3 (some .int) ∈ k_KT := k_t4 194 (by rfl) rfl
theorem ml_X7_138 : Cond.methodLink RX7 138 yX7_firstOf ∈ k_KT := k_t4 195 (by rfl) rfl
theorem im_X7_firstOf : Cond.instanceMethod yX7_firstOf ∈ k_KT := k_t4 197 (by rfl) rfl
theorem co_X7_firstOf : Cond.code yX7_firstOf cX7_firstOf 5 (some .int) ∈ k_KT := k_t4 198 (by rfl) rfl
theorem ml_L_91 : Cond.methodLink RL 91 yX7_sticks ∈ k_KT := k_t4 199 (by rfl) rfl
theorem im_X7_sticks : Cond.instanceMethod yX7_sticks ∈ k_KT := k_t4 200 (by rfl) rfl
theorem se_X7_sticks : Cond.selects RX7 yX7_sticks yX7_sticks ∈ k_KT := k_t4 201 (by rfl) rfl
theorem co_X7_sticks : Cond.code yX7_sticks cX7_sticks 10 (some .int) ∈ k_KT := k_t4 202 (by rfl) rfl
theorem ml_L_95 : Cond.methodLink RL 95 yX7_whose ∈ k_KT := k_t4 203 (by rfl) rfl
theorem im_X7_whose : Cond.instanceMethod yX7_whose ∈ k_KT := k_t4 204 (by rfl) rfl
theorem se_X7_whose : Cond.selects RX7 yX7_whose yX7_whose ∈ k_KT := k_t4 205 (by rfl) rfl
theorem co_X7_whose : Cond.code yX7_whose cX7_whose 5 (some .int) ∈ k_KT := k_t4 206 (by rfl) rfl
theorem ml_L_100 : Cond.methodLink RL 100 yX7_sure ∈ k_KT := k_t4 207 (by rfl) rfl
theorem im_X7_sure : Cond.instanceMethod yX7_sure ∈ k_KT := k_t4 208 (by rfl) rfl
theorem se_X7_sure : Cond.selects RX7 yX7_sure yX7_sure ∈ k_KT := k_t4 209 (by rfl) rfl
theorem co_X7_sure : Cond.code yX7_sure cX7_sure 10 (some .int) ∈ k_KT := k_t4 210 (by rfl) rfl
theorem ml_L_104 : Cond.methodLink RL 104 yX7_waste ∈ k_KT := k_t4 211 (by rfl) rfl
theorem im_X7_waste : Cond.instanceMethod yX7_waste ∈ k_KT := k_t4 212 (by rfl) rfl
theorem se_X7_waste : Cond.selects RX7 yX7_waste yX7_waste ∈ k_KT := k_t4 213 (by rfl) rfl
theorem co_X7_waste : Cond.code yX7_waste cX7_waste 5 (some .int) ∈ k_KT := k_t4 214 (by rfl) rfl
theorem ml_L_108 : Cond.methodLink RL 108 yX7_needs ∈ k_KT := k_t4 215 (by rfl) rfl
theorem im_X7_needs : Cond.instanceMethod yX7_needs ∈ k_KT := k_t4 216 (by rfl) rfl
theorem se_X7_needs : Cond.selects RX7 yX7_needs yX7_needs ∈ k_KT := k_t4 217 (by rfl) rfl
theorem co_X7_needs : Cond.code yX7_needs cX7_needs 3 (some .int) ∈ k_KT := k_t4 218 (by rfl) rfl
theorem ml_L_113 : Cond.methodLink RL 113 yX7_storm ∈ k_KT := k_t4 219 (by rfl) rfl
theorem im_X7_storm : Cond.instanceMethod yX7_storm ∈ k_KT := k_t4 220 (by rfl) rfl
theorem se_X7_storm : Cond.selects RX7 yX7_storm yX7_storm ∈ k_KT := k_t4 221 (by rfl) rfl
theorem co_X7_storm : Cond.code yX7_storm cX7_storm 11 (some .int) ∈ k_KT := k_t4 222 (by rfl) rfl
theorem ml_X7_142 : Cond.methodLink RX7 142 yX7_weighs ∈ k_KT := k_t4 223 (by rfl) rfl
theorem im_X7_weighs : Cond.instanceMethod yX7_weighs ∈ k_KT := k_t4 225 (by rfl) rfl
theorem co_X7_weighs : Cond.code yX7_weighs cX7_weighs 3 (some .int) ∈ k_KT := k_t4 226 (by rfl) rfl
theorem kl_X7_145 : Cond.constantLong RX7 145 7919 ∈ k_KT := k_t4 227 (by rfl) rfl
theorem kl_X7_147 : Cond.constantLong RX7 147 6151 ∈ k_KT := k_t4 228 (by rfl) rfl
theorem kl_X7_149 : Cond.constantLong RX7 149 65521 ∈ k_KT := k_t4 229 (by rfl) rfl
theorem ml_L_117 : Cond.methodLink RL 117 yX7_keep ∈ k_KT := k_t4 230 (by rfl) rfl
theorem im_X7_keep : Cond.instanceMethod yX7_keep ∈ k_KT := k_t4 231 (by rfl) rfl
theorem se_X7_keep : Cond.selects RX7 yX7_keep yX7_keep ∈ k_KT := k_t4 232 (by rfl) rfl
theorem co_X7_keep : Cond.code yX7_keep cX7_keep 2 (some .int) ∈ k_KT := k_t4 233 (by rfl) rfl
theorem ml_L_121 : Cond.methodLink RL 121 yX7_back ∈ k_KT := k_t4 234 (by rfl) rfl
theorem im_X7_back : Cond.instanceMethod yX7_back ∈ k_KT := k_t4 235 (by rfl) rfl
theorem se_X7_back : Cond.selects RX7 yX7_back yX7_back ∈ k_KT := k_t4 236 (by rfl) rfl
theorem co_X7_back : Cond.code yX7_back cX7_back 2 (some .int) ∈ k_KT := k_t4 237 (by rfl) rfl
theorem ml_L_125 : Cond.methodLink RL 125 yX7_count ∈ k_KT := k_t4 238 (by rfl) rfl
theorem im_X7_count : Cond.instanceMethod yX7_count ∈ k_KT := k_t4 239 (by rfl) rfl
theorem se_X7_count : Cond.selects RX7 yX7_count yX7_count ∈ k_KT := k_t5 0 (by rfl) rfl
theorem co_X7_count : Cond.code yX7_count cX7_count 4 (some .int) ∈ k_KT := k_t5 1 (by rfl) rfl
theorem fl_J0_9 : Cond.fieldLink RJ0 9 "java/lang/String" "value" "[B" ∈ k_KT := k_t5 2 (by rfl) rfl
theorem fl_J0_15 : Cond.fieldLink RJ0 15 "java/lang/String" "coder" "B" ∈ k_KT := k_t5 3 (by rfl) rfl
theorem se_X5_figuresAt : Cond.selects RX5 yX5_figuresAt yX5_figuresAt ∈ k_KT := k_p 0 (by rfl) rfl
theorem se_X5_readNumber : Cond.selects RX5 yX5_readNumber yX5_readNumber ∈ k_KT := k_p 1 (by rfl) rfl
theorem se_X2_put : Cond.selects RX2 yX2_put yX2_put ∈ k_KT := k_p 2 (by rfl) rfl
theorem se_X2_putBough : Cond.selects RX2 yX2_putBough yX2_putBough ∈ k_KT := k_p 3 (by rfl) rfl
theorem se_X2_putTenant : Cond.selects RX2 yX2_putTenant yX2_putTenant ∈ k_KT := k_p 4 (by rfl) rfl
theorem se_X5_has : Cond.selects RX5 yX5_has yX5_has ∈ k_KT := k_p 5 (by rfl) rfl
theorem se_X2_isInReach : Cond.selects RX2 yX2_isInReach yX2_isInReach ∈ k_KT := k_p 6 (by rfl) rfl
theorem se_X3_dropOldest : Cond.selects RX3 yX3_dropOldest yX3_dropOldest ∈ k_KT := k_p 7 (by rfl) rfl
theorem se_X0_isOver : Cond.selects RX0 yX0_isOver yX0_isOver ∈ k_KT := k_p 8 (by rfl) rfl
theorem se_X0_gatherToday : Cond.selects RX0 yX0_gatherToday yX0_gatherToday ∈ k_KT := k_p 9 (by rfl) rfl
theorem se_X1_takersOf : Cond.selects RX1 yX1_takersOf yX1_takersOf ∈ k_KT := k_p 10 (by rfl) rfl
theorem se_X1_keepIfBetter : Cond.selects RX1 yX1_keepIfBetter yX1_keepIfBetter ∈ k_KT := k_p 11 (by rfl) rfl
theorem se_X0_blow : Cond.selects RX0 yX0_blow yX0_blow ∈ k_KT := k_p 12 (by rfl) rfl
theorem se_X7_begins : Cond.selects RX7 yX7_begins yX7_begins ∈ k_KT := k_p 13 (by rfl) rfl
theorem se_X7_boughOf : Cond.selects RX7 yX7_boughOf yX7_boughOf ∈ k_KT := k_p 14 (by rfl) rfl
theorem se_X7_tenantOf : Cond.selects RX7 yX7_tenantOf yX7_tenantOf ∈ k_KT := k_p 15 (by rfl) rfl
theorem se_X7_lays : Cond.selects RX7 yX7_lays yX7_lays ∈ k_KT := k_p 16 (by rfl) rfl
theorem se_X7_readsAll : Cond.selects RX7 yX7_readsAll yX7_readsAll ∈ k_KT := k_p 17 (by rfl) rfl
theorem se_X7_readsItem : Cond.selects RX7 yX7_readsItem yX7_readsItem ∈ k_KT := k_p 18 (by rfl) rfl
theorem se_X7_number : Cond.selects RX7 yX7_number yX7_number ∈ k_KT := k_p 19 (by rfl) rfl
theorem se_X7_letterAt : Cond.selects RX7 yX7_letterAt yX7_letterAt ∈ k_KT := k_p 20 (by rfl) rfl
theorem se_X7_isBough : Cond.selects RX7 yX7_isBough yX7_isBough ∈ k_KT := k_p 21 (by rfl) rfl
theorem se_X7_isDead : Cond.selects RX7 yX7_isDead yX7_isDead ∈ k_KT := k_p 22 (by rfl) rfl
theorem se_X7_isFallen : Cond.selects RX7 yX7_isFallen yX7_isFallen ∈ k_KT := k_p 23 (by rfl) rfl
theorem se_X7_isTenant : Cond.selects RX7 yX7_isTenant yX7_isTenant ∈ k_KT := k_p 24 (by rfl) rfl
theorem se_X7_isWarm : Cond.selects RX7 yX7_isWarm yX7_isWarm ∈ k_KT := k_p 25 (by rfl) rfl
theorem se_X7_canNow : Cond.selects RX7 yX7_canNow yX7_canNow ∈ k_KT := k_p 26 (by rfl) rfl
theorem se_X7_could : Cond.selects RX7 yX7_could yX7_could ∈ k_KT := k_p 27 (by rfl) rfl
theorem se_X7_keeps : Cond.selects RX7 yX7_keeps yX7_keeps ∈ k_KT := k_p 28 (by rfl) rfl
theorem se_X7_takes : Cond.selects RX7 yX7_takes yX7_takes ∈ k_KT := k_p 29 (by rfl) rfl
theorem se_X7_passes : Cond.selects RX7 yX7_passes yX7_passes ∈ k_KT := k_p 30 (by rfl) rfl
theorem se_X7_holds : Cond.selects RX7 yX7_holds yX7_holds ∈ k_KT := k_p 31 (by rfl) rfl
theorem se_X7_warmAt : Cond.selects RX7 yX7_warmAt yX7_warmAt ∈ k_KT := k_p 32 (by rfl) rfl
theorem se_X7_eachTakes : Cond.selects RX7 yX7_eachTakes yX7_eachTakes ∈ k_KT := k_p 33 (by rfl) rfl
theorem se_X7_warm : Cond.selects RX7 yX7_warm yX7_warm ∈ k_KT := k_p 34 (by rfl) rfl
theorem se_X7_lets : Cond.selects RX7 yX7_lets yX7_lets ∈ k_KT := k_p 35 (by rfl) rfl
theorem se_X7_firstOf : Cond.selects RX7 yX7_firstOf yX7_firstOf ∈ k_KT := k_p 36 (by rfl) rfl
theorem se_X7_weighs : Cond.selects RX7 yX7_weighs yX7_weighs ∈ k_KT := k_p 37 (by rfl) rfl
theorem inK0 : ∀ w ∈ u_ws RX0 TX0 2, w ∈ k_KT := by
  intro w h
  obtain ⟨k, hk, rfl⟩ := List.mem_map.mp h
  have hk := List.mem_range.mp hk
  match k, hk with
  | 0, _ => exact la_0_0
  | 1, _ => exact la_0_1
  | k + 2, hk => exact absurd hk (by omega)
theorem inK1 : ∀ w ∈ u_ws RX1 TX1 7, w ∈ k_KT := by
  intro w h
  obtain ⟨k, hk, rfl⟩ := List.mem_map.mp h
  have hk := List.mem_range.mp hk
  match k, hk with
  | 0, _ => exact la_1_0
  | 1, _ => exact la_1_1
  | 2, _ => exact la_1_2
  | 3, _ => exact la_1_3
  | 4, _ => exact la_1_4
  | 5, _ => exact la_1_5
  | 6, _ => exact la_1_6
  | k + 7, hk => exact absurd hk (by omega)
theorem inK2 : ∀ w ∈ u_ws RX2 TX2 10, w ∈ k_KT := by
  intro w h
  obtain ⟨k, hk, rfl⟩ := List.mem_map.mp h
  have hk := List.mem_range.mp hk
  match k, hk with
  | 0, _ => exact la_2_0
  | 1, _ => exact la_2_1
  | 2, _ => exact la_2_2
  | 3, _ => exact la_2_3
  | 4, _ => exact la_2_4
  | 5, _ => exact la_2_5
  | 6, _ => exact la_2_6
  | 7, _ => exact la_2_7
  | 8, _ => exact la_2_8
  | 9, _ => exact la_2_9
  | k + 10, hk => exact absurd hk (by omega)
theorem inK3 : ∀ w ∈ u_ws RX3 TX3 2, w ∈ k_KT := by
  intro w h
  obtain ⟨k, hk, rfl⟩ := List.mem_map.mp h
  have hk := List.mem_range.mp hk
  match k, hk with
  | 0, _ => exact la_3_0
  | 1, _ => exact la_3_1
  | k + 2, hk => exact absurd hk (by omega)
theorem inK4 : ∀ w ∈ u_ws RX4 TX4 3, w ∈ k_KT := by
  intro w h
  obtain ⟨k, hk, rfl⟩ := List.mem_map.mp h
  have hk := List.mem_range.mp hk
  match k, hk with
  | 0, _ => exact la_4_0
  | 1, _ => exact la_4_1
  | 2, _ => exact la_4_2
  | k + 3, hk => exact absurd hk (by omega)
theorem inK5 : ∀ w ∈ u_ws RX5 TX5 3, w ∈ k_KT := by
  intro w h
  obtain ⟨k, hk, rfl⟩ := List.mem_map.mp h
  have hk := List.mem_range.mp hk
  match k, hk with
  | 0, _ => exact la_5_0
  | 1, _ => exact la_5_1
  | 2, _ => exact la_5_2
  | k + 3, hk => exact absurd hk (by omega)
theorem inK6 : ∀ w ∈ u_ws RX6 TX6 7, w ∈ k_KT := by
  intro w h
  obtain ⟨k, hk, rfl⟩ := List.mem_map.mp h
  have hk := List.mem_range.mp hk
  match k, hk with
  | 0, _ => exact la_6_0
  | 1, _ => exact la_6_1
  | 2, _ => exact la_6_2
  | 3, _ => exact la_6_3
  | 4, _ => exact la_6_4
  | 5, _ => exact la_6_5
  | 6, _ => exact la_6_6
  | k + 7, hk => exact absurd hk (by omega)
theorem inK7 : ∀ w ∈ u_ws RX7 TX7 14, w ∈ k_KT := by
  intro w h
  obtain ⟨k, hk, rfl⟩ := List.mem_map.mp h
  have hk := List.mem_range.mp hk
  match k, hk with
  | 0, _ => exact la_7_0
  | 1, _ => exact la_7_1
  | 2, _ => exact la_7_2
  | 3, _ => exact la_7_3
  | 4, _ => exact la_7_4
  | 5, _ => exact la_7_5
  | 6, _ => exact la_7_6
  | 7, _ => exact la_7_7
  | 8, _ => exact la_7_8
  | 9, _ => exact la_7_9
  | 10, _ => exact la_7_10
  | 11, _ => exact la_7_11
  | 12, _ => exact la_7_12
  | 13, _ => exact la_7_13
  | k + 14, hk => exact absurd hk (by omega)
end
section
/-! A machine of our own over the kit's rows: whole numbers as Int, addresses counted from the first cell that the law makes. kW is what the kit's W is, said of that picture; a rule an instruction. -/
abbrev kV : Type := Int ⊕ (Int ⊕ Option Nat)
abbrev kI (z : Int) : kV := Sum.inl z
abbrev kJ (z : Int) : kV := Sum.inr (Sum.inl z)
abbrev kR (r : Option Nat) : kV := Sum.inr (Sum.inr r)
abbrev kA (a : Nat) : kV := Sum.inr (Sum.inr (some a))
/-- the cells: (kind, length) of each; the numbers; the references -/
abbrev kH : Type := List (Nat × Nat) × (Nat → Int → Int) × (Nat → Int → Option Nat)
abbrev kLs : Type := List (Option kV)
/-- a method: name, bytes, how many locals, what it returns -/
abbrev kMd : Type := MethodName × ByteArray × Nat × Option FieldType
/-- launch, first address, the fixed references, where the classes' fields lie, the arrays' classes, the script -/
abbrev kEnv : Type := Launch × Nat × (Nat → Value) × va_G × (ClassId × ClassId × ClassId) × (Nat × (Nat → Int))
abbrev kl (E : kEnv) : Launch := E.1
abbrev kb (E : kEnv) : Nat := E.2.1
abbrev ksv (E : kEnv) : Nat → Value := E.2.2.1
abbrev kD (E : kEnv) : va_G := E.2.2.2.1
abbrev kcI (E : kEnv) : ClassId := E.2.2.2.2.1.1
abbrev kcC (E : kEnv) : ClassId := E.2.2.2.2.1.2.1
abbrev kcS (E : kEnv) : ClassId := E.2.2.2.2.1.2.2
abbrev kX (E : kEnv) : Nat × (Nat → Int) := E.2.2.2.2.2
abbrev vwCl : List vw_C := [(RX0, TX0, 2), (RX1, TX1, 7), (RX2, TX2, 10), (RX3, TX3, 2), (RX4, TX4, 3), (RX5, TX5, 3), (RX6, TX6, 7), (RX7, TX7, 14)]
/-- which fields are references -/
def k_fr (ci k : Nat) : Bool := match ci with
  | 0 => decide (k < 2)
  | 1 => decide (k < 6)
  | 2 => decide (k < 5)
  | 3 => decide (k < 1)
  | 4 => decide (k < 1)
  | 5 => decide (k < 2)
  | 6 => decide (k < 7)
  | _ => decide (k ≠ 1 ∧ k ≠ 7 ∧ k ≠ 9 ∧ k ≠ 10)
def k_u {α : Type} (f : Nat → Int → α) (a : Nat) (i : Int) (v : α) : Nat → Int → α := fun b j => if b = a ∧ j = i then v else f b j
/-- the fixed arrays of ints and of bytes -/
def k_LEAST : List Int := [0, 1, 1, 0, 1, 1, 1, 1, 1, 1]
def k_MOST : List Int := [3, 20, 20, 60, 20, 40, 60, 20, 9, 30]
def k_FT : List Int := [98, 48, 44, 54, 44, 52, 44, 48, 59, 98, 48, 44, 57, 44, 55, 44, 50, 59, 98, 49, 44, 53, 44, 57, 44, 48, 59, 98, 50, 44, 52, 44, 53, 44, 49, 59, 98, 51, 44, 49, 53, 44, 51, 44, 52, 59, 98, 48, 44, 49, 50, 44, 54, 44, 56, 59, 116, 54, 44, 56, 44, 57, 59, 116, 49, 48, 44, 54, 44, 49, 50, 59, 116, 55, 44, 57, 44, 54, 59, 107, 56, 44, 51, 59, 102, 54, 59]
def k_sta (X : Nat × (Nat → Int)) (j : Nat) : Nat × (Nat → Int) := match j with
  | 0 => (10, fun i => k_LEAST.getD i 0)
  | 1 => (10, fun i => k_MOST.getD i 0)
  | _ => X
def k_in (z : Int) : Prop := -2147483648 ≤ z ∧ z ≤ 2147483647
def k_in64 (z : Int) : Prop := -9223372036854775808 ≤ z ∧ z ≤ 9223372036854775807
def k_rv (E : kEnv) : kV → Value
  | .inl z => .int (Int32.ofInt z)
  | .inr (.inl z) => .long (Int64.ofInt z)
  | .inr (.inr none) => .null
  | .inr (.inr (some a)) => if a < 1000000 then .ref (kb E + a) else ksv E (a - 1000000)
def k_ok : kV → Prop
  | .inl z => k_in z
  | .inr (.inl z) => k_in64 z
  | .inr (.inr _) => True
/-- of one word of the stack -/
def k_one : kV → Prop
  | .inr (.inl _) => False
  | _ => True
def k_wd : kV → Nat
  | .inr (.inl _) => 2
  | _ => 1
def k_okH (X : Nat × (Nat → Int)) (h : kH) : Prop := (∀ a i, k_in (h.2.1 a i)) ∧ (∀ a i x, h.2.2 a i = some x → x < 1000000) ∧ h.1.length < 1000000 ∧ (∀ i, k_in (X.2 i)) ∧ X.1 < 2147483648 ∧ ∀ (a t n : Nat), h.1[a]? = some (t, n) → n < 2147483648
def k_rf (E : kEnv) (r : Option Nat) : Option Nat := r.map (fun a => kb E + a)
def k_fv (E : kEnv) (h : kH) (a t k : Nat) : Value := if k_fr t k = true then va_rf (k_rf E (h.2.2 a k)) else .int (Int32.ofInt (h.2.1 a k))
def k_cell (E : kEnv) (h : kH) (a : Nat) : va_E := match h.1[a]? with
  | none => .inr (0, [])
  | some (t, n) => if t = 100 then .inl (kcI E, n, .inl (fun j : Nat => Int32.ofInt (h.2.1 a j)))
    else if t = 101 then .inl (kcC E, n, .inl (fun j : Nat => Int32.ofInt (h.2.1 a j)))
    else if t = 102 then .inl (kcS E, n, .inr (.inr (.inr (.inr (fun j : Nat => k_rf E (h.2.2 a j))))))
    else .inr (t, (List.range n).map (fun k => k_fv E h a t k))
def k_ws (E : kEnv) (h : kH) : va_W := (List.range h.1.length).map (fun a => (kb E + a, k_cell E h a))
def k_rel (E : kEnv) (h : kH) (H : Heap) : Prop := H.size = kb E + h.1.length ∧ va_P (kD E) vwCl (k_ws E h) H
def k_A (E : kEnv) : Nat → Prop := fun q => kb E ≤ q
abbrev k_tys (E : kEnv) : List (ClassId × FieldType) := [(kcI E, .int), (kcC E, .char), (kcS E, .object RX4)]
def k_nest : List (Nat × String × MethodName) := [(9, RX6, yX5_init), (18, RX6, yX2_init), (25, RX6, yX4_init), (21, RX3, yX4_init), (11, RX0, yX4_init), (70, RX5, yX6_isWithin)]
/-- what stays: the tables' classes, the fixed arrays, the text that the class begins with, private members of nest mates -/
def k_stat (E : kEnv) (U : State) : Prop :=
  va_K (kD E) vwCl (k_tys E) U ∧
  (∀ j : Nat, j < 3 → ∃ t : Nat, ksv E j = .ref t ∧ va_T .int t (k_sta (kX E) j).1 (fun i => .int (Int32.ofInt ((k_sta (kX E) j).2 i))) (k_A E) U U.heap) ∧
  va_Z RX5 "LEAST" "[I" (ksv E 0) (k_A E) U U.heap ∧ va_Z RX5 "MOST" "[I" (ksv E 1) (k_A E) U U.heap ∧
  (∃ ts tv : Nat, ksv E 3 = .ref ts ∧ ksv E 4 = .ref tv ∧ vk_R RX6 58 "b0,6,4,0;b0,9,7,2;b1,5,9,0;b2,4,5,1;b3,15,3,4;b0,12,6,8;t6,8,9;t10,6,12;t7,9,6;k8,3;f6;" ts U ∧ va_O RJ0 ts (k_A E) U U.heap ∧ va_OF RJ0 "coder" "B" (.int 0) ts (k_A E) U U.heap ∧ va_OF RJ0 "value" "[B" (.ref tv) ts (k_A E) U U.heap ∧ va_T .byte tv 87 (fun i => .int (Int32.ofInt (k_FT.getD i 0))) (k_A E) U U.heap) ∧
  va_Z RJ0 "COMPACT_STRINGS" "Z" (.int 1) (k_A E) U U.heap ∧ va_Z RJ3 "SIOOBE_FORMATTER" "Ljava/util/function/BiFunction;" (ksv E 5) (k_A E) U U.heap ∧
  (∀ j : Nat, ksv E j = .null ∨ ∃ t : Nat, ksv E j = .ref t) ∧
  (∀ q ∈ k_nest, va_Nw (.methodLinkNest q.2.1 q.1 q.2.2 RX6) U) ∧ va_AO RX4 U
theorem k_stat_move {E : kEnv} {s U : State} (h : k_stat E s) (hW : s.WarmedH U.vm) (hH : ∀ a : Nat, a < s.heap.size → ¬ k_A E a → U.heap[a]? = s.heap[a]?) : k_stat E U := by
  obtain ⟨h1, h2, h3, h4, ⟨ts, tv, e1, e2, e3, e4, e5, e6, e7⟩, h6, h7, h8, h9, h10⟩ := h
  have hv := hW.alike
  refine ⟨h1.moved hv, fun j hj => ?_, (h3.moved hv).kept hH, (h4.moved hv).kept hH, ⟨ts, tv, e1, e2, e3.warm hW, (e4.moved hv).kept hH, (e5.moved hv).kept hH, (e6.moved hv).kept hH, (e7.moved hv).kept hH⟩, (h6.moved hv).kept hH, (h7.moved hv).kept hH, h8, fun q hq => va_Nw.warmM hW (h9 q hq), h10.moved hv⟩
  obtain ⟨t, a, b⟩ := h2 j hj
  exact ⟨t, a, (b.moved hv).kept hH⟩
theorem k_stat_same {E : kEnv} {s U : State} (h : k_stat E s) (hv : U.vm = s.vm) (hH : U.heap = s.heap) : k_stat E U := by
  obtain ⟨h1, h2, h3, h4, ⟨ts, tv, e1, e2, e3, e4, e5, e6, e7⟩, h6, h7, h8, h9, h10⟩ := h
  have hal : s.vm.Alike U.vm := by rw [hv]; exact Vm.Alike.refl _
  have hk : ∀ a : Nat, a < s.heap.size → ¬ k_A E a → U.heap[a]? = s.heap[a]? := fun a _ _ => by rw [hH]
  refine ⟨h1.moved hal, fun j hj => ?_, (h3.moved hal).kept hk, (h4.moved hal).kept hk, ⟨ts, tv, e1, e2, e3.same hv, (e4.moved hal).kept hk, (e5.moved hal).kept hk, (e6.moved hal).kept hk, (e7.moved hal).kept hk⟩, (h6.moved hal).kept hk, (h7.moved hal).kept hk, h8, fun q hq => va_Nw.same rfl hv.symm (h9 q hq), h10.moved hal⟩
  obtain ⟨t, a, b⟩ := h2 j hj
  exact ⟨t, a, (b.moved hal).kept hk⟩
def k_lr (E : kEnv) (nL : Nat) (L : kLs) (ls : Array Slot) : Prop := ls.size = nL ∧ L.length = nL ∧ lv_wf ls ∧ ∀ (i : Nat) (v : kV), L[i]? = some (some v) → ls[i]? = some (.val (k_rv E v)) ∧ k_ok v
/-- a return, at pc, with the stack S, of r -/
def k_rt (M : kMd) (pc : Nat) (S : List kV) (r : Option kV) : Prop :=
  (∃ (z : Int) (ty : FieldType), S = [kI z] ∧ r = some (kI z) ∧ decode M.2.1 pc = .ok (.ireturn, 1) ∧ M.2.2.2 = some ty ∧ narrow ty (.int (Int32.ofInt z)) = .int (Int32.ofInt z)) ∨
  (S = [] ∧ r = none ∧ decode M.2.1 pc = .ok (.return_, 1) ∧ M.2.2.2 = none)
def k_cx (E : kEnv) (M : kMd) (d : Nat) (p : Program) (R : Room) (s : State) (mm : MethodId) (args : Array Value) (meth : Method) (c : Code) : Prop :=
  p.tables.exec = Jvm.exec ∧ c.code = M.2.1 ∧ c.maxLocals = M.2.2.1 ∧ s.vm.findClass M.1.cls = some mm.cls ∧ (∀ w ∈ k_KT, w.before args s = true) ∧ (M.1.name = "<init>" → meth.name = "<init>") ∧ k_stat E s ∧ d ≤ R.frames ∧ 45 * d ≤ R.locals ∧ kb E ≤ s.heap.size
/-- where a walk stands that ends in a return of r with the cells h2, for which Q holds, and makes at most mc cells of ms slots -/
def kW (E : kEnv) (d mc ms : Nat) (M : kMd) (pc : Nat) (L : kLs) (S : List kV) (h : kH) (Q : Option kV → kH → Prop) : Prop :=
  ∀ (p : Program) (e : Env) (R : Room) (s : State) (mm : MethodId) (args : Array Value) (below : List Frame) (meth : Method) (c : Code) (H : Heap) (ls : Array Slot) (locs : List Loc) (cells slots : Nat) (QQ : State → Prop),
    k_cx E M d p R s mm args meth c → cells + mc ≤ R.cells → slots + ms ≤ R.slots → k_lr E M.2.2.1 L ls → (∀ v ∈ S, k_ok v) → k_okH (kX E) h → k_rel E h H → va_S (k_A E) s.heap H locs →
    (∀ (ls2 : Array Slot) (S2 : List kV) (pc2 : Nat) (h2 : kH) (H2 : Heap) (locs2 : List Loc) (cells2 slots2 : Nat) (r : Option kV), k_rt M pc2 S2 r → Q r h2 → (∀ v ∈ S2, k_ok v) → k_okH (kX E) h2 → k_rel E h2 H2 → va_S (k_A E) s.heap H2 locs2 → cells2 ≤ cells + mc → slots2 ≤ slots + ms →
      W p (kl E) e R s mm args below meth c H2 locs2 cells2 slots2 QQ (F0 mm pc2 ls2 (S2.map (k_rv E)))) →
    W p (kl E) e R s mm args below meth c H locs cells slots QQ (F0 mm pc ls (S.map (k_rv E)))
end
section
/-! rules of the inner machine: constants, locals, stack, arithmetic, branches -/
theorem k_i8 {n : Int} (h1 : -128 ≤ n) (h2 : n ≤ 127) : (Int8.ofInt n).toInt32 = Int32.ofInt n := by
  apply Int32.toInt_inj.mp
  rw [Int8.toInt_toInt32, Int8.toInt_ofInt_of_le (by omega) (by omega), Int32.toInt_ofInt_of_le (by omega) (by omega)]
theorem k_i16 {n : Int} (h1 : -32768 ≤ n) (h2 : n ≤ 32767) : (Int16.ofInt n).toInt32 = Int32.ofInt n := by
  apply Int32.toInt_inj.mp
  rw [Int16.toInt_toInt32, Int16.toInt_ofInt_of_le (by omega) (by omega), Int32.toInt_ofInt_of_le (by omega) (by omega)]
theorem k_ti {z : Int} (h : k_in z) : (Int32.ofInt z).toInt = z := Int32.toInt_ofInt_of_le (by have := h.1; omega) (by have := h.2; omega)
theorem k_tj {z : Int} (h : k_in64 z) : (Int64.ofInt z).toInt = z := Int64.toInt_ofInt_of_le (by have := h.1; omega) (by have := h.2; omega)
theorem k_tc {z : Int} (h : k_in z) : (Int32.ofInt z).toNatClampNeg = z.toNat := Int32.toNatClampNeg_ofInt_of_le (by have := h.1; omega) (by have := h.2; omega)
theorem k_vpin {z : Int} {n : Nat} (h : k_in z) (h0 : 0 ≤ z) (h1 : z < n) : vp_in (Int32.ofInt z) n := vp_in_iff.mpr (by rw [k_ti h]; exact ⟨h0, h1⟩)
theorem k_rng (x : Int32) : k_in x.toInt := by
  have h1 := x.minValue_le_toInt
  have h2 := x.toInt_le
  exact ⟨h1, h2⟩
theorem k_oki {E : kEnv} {j : Nat} {z : Int} (h : k_ok (kI z)) : k_in z := h
theorem k_tl {v : kV} {S : List kV} (h : ∀ w ∈ v :: S, k_ok w) : k_ok v ∧ ∀ w ∈ S, k_ok w := List.forall_mem_cons.mp h
theorem k_consI {z : Int} {S : List kV} (h1 : k_in z) (h2 : ∀ w ∈ S, k_ok w) : ∀ w ∈ kI z :: S, k_ok w := List.forall_mem_cons.mpr ⟨h1, h2⟩
theorem k_consJ {z : Int} {S : List kV} (h1 : k_in64 z) (h2 : ∀ w ∈ S, k_ok w) : ∀ w ∈ kJ z :: S, k_ok w := List.forall_mem_cons.mpr ⟨h1, h2⟩
theorem k_cons {v : kV} {S : List kV} (h1 : k_ok v) (h2 : ∀ w ∈ S, k_ok w) : ∀ w ∈ v :: S, k_ok w := List.forall_mem_cons.mpr ⟨h1, h2⟩
section KW1
variable {E : kEnv} {d mc ms : Nat} {M : kMd} {pc : Nat} {L : kLs} {S : List kV} {h : kH} {Q : Option kV → kH → Prop}
/-- a row that touches the stack and the place alone -/
theorem kw_st {S S2 : List kV} {pc2 : Nat} (hok : (∀ v ∈ S, k_ok v) → ∀ v ∈ S2, k_ok v)
    (row : ∀ (p : Program) (e : Env) (R : Room) (s : State) (mm : MethodId) (args : Array Value) (below : List Frame) (meth : Method) (c : Code) (H : Heap) (ls : Array Slot) (locs : List Loc) (cells slots : Nat) (QQ : State → Prop), k_cx E M d p R s mm args meth c → k_lr E M.2.2.1 L ls → (∀ v ∈ S, k_ok v) → W p (kl E) e R s mm args below meth c H locs cells slots QQ (F0 mm pc2 ls (S2.map (k_rv E))) → W p (kl E) e R s mm args below meth c H locs cells slots QQ (F0 mm pc ls (S.map (k_rv E))))
    (k : kW E d mc ms M pc2 L S2 h Q) : kW E d mc ms M pc L S h Q := by
  intro p e R s mm args below meth c H ls locs cells slots QQ cx g1 g2 hl hS hH hR hV kk
  exact row p e R s mm args below meth c H ls locs cells slots QQ cx hl hS (k p e R s mm args below meth c H ls locs cells slots QQ cx g1 g2 hl (hok hS) hH hR hV kk)
theorem kw_iconst {n : Int} (hd : decode M.2.1 pc = .ok (.iconst n, 1)) (hn : k_in n := by decide) (k : kW E d mc ms M (pc + 1) L (kI n :: S) h Q) : kW E d mc ms M pc L (S) h Q :=
  kw_st (fun hS => k_consI hn hS) (fun p e R s mm args below meth c H ls locs cells slots QQ cx hl hS k => lv_iconst cx.1 cx.2.1 hd rfl k) k
theorem kw_bipush {n : Int} (hd : decode M.2.1 pc = .ok (.bipush n, 2)) (h1 : -128 ≤ n := by decide) (h2 : n ≤ 127 := by decide) (k : kW E d mc ms M (pc + 2) L (kI n :: S) h Q) : kW E d mc ms M pc L (S) h Q :=
  kw_st (fun hS => k_consI ⟨by omega, by omega⟩ hS) (fun p e R s mm args below meth c H ls locs cells slots QQ cx hl hS k => lv_bipush cx.1 cx.2.1 hd (k_i8 h1 h2) k) k
theorem kw_sipush {n : Int} (hd : decode M.2.1 pc = .ok (.sipush n, 3)) (h1 : -32768 ≤ n := by decide) (h2 : n ≤ 32767 := by decide) (k : kW E d mc ms M (pc + 3) L (kI n :: S) h Q) : kW E d mc ms M pc L (S) h Q :=
  kw_st (fun hS => k_consI ⟨by omega, by omega⟩ hS) (fun p e R s mm args below meth c H ls locs cells slots QQ cx hl hS k => lv_sipush cx.1 cx.2.1 hd (k_i16 h1 h2) k) k
theorem kw_lconst0  (hd : decode M.2.1 pc = .ok (.lconst 0, 1)) (k : kW E d mc ms M (pc + 1) L (kJ 0 :: S) h Q) : kW E d mc ms M pc L (S) h Q :=
  kw_st (fun hS => k_consJ ⟨by decide, by decide⟩ hS) (fun p e R s mm args below meth c H ls locs cells slots QQ cx hl hS k => lv_lconst cx.1 cx.2.1 hd rfl k) k
theorem kw_lconst1  (hd : decode M.2.1 pc = .ok (.lconst 1, 1)) (k : kW E d mc ms M (pc + 1) L (kJ 1 :: S) h Q) : kW E d mc ms M pc L (S) h Q :=
  kw_st (fun hS => k_consJ ⟨by decide, by decide⟩ hS) (fun p e R s mm args below meth c H ls locs cells slots QQ cx hl hS k => lv_lconst cx.1 cx.2.1 hd rfl k) k
theorem kw_ldc2 {idx : Nat} {z : Int} (hd : decode M.2.1 pc = .ok (.ldc2_w idx, 3)) (hw : Cond.constantLong M.1.cls idx (Int64.ofInt z) ∈ k_KT) (hz : k_in64 z := by decide) (k : kW E d mc ms M (pc + 3) L (kJ z :: S) h Q) : kW E d mc ms M pc L (S) h Q :=
  kw_st (fun hS => k_consJ hz hS) (fun p e R s mm args below meth c H ls locs cells slots QQ cx hl hS k => lv_ldc2 cx.1 cx.2.1 cx.2.2.2.1 (cx.2.2.2.2.1 _ hw) hd k) k
theorem kw_ldcw {idx : Nat} {z : Int} (hd : decode M.2.1 pc = .ok (.ldc_w idx, 3)) (hw : Cond.constant M.1.cls idx (Int32.ofInt z) ∈ k_KT) (hz : k_in z := by decide) (k : kW E d mc ms M (pc + 3) L (kI z :: S) h Q) : kW E d mc ms M pc L (S) h Q :=
  kw_st (fun hS => k_consI hz hS) (fun p e R s mm args below meth c H ls locs cells slots QQ cx hl hS k => lv_ldcw cx.1 cx.2.1 cx.2.2.2.1 (cx.2.2.2.2.1 _ hw) hd k) k
theorem kw_iload_n {k0 : Fin 4} {x : Int} (hd : decode M.2.1 pc = .ok (.iload_n k0, 1)) (hL : L[(k0 : Nat)]? = some (some (kI x))) (k : kW E d mc ms M (pc + 1) L (kI x :: S) h Q) : kW E d mc ms M pc L S h Q := by
  intro p e R s mm args below meth c H ls locs cells slots QQ cx g1 g2 hl hS hH hR hV kk
  have q := hl.2.2.2 _ _ hL
  have k2 := k p e R s mm args below meth c H ls locs cells slots QQ cx g1 g2 hl (k_cons q.2 hS) hH hR hV kk
  exact lv_iload_n cx.1 cx.2.1 hd rfl q.1 k2
theorem kw_iload {k0 : Nat} {x : Int} (hd : decode M.2.1 pc = .ok (.iload k0, 2)) (hL : L[k0]? = some (some (kI x))) (k : kW E d mc ms M (pc + 2) L (kI x :: S) h Q) : kW E d mc ms M pc L S h Q := by
  intro p e R s mm args below meth c H ls locs cells slots QQ cx g1 g2 hl hS hH hR hV kk
  have q := hl.2.2.2 _ _ hL
  have k2 := k p e R s mm args below meth c H ls locs cells slots QQ cx g1 g2 hl (k_cons q.2 hS) hH hR hV kk
  exact lv_iload cx.1 cx.2.1 hd q.1 k2
theorem kw_lload_n {k0 : Fin 4} {x : Int} (hd : decode M.2.1 pc = .ok (.lload_n k0, 1)) (hL : L[(k0 : Nat)]? = some (some (kJ x))) (k : kW E d mc ms M (pc + 1) L (kJ x :: S) h Q) : kW E d mc ms M pc L S h Q := by
  intro p e R s mm args below meth c H ls locs cells slots QQ cx g1 g2 hl hS hH hR hV kk
  have q := hl.2.2.2 _ _ hL
  have k2 := k p e R s mm args below meth c H ls locs cells slots QQ cx g1 g2 hl (k_cons q.2 hS) hH hR hV kk
  exact lv_lload_n cx.1 cx.2.1 hd rfl q.1 k2
theorem kw_lload {k0 : Nat} {x : Int} (hd : decode M.2.1 pc = .ok (.lload k0, 2)) (hL : L[k0]? = some (some (kJ x))) (k : kW E d mc ms M (pc + 2) L (kJ x :: S) h Q) : kW E d mc ms M pc L S h Q := by
  intro p e R s mm args below meth c H ls locs cells slots QQ cx g1 g2 hl hS hH hR hV kk
  have q := hl.2.2.2 _ _ hL
  have k2 := k p e R s mm args below meth c H ls locs cells slots QQ cx g1 g2 hl (k_cons q.2 hS) hH hR hV kk
  exact lv_lload cx.1 cx.2.1 hd q.1 k2
theorem k_sv {E : kEnv} {s : State} (h : k_stat E s) : ∀ j : Nat, ksv E j = .null ∨ ∃ t : Nat, ksv E j = .ref t := h.2.2.2.2.2.2.2.1
theorem k_rvR {E : kEnv} {s : State} (h : k_stat E s) (r : Option Nat) : k_rv E (kR r) = .null ∨ ∃ t : Nat, k_rv E (kR r) = .ref t := by
  cases r with
  | none => exact Or.inl rfl
  | some a =>
    by_cases ha : a < 1000000
    · exact Or.inr ⟨kb E + a, if_pos ha⟩
    · rcases k_sv h (a - 1000000) with q | ⟨t, q⟩
      · exact Or.inl ((if_neg ha).trans q)
      · exact Or.inr ⟨t, (if_neg ha).trans q⟩
theorem kw_aload_n {k0 : Fin 4} {x : Option Nat} (hd : decode M.2.1 pc = .ok (.aload_n k0, 1)) (hL : L[(k0 : Nat)]? = some (some (kR x))) (k : kW E d mc ms M (pc + 1) L (kR x :: S) h Q) : kW E d mc ms M pc L S h Q := by
  intro p e R s mm args below meth c H ls locs cells slots QQ cx g1 g2 hl hS hH hR hV kk
  have q := hl.2.2.2 _ _ hL
  have k2 := k p e R s mm args below meth c H ls locs cells slots QQ cx g1 g2 hl (k_cons q.2 hS) hH hR hV kk
  rcases k_rvR cx.2.2.2.2.2.2.1 x with z | ⟨t, z⟩
  · have q1 := q.1
    rw [z] at q1
    simp only [List.map_cons, z] at k2
    exact lv_aload_nN cx.1 cx.2.1 hd rfl q1 k2
  · have q1 := q.1
    rw [z] at q1
    simp only [List.map_cons, z] at k2
    exact lv_aload_n cx.1 cx.2.1 hd rfl q1 k2
theorem kw_aload {k0 : Nat} {x : Option Nat} (hd : decode M.2.1 pc = .ok (.aload k0, 2)) (hL : L[k0]? = some (some (kR x))) (k : kW E d mc ms M (pc + 2) L (kR x :: S) h Q) : kW E d mc ms M pc L S h Q := by
  intro p e R s mm args below meth c H ls locs cells slots QQ cx g1 g2 hl hS hH hR hV kk
  have q := hl.2.2.2 _ _ hL
  have k2 := k p e R s mm args below meth c H ls locs cells slots QQ cx g1 g2 hl (k_cons q.2 hS) hH hR hV kk
  rcases k_rvR cx.2.2.2.2.2.2.1 x with z | ⟨t, z⟩
  · have q1 := q.1
    rw [z] at q1
    simp only [List.map_cons, z] at k2
    exact lv_aloadN cx.1 cx.2.1 hd q1 k2
  · have q1 := q.1
    rw [z] at q1
    simp only [List.map_cons, z] at k2
    exact lv_aload cx.1 cx.2.1 hd q1 k2
theorem kw_dupI {x : Int} (hd : decode M.2.1 pc = .ok (.dup, 1)) (k : kW E d mc ms M (pc + 1) L (kI x :: kI x :: S) h Q) : kW E d mc ms M pc L (kI x :: S) h Q :=
  kw_st (fun hS => k_cons (k_tl hS).1 hS) (fun p e R s mm args below meth c H ls locs cells slots QQ cx hl hS k => lv_dup cx.1 cx.2.1 hd rfl k) k
theorem k_cat {E : kEnv} {s : State} (h : k_stat E s) {v : kV} (hv : k_one v) : (k_rv E v).category = 1 := by
  rcases v with z | z | r
  · rfl
  · exact hv.elim
  · rcases k_rvR h r with q | ⟨t, q⟩
    · show (k_rv E (kR r)).category = 1; rw [q]; rfl
    · show (k_rv E (kR r)).category = 1; rw [q]; rfl
theorem kw_dup {v : kV} (hd : decode M.2.1 pc = .ok (.dup, 1)) (hv : k_one v) (k : kW E d mc ms M (pc + 1) L (v :: v :: S) h Q) : kW E d mc ms M pc L (v :: S) h Q :=
  kw_st (fun hS => k_cons (k_tl hS).1 hS) (fun p e R s mm args below meth c H ls locs cells slots QQ cx hl hS k => lv_dup cx.1 cx.2.1 hd (k_cat cx.2.2.2.2.2.2.1 hv) k) k
theorem kw_pop {v : kV} (hd : decode M.2.1 pc = .ok (.pop, 1)) (hv : k_one v) (k : kW E d mc ms M (pc + 1) L (S) h Q) : kW E d mc ms M pc L (v :: S) h Q :=
  kw_st (fun hS => (k_tl hS).2) (fun p e R s mm args below meth c H ls locs cells slots QQ cx hl hS k => lv_pop cx.1 cx.2.1 hd (k_cat cx.2.2.2.2.2.2.1 hv) k) k
theorem kw_dup2 {v w : kV} (hd : decode M.2.1 pc = .ok (.dup2, 1)) (hv : k_one v) (hw : k_one w) (k : kW E d mc ms M (pc + 1) L (v :: w :: v :: w :: S) h Q) : kW E d mc ms M pc L (v :: w :: S) h Q :=
  kw_st (fun hS => k_cons (k_tl hS).1 (k_cons (k_tl (k_tl hS).2).1 hS)) (fun p e R s mm args below meth c H ls locs cells slots QQ cx hl hS k => lv_dup2_11 cx.1 cx.2.1 hd (k_cat cx.2.2.2.2.2.2.1 hv) (k_cat cx.2.2.2.2.2.2.1 hw) k) k
theorem kw_iadd {x y : Int} (hd : decode M.2.1 pc = .ok (.iadd, 1)) (hr : k_in (x + y)) (k : kW E d mc ms M (pc + 1) L (kI (x + y) :: S) h Q) : kW E d mc ms M pc L (kI y :: kI x :: S) h Q :=
  kw_st (fun hS => k_consI hr (k_tl (k_tl hS).2).2) (fun p e R s mm args below meth c H ls locs cells slots QQ cx hl hS k => (by
    have e1 : Int32.ofInt x + Int32.ofInt y = Int32.ofInt (x + y) := (Int32.ofInt_add x y).symm
    refine lv_iadd cx.1 cx.2.1 hd ?_
    rw [e1]
    exact k)) k
theorem kw_isub {x y : Int} (hd : decode M.2.1 pc = .ok (.isub, 1)) (hr : k_in (x - y)) (k : kW E d mc ms M (pc + 1) L (kI (x - y) :: S) h Q) : kW E d mc ms M pc L (kI y :: kI x :: S) h Q :=
  kw_st (fun hS => k_consI hr (k_tl (k_tl hS).2).2) (fun p e R s mm args below meth c H ls locs cells slots QQ cx hl hS k => (by
    have e1 : Int32.ofInt x - Int32.ofInt y = Int32.ofInt (x - y) := (Int32.ofInt_sub x y).symm
    refine lv_isub cx.1 cx.2.1 hd ?_
    rw [e1]
    exact k)) k
theorem kw_imul {x y : Int} (hd : decode M.2.1 pc = .ok (.imul, 1)) (hr : k_in (x * y)) (k : kW E d mc ms M (pc + 1) L (kI (x * y) :: S) h Q) : kW E d mc ms M pc L (kI y :: kI x :: S) h Q :=
  kw_st (fun hS => k_consI hr (k_tl (k_tl hS).2).2) (fun p e R s mm args below meth c H ls locs cells slots QQ cx hl hS k => (by
    have e1 : Int32.ofInt x * Int32.ofInt y = Int32.ofInt (x * y) := (Int32.ofInt_mul x y).symm
    refine lv_imul cx.1 cx.2.1 hd ?_
    rw [e1]
    exact k)) k
theorem kw_iandG {x y z : Int} (hd : decode M.2.1 pc = .ok (.iand, 1)) (hz : k_in z) (he : Int32.ofInt x &&& Int32.ofInt y = Int32.ofInt z) (k : kW E d mc ms M (pc + 1) L (kI z :: S) h Q) : kW E d mc ms M pc L (kI y :: kI x :: S) h Q :=
  kw_st (fun hS => k_consI hz (k_tl (k_tl hS).2).2) (fun p e R s mm args below meth c H ls locs cells slots QQ cx hl hS k => (by
    refine lv_iand cx.1 cx.2.1 hd ?_
    rw [he]
    exact k)) k
theorem kw_iorG {x y z : Int} (hd : decode M.2.1 pc = .ok (.ior, 1)) (hz : k_in z) (he : Int32.ofInt x ||| Int32.ofInt y = Int32.ofInt z) (k : kW E d mc ms M (pc + 1) L (kI z :: S) h Q) : kW E d mc ms M pc L (kI y :: kI x :: S) h Q :=
  kw_st (fun hS => k_consI hz (k_tl (k_tl hS).2).2) (fun p e R s mm args below meth c H ls locs cells slots QQ cx hl hS k => (by
    refine lv_ior cx.1 cx.2.1 hd ?_
    rw [he]
    exact k)) k
theorem kw_ixorG {x y z : Int} (hd : decode M.2.1 pc = .ok (.ixor, 1)) (hz : k_in z) (he : Int32.ofInt x ^^^ Int32.ofInt y = Int32.ofInt z) (k : kW E d mc ms M (pc + 1) L (kI z :: S) h Q) : kW E d mc ms M pc L (kI y :: kI x :: S) h Q :=
  kw_st (fun hS => k_consI hz (k_tl (k_tl hS).2).2) (fun p e R s mm args below meth c H ls locs cells slots QQ cx hl hS k => (by
    refine lv_ixor cx.1 cx.2.1 hd ?_
    rw [he]
    exact k)) k
theorem kw_ishlG {x y z : Int} (hd : decode M.2.1 pc = .ok (.ishl, 1)) (hz : k_in z) (he : Int32.ofInt x <<< (Int32.ofInt y &&& 31) = Int32.ofInt z) (k : kW E d mc ms M (pc + 1) L (kI z :: S) h Q) : kW E d mc ms M pc L (kI y :: kI x :: S) h Q :=
  kw_st (fun hS => k_consI hz (k_tl (k_tl hS).2).2) (fun p e R s mm args below meth c H ls locs cells slots QQ cx hl hS k => (by
    refine lv_ishl cx.1 cx.2.1 hd ?_
    rw [he]
    exact k)) k
theorem kw_ishrG {x y z : Int} (hd : decode M.2.1 pc = .ok (.ishr, 1)) (hz : k_in z) (he : Int32.ofInt x >>> (Int32.ofInt y &&& 31) = Int32.ofInt z) (k : kW E d mc ms M (pc + 1) L (kI z :: S) h Q) : kW E d mc ms M pc L (kI y :: kI x :: S) h Q :=
  kw_st (fun hS => k_consI hz (k_tl (k_tl hS).2).2) (fun p e R s mm args below meth c H ls locs cells slots QQ cx hl hS k => (by
    refine lv_ishr cx.1 cx.2.1 hd ?_
    rw [he]
    exact k)) k
theorem kw_iushrG {x y z : Int} (hd : decode M.2.1 pc = .ok (.iushr, 1)) (hz : k_in z) (he : ((Int32.ofInt x).toUInt32 >>> ((Int32.ofInt y).toUInt32 &&& Int32.toUInt32 31)).toInt32 = Int32.ofInt z) (k : kW E d mc ms M (pc + 1) L (kI z :: S) h Q) : kW E d mc ms M pc L (kI y :: kI x :: S) h Q :=
  kw_st (fun hS => k_consI hz (k_tl (k_tl hS).2).2) (fun p e R s mm args below meth c H ls locs cells slots QQ cx hl hS k => lv_iushr cx.1 cx.2.1 hd he k) k
theorem hq {x y : Int} (hx : k_in x) (hm : (x.tdiv y).natAbs ≤ x.natAbs) (h0 : 0 < y) : k_in (x.tdiv y) := by
  have a := hx.1
  have b := hx.2
  rcases Int.lt_or_le x 0 with c | c
  · have e1 : x.tdiv y = -((-x) / y) := by
      have e2 : x = -(-x) := by omega
      rw [e2, Int.neg_tdiv, Int.tdiv_eq_ediv_of_nonneg (by omega)]
      simp
    have e3 : 0 ≤ (-x) / y := Int.ediv_nonneg (by omega) (by omega)
    exact ⟨by omega, by omega⟩
  · have e1 : x.tdiv y = x / y := Int.tdiv_eq_ediv_of_nonneg c
    have e3 : 0 ≤ x / y := Int.ediv_nonneg c (by omega)
    exact ⟨by omega, by omega⟩
theorem k_div {x y : Int} (hx : k_in x) (hy : k_in y) (h0 : 0 < y) : Int32.ofInt x / Int32.ofInt y = Int32.ofInt (x.tdiv y) := by
  apply Int32.toInt_inj.mp
  have hm : (x.tdiv y).natAbs ≤ x.natAbs := Int.natAbs_tdiv_le_natAbs x y
  have hn : Int32.ofInt y ≠ -1 := by
    intro q
    have q2 := congrArg Int32.toInt q
    rw [k_ti hy] at q2
    rw [q2] at h0
    exact absurd h0 (by decide)
  rw [Int32.toInt_div_of_ne_right _ _ hn, k_ti hx, k_ti hy]
  rw [k_ti (z := x.tdiv y) (hq hx hm h0)]
theorem kw_idiv {x y : Int} (hd : decode M.2.1 pc = .ok (.idiv, 1)) (h0 : 0 ≤ x) (h1 : 0 < y) (k : kW E d mc ms M (pc + 1) L (kI (x / y) :: S) h Q) : kW E d mc ms M pc L (kI y :: kI x :: S) h Q :=
  kw_st (fun hS => k_consI (by
    have a : k_in x := (k_tl (k_tl hS).2).1
    have e3 : 0 ≤ x / y := Int.ediv_nonneg h0 (by omega)
    have e4 : x / y ≤ x := Int.ediv_le_self y h0
    exact ⟨by have := a.1; omega, by have := a.2; omega⟩) (k_tl (k_tl hS).2).2) (fun p e R s mm args below meth c H ls locs cells slots QQ cx hl hS k => (by
    have hy : k_in y := (k_tl hS).1
    have hx : k_in x := (k_tl (k_tl hS).2).1
    have hne : ¬ Int32.ofInt y = 0 := fun q => by
      have q2 := congrArg Int32.toInt q
      rw [k_ti hy, Int32.toInt_zero] at q2
      omega
    refine lv_idiv cx.1 cx.2.1 hd hne ?_
    rw [k_div hx hy h1, Int.tdiv_eq_ediv_of_nonneg h0]
    exact k)) k
theorem kw_irem {x y : Int} (hd : decode M.2.1 pc = .ok (.irem, 1)) (h0 : 0 ≤ x) (h1 : 0 < y) (k : kW E d mc ms M (pc + 1) L (kI (x % y) :: S) h Q) : kW E d mc ms M pc L (kI y :: kI x :: S) h Q :=
  kw_st (fun hS => k_consI (by
    have a : k_in y := (k_tl hS).1
    have e3 : 0 ≤ x % y := Int.emod_nonneg x (by omega)
    have e4 : x % y < y := Int.emod_lt_of_pos x h1
    exact ⟨by have := a.1; omega, by have := a.2; omega⟩) (k_tl (k_tl hS).2).2) (fun p e R s mm args below meth c H ls locs cells slots QQ cx hl hS k => (by
    have hy : k_in y := (k_tl hS).1
    have hx : k_in x := (k_tl (k_tl hS).2).1
    have hne : ¬ Int32.ofInt y = 0 := fun q => by
      have q2 := congrArg Int32.toInt q
      rw [k_ti hy, Int32.toInt_zero] at q2
      omega
    refine lv_irem cx.1 cx.2.1 hd hne ?_
    have e1 : Int32.ofInt x - Int32.ofInt x / Int32.ofInt y * Int32.ofInt y = Int32.ofInt (x % y) := by
      rw [k_div hx hy h1, Int.tdiv_eq_ediv_of_nonneg h0, ← Int32.ofInt_mul, ← Int32.ofInt_sub]
      congr 1
      have := Int.emod_def x y
      rw [this, Int.mul_comm]
    rw [e1]
    exact k)) k
theorem kw_ladd {x y : Int} (hd : decode M.2.1 pc = .ok (.ladd, 1)) (hr : k_in64 (x + y)) (k : kW E d mc ms M (pc + 1) L (kJ (x + y) :: S) h Q) : kW E d mc ms M pc L (kJ y :: kJ x :: S) h Q :=
  kw_st (fun hS => k_consJ hr (k_tl (k_tl hS).2).2) (fun p e R s mm args below meth c H ls locs cells slots QQ cx hl hS k => (by
    refine lv_ladd cx.1 cx.2.1 hd ?_
    rw [← Int64.ofInt_add]
    exact k)) k
theorem kw_lmul {x y : Int} (hd : decode M.2.1 pc = .ok (.lmul, 1)) (hr : k_in64 (x * y)) (k : kW E d mc ms M (pc + 1) L (kJ (x * y) :: S) h Q) : kW E d mc ms M pc L (kJ y :: kJ x :: S) h Q :=
  kw_st (fun hS => k_consJ hr (k_tl (k_tl hS).2).2) (fun p e R s mm args below meth c H ls locs cells slots QQ cx hl hS k => (by
    refine lv_lmul cx.1 cx.2.1 hd ?_
    rw [← Int64.ofInt_mul]
    exact k)) k
theorem k_ldivE {x y : Int} (hx : k_in64 x) (hy : k_in64 y) (h0 : 0 ≤ x) (h1 : 0 < y) : Int64.ofInt x / Int64.ofInt y = Int64.ofInt (x / y) := by
  apply Int64.toInt_inj.mp
  have hn : Int64.ofInt y ≠ -1 := by
    intro q
    have q2 := congrArg Int64.toInt q
    rw [k_tj hy] at q2
    rw [q2] at h1
    exact absurd h1 (by decide)
  have e3 : 0 ≤ x / y := Int.ediv_nonneg h0 (by omega)
  have e4 : x / y ≤ x := Int.ediv_le_self y h0
  have a := hx.2
  rw [Int64.toInt_div_of_ne_right _ _ hn, k_tj hx, k_tj hy, Int.tdiv_eq_ediv_of_nonneg h0, k_tj ⟨by omega, by omega⟩]
theorem k_lne {y : Int} (hy : k_in64 y) (h1 : 0 < y) : ¬ Int64.ofInt y = 0 := fun q => by
  have q2 := congrArg Int64.toInt q
  rw [k_tj hy, Int64.toInt_zero] at q2
  omega
theorem kw_ldiv {x y : Int} (hd : decode M.2.1 pc = .ok (.ldiv, 1)) (h0 : 0 ≤ x) (h1 : 0 < y) (k : kW E d mc ms M (pc + 1) L (kJ (x / y) :: S) h Q) : kW E d mc ms M pc L (kJ y :: kJ x :: S) h Q :=
  kw_st (fun hS => k_consJ (by
    have a : k_in64 x := (k_tl (k_tl hS).2).1
    have e3 : 0 ≤ x / y := Int.ediv_nonneg h0 (by omega)
    have e4 : x / y ≤ x := Int.ediv_le_self y h0
    exact ⟨by have := a.1; omega, by have := a.2; omega⟩) (k_tl (k_tl hS).2).2) (fun p e R s mm args below meth c H ls locs cells slots QQ cx hl hS k => (by
    have hy : k_in64 y := (k_tl hS).1
    have hx : k_in64 x := (k_tl (k_tl hS).2).1
    refine lv_ldiv cx.1 cx.2.1 hd (k_lne hy h1) ?_
    rw [k_ldivE hx hy h0 h1]
    exact k)) k
theorem kw_lrem {x y : Int} (hd : decode M.2.1 pc = .ok (.lrem, 1)) (h0 : 0 ≤ x) (h1 : 0 < y) (k : kW E d mc ms M (pc + 1) L (kJ (x % y) :: S) h Q) : kW E d mc ms M pc L (kJ y :: kJ x :: S) h Q :=
  kw_st (fun hS => k_consJ (by
    have a : k_in64 y := (k_tl hS).1
    have e3 : 0 ≤ x % y := Int.emod_nonneg x (by omega)
    have e4 : x % y < y := Int.emod_lt_of_pos x h1
    exact ⟨by have := a.1; omega, by have := a.2; omega⟩) (k_tl (k_tl hS).2).2) (fun p e R s mm args below meth c H ls locs cells slots QQ cx hl hS k => (by
    have hy : k_in64 y := (k_tl hS).1
    have hx : k_in64 x := (k_tl (k_tl hS).2).1
    refine lv_lrem cx.1 cx.2.1 hd (k_lne hy h1) ?_
    have e1 : Int64.ofInt x - Int64.ofInt x / Int64.ofInt y * Int64.ofInt y = Int64.ofInt (x % y) := by
      rw [k_ldivE hx hy h0 h1, ← Int64.ofInt_mul, ← Int64.ofInt_sub]
      congr 1
      have := Int.emod_def x y
      rw [this, Int.mul_comm]
    rw [e1]
    exact k)) k
theorem kw_i2l {x : Int} (hd : decode M.2.1 pc = .ok (.i2l, 1)) (k : kW E d mc ms M (pc + 1) L (kJ x :: S) h Q) : kW E d mc ms M pc L (kI x :: S) h Q :=
  kw_st (fun hS => k_consJ (by
    have a : k_in x := (k_tl hS).1
    exact ⟨by have := a.1; omega, by have := a.2; omega⟩) (k_tl hS).2) (fun p e R s mm args below meth c H ls locs cells slots QQ cx hl hS k => (by
    have hx : k_in x := (k_tl hS).1
    refine lv_i2l cx.1 cx.2.1 hd (v := Int64.ofInt x) ?_ k
    apply Int64.toInt_inj.mp
    rw [Int32.toInt_toInt64, k_ti hx, k_tj ⟨by have := hx.1; omega, by have := hx.2; omega⟩])) k
theorem kw_l2i {x : Int} (hd : decode M.2.1 pc = .ok (.l2i, 1)) (hr : k_in x) (k : kW E d mc ms M (pc + 1) L (kI x :: S) h Q) : kW E d mc ms M pc L (kJ x :: S) h Q :=
  kw_st (fun hS => k_consI hr (k_tl hS).2) (fun p e R s mm args below meth c H ls locs cells slots QQ cx hl hS k => (by
    refine lv_l2i cx.1 cx.2.1 hd (v := Int32.ofInt x) ?_ k
    rw [Int64.toInt32_ofInt])) k
theorem kw_i2c {x : Int} (hd : decode M.2.1 pc = .ok (.i2c, 1)) (h0 : 0 ≤ x) (h1 : x < 65536) (k : kW E d mc ms M (pc + 1) L (kI x :: S) h Q) : kW E d mc ms M pc L (kI x :: S) h Q :=
  kw_st (fun hS => hS) (fun p e R s mm args below meth c H ls locs cells slots QQ cx hl hS k => (by
    refine lv_i2c cx.1 cx.2.1 hd (v := Int32.ofInt x) ?_ k
    obtain ⟨n, rfl⟩ := Int.eq_ofNat_of_zero_le h0
    rw [Int32.ofInt_eq_ofNat]
    have hn : n < 65536 := by omega
    have := pk_char (nI n)
    rw [pk_tn (by omega), Nat.mod_eq_of_lt hn] at this
    exact this)) k
theorem k_eqi {x y : Int} (hx : k_in x) (hy : k_in y) : Int32.ofInt x = Int32.ofInt y ↔ x = y := ⟨fun q => by have := congrArg Int32.toInt q; rwa [k_ti hx, k_ti hy] at this, fun q => by rw [q]⟩
theorem k_lei {x y : Int} (hx : k_in x) (hy : k_in y) : Int32.ofInt x ≤ Int32.ofInt y ↔ x ≤ y := by rw [Int32.le_iff_toInt_le, k_ti hx, k_ti hy]
theorem k_lti {x y : Int} (hx : k_in x) (hy : k_in y) : Int32.ofInt x < Int32.ofInt y ↔ x < y := by rw [Int32.lt_iff_toInt_lt, k_ti hx, k_ti hy]
theorem k_z : (0 : Int32) = Int32.ofInt 0 := rfl
theorem k_in0 : k_in 0 := ⟨by decide, by decide⟩
theorem kw_if_eq {x : Int} {off : Int} {tgt : Nat} (hd : decode M.2.1 pc = .ok (.ifCond .eq off, 3)) (ht : (pc : Int) + off = (tgt : Int)) (kt : x = 0 → kW E d mc ms M tgt L S h Q) (kf : ¬ (x = 0) → kW E d mc ms M (pc + 3) L S h Q) : kW E d mc ms M pc L (kI x :: S) h Q := by
  intro p e R s mm args below meth c H ls locs cells slots QQ cx g1 g2 hl hS hH hR hV kk
  have hx : k_in x := (k_tl hS).1
  have hS2 := (k_tl hS).2
  exact lv_if_eq cx.1 cx.2.1 hd ht (fun q => by rw [k_z] at q; exact kt ((k_eqi hx k_in0).mp q) p e R s mm args below meth c H ls locs cells slots QQ cx g1 g2 hl hS2 hH hR hV kk) (fun q => by rw [k_z] at q; exact kf (fun z => q ((k_eqi hx k_in0).mpr z)) p e R s mm args below meth c H ls locs cells slots QQ cx g1 g2 hl hS2 hH hR hV kk)
theorem kw_icmp_eq {x y : Int} {off : Int} {tgt : Nat} (hd : decode M.2.1 pc = .ok (.if_icmp .eq off, 3)) (ht : (pc : Int) + off = (tgt : Int)) (kt : x = y → kW E d mc ms M tgt L S h Q) (kf : ¬ (x = y) → kW E d mc ms M (pc + 3) L S h Q) : kW E d mc ms M pc L (kI y :: kI x :: S) h Q := by
  intro p e R s mm args below meth c H ls locs cells slots QQ cx g1 g2 hl hS hH hR hV kk
  have hy : k_in y := (k_tl hS).1
  have hx : k_in x := (k_tl (k_tl hS).2).1
  have hS2 := (k_tl (k_tl hS).2).2
  exact lv_icmp_eq cx.1 cx.2.1 hd ht (fun q => by exact kt ((k_eqi hx hy).mp q) p e R s mm args below meth c H ls locs cells slots QQ cx g1 g2 hl hS2 hH hR hV kk) (fun q => by exact kf (fun z => q ((k_eqi hx hy).mpr z)) p e R s mm args below meth c H ls locs cells slots QQ cx g1 g2 hl hS2 hH hR hV kk)
theorem kw_if_ne {x : Int} {off : Int} {tgt : Nat} (hd : decode M.2.1 pc = .ok (.ifCond .ne off, 3)) (ht : (pc : Int) + off = (tgt : Int)) (kt : x ≠ 0 → kW E d mc ms M tgt L S h Q) (kf : ¬ (x ≠ 0) → kW E d mc ms M (pc + 3) L S h Q) : kW E d mc ms M pc L (kI x :: S) h Q := by
  intro p e R s mm args below meth c H ls locs cells slots QQ cx g1 g2 hl hS hH hR hV kk
  have hx : k_in x := (k_tl hS).1
  have hS2 := (k_tl hS).2
  exact lv_if_ne cx.1 cx.2.1 hd ht (fun q => by rw [k_z] at q; exact kt (fun z => q ((k_eqi hx k_in0).mpr z)) p e R s mm args below meth c H ls locs cells slots QQ cx g1 g2 hl hS2 hH hR hV kk) (fun q => by rw [k_z] at q; exact kf (fun z => z ((k_eqi hx k_in0).mp q)) p e R s mm args below meth c H ls locs cells slots QQ cx g1 g2 hl hS2 hH hR hV kk)
theorem kw_icmp_ne {x y : Int} {off : Int} {tgt : Nat} (hd : decode M.2.1 pc = .ok (.if_icmp .ne off, 3)) (ht : (pc : Int) + off = (tgt : Int)) (kt : x ≠ y → kW E d mc ms M tgt L S h Q) (kf : ¬ (x ≠ y) → kW E d mc ms M (pc + 3) L S h Q) : kW E d mc ms M pc L (kI y :: kI x :: S) h Q := by
  intro p e R s mm args below meth c H ls locs cells slots QQ cx g1 g2 hl hS hH hR hV kk
  have hy : k_in y := (k_tl hS).1
  have hx : k_in x := (k_tl (k_tl hS).2).1
  have hS2 := (k_tl (k_tl hS).2).2
  exact lv_icmp_ne cx.1 cx.2.1 hd ht (fun q => by exact kt (fun z => q ((k_eqi hx hy).mpr z)) p e R s mm args below meth c H ls locs cells slots QQ cx g1 g2 hl hS2 hH hR hV kk) (fun q => by exact kf (fun z => z ((k_eqi hx hy).mp q)) p e R s mm args below meth c H ls locs cells slots QQ cx g1 g2 hl hS2 hH hR hV kk)
theorem kw_if_lt {x : Int} {off : Int} {tgt : Nat} (hd : decode M.2.1 pc = .ok (.ifCond .lt off, 3)) (ht : (pc : Int) + off = (tgt : Int)) (kt : x < 0 → kW E d mc ms M tgt L S h Q) (kf : ¬ (x < 0) → kW E d mc ms M (pc + 3) L S h Q) : kW E d mc ms M pc L (kI x :: S) h Q := by
  intro p e R s mm args below meth c H ls locs cells slots QQ cx g1 g2 hl hS hH hR hV kk
  have hx : k_in x := (k_tl hS).1
  have hS2 := (k_tl hS).2
  exact lv_if_lt cx.1 cx.2.1 hd ht (fun q => by rw [k_z] at q; exact kt ((k_lti hx k_in0).mp q) p e R s mm args below meth c H ls locs cells slots QQ cx g1 g2 hl hS2 hH hR hV kk) (fun q => by rw [k_z] at q; exact kf (fun z => q ((k_lti hx k_in0).mpr z)) p e R s mm args below meth c H ls locs cells slots QQ cx g1 g2 hl hS2 hH hR hV kk)
theorem kw_icmp_lt {x y : Int} {off : Int} {tgt : Nat} (hd : decode M.2.1 pc = .ok (.if_icmp .lt off, 3)) (ht : (pc : Int) + off = (tgt : Int)) (kt : x < y → kW E d mc ms M tgt L S h Q) (kf : ¬ (x < y) → kW E d mc ms M (pc + 3) L S h Q) : kW E d mc ms M pc L (kI y :: kI x :: S) h Q := by
  intro p e R s mm args below meth c H ls locs cells slots QQ cx g1 g2 hl hS hH hR hV kk
  have hy : k_in y := (k_tl hS).1
  have hx : k_in x := (k_tl (k_tl hS).2).1
  have hS2 := (k_tl (k_tl hS).2).2
  exact lv_icmp_lt cx.1 cx.2.1 hd ht (fun q => by exact kt ((k_lti hx hy).mp q) p e R s mm args below meth c H ls locs cells slots QQ cx g1 g2 hl hS2 hH hR hV kk) (fun q => by exact kf (fun z => q ((k_lti hx hy).mpr z)) p e R s mm args below meth c H ls locs cells slots QQ cx g1 g2 hl hS2 hH hR hV kk)
theorem kw_if_ge {x : Int} {off : Int} {tgt : Nat} (hd : decode M.2.1 pc = .ok (.ifCond .ge off, 3)) (ht : (pc : Int) + off = (tgt : Int)) (kt : 0 ≤ x → kW E d mc ms M tgt L S h Q) (kf : ¬ (0 ≤ x) → kW E d mc ms M (pc + 3) L S h Q) : kW E d mc ms M pc L (kI x :: S) h Q := by
  intro p e R s mm args below meth c H ls locs cells slots QQ cx g1 g2 hl hS hH hR hV kk
  have hx : k_in x := (k_tl hS).1
  have hS2 := (k_tl hS).2
  exact lv_if_ge cx.1 cx.2.1 hd ht (fun q => by rw [k_z] at q; exact kt ((k_lei k_in0 hx).mp q) p e R s mm args below meth c H ls locs cells slots QQ cx g1 g2 hl hS2 hH hR hV kk) (fun q => by rw [k_z] at q; exact kf (fun z => q ((k_lei k_in0 hx).mpr z)) p e R s mm args below meth c H ls locs cells slots QQ cx g1 g2 hl hS2 hH hR hV kk)
theorem kw_icmp_ge {x y : Int} {off : Int} {tgt : Nat} (hd : decode M.2.1 pc = .ok (.if_icmp .ge off, 3)) (ht : (pc : Int) + off = (tgt : Int)) (kt : y ≤ x → kW E d mc ms M tgt L S h Q) (kf : ¬ (y ≤ x) → kW E d mc ms M (pc + 3) L S h Q) : kW E d mc ms M pc L (kI y :: kI x :: S) h Q := by
  intro p e R s mm args below meth c H ls locs cells slots QQ cx g1 g2 hl hS hH hR hV kk
  have hy : k_in y := (k_tl hS).1
  have hx : k_in x := (k_tl (k_tl hS).2).1
  have hS2 := (k_tl (k_tl hS).2).2
  exact lv_icmp_ge cx.1 cx.2.1 hd ht (fun q => by exact kt ((k_lei hy hx).mp q) p e R s mm args below meth c H ls locs cells slots QQ cx g1 g2 hl hS2 hH hR hV kk) (fun q => by exact kf (fun z => q ((k_lei hy hx).mpr z)) p e R s mm args below meth c H ls locs cells slots QQ cx g1 g2 hl hS2 hH hR hV kk)
theorem kw_if_gt {x : Int} {off : Int} {tgt : Nat} (hd : decode M.2.1 pc = .ok (.ifCond .gt off, 3)) (ht : (pc : Int) + off = (tgt : Int)) (kt : 0 < x → kW E d mc ms M tgt L S h Q) (kf : ¬ (0 < x) → kW E d mc ms M (pc + 3) L S h Q) : kW E d mc ms M pc L (kI x :: S) h Q := by
  intro p e R s mm args below meth c H ls locs cells slots QQ cx g1 g2 hl hS hH hR hV kk
  have hx : k_in x := (k_tl hS).1
  have hS2 := (k_tl hS).2
  exact lv_if_gt cx.1 cx.2.1 hd ht (fun q => by rw [k_z] at q; exact kt ((k_lti k_in0 hx).mp q) p e R s mm args below meth c H ls locs cells slots QQ cx g1 g2 hl hS2 hH hR hV kk) (fun q => by rw [k_z] at q; exact kf (fun z => q ((k_lti k_in0 hx).mpr z)) p e R s mm args below meth c H ls locs cells slots QQ cx g1 g2 hl hS2 hH hR hV kk)
theorem kw_icmp_gt {x y : Int} {off : Int} {tgt : Nat} (hd : decode M.2.1 pc = .ok (.if_icmp .gt off, 3)) (ht : (pc : Int) + off = (tgt : Int)) (kt : y < x → kW E d mc ms M tgt L S h Q) (kf : ¬ (y < x) → kW E d mc ms M (pc + 3) L S h Q) : kW E d mc ms M pc L (kI y :: kI x :: S) h Q := by
  intro p e R s mm args below meth c H ls locs cells slots QQ cx g1 g2 hl hS hH hR hV kk
  have hy : k_in y := (k_tl hS).1
  have hx : k_in x := (k_tl (k_tl hS).2).1
  have hS2 := (k_tl (k_tl hS).2).2
  exact lv_icmp_gt cx.1 cx.2.1 hd ht (fun q => by exact kt ((k_lti hy hx).mp q) p e R s mm args below meth c H ls locs cells slots QQ cx g1 g2 hl hS2 hH hR hV kk) (fun q => by exact kf (fun z => q ((k_lti hy hx).mpr z)) p e R s mm args below meth c H ls locs cells slots QQ cx g1 g2 hl hS2 hH hR hV kk)
theorem kw_if_le {x : Int} {off : Int} {tgt : Nat} (hd : decode M.2.1 pc = .ok (.ifCond .le off, 3)) (ht : (pc : Int) + off = (tgt : Int)) (kt : x ≤ 0 → kW E d mc ms M tgt L S h Q) (kf : ¬ (x ≤ 0) → kW E d mc ms M (pc + 3) L S h Q) : kW E d mc ms M pc L (kI x :: S) h Q := by
  intro p e R s mm args below meth c H ls locs cells slots QQ cx g1 g2 hl hS hH hR hV kk
  have hx : k_in x := (k_tl hS).1
  have hS2 := (k_tl hS).2
  exact lv_if_le cx.1 cx.2.1 hd ht (fun q => by rw [k_z] at q; exact kt ((k_lei hx k_in0).mp q) p e R s mm args below meth c H ls locs cells slots QQ cx g1 g2 hl hS2 hH hR hV kk) (fun q => by rw [k_z] at q; exact kf (fun z => q ((k_lei hx k_in0).mpr z)) p e R s mm args below meth c H ls locs cells slots QQ cx g1 g2 hl hS2 hH hR hV kk)
theorem kw_icmp_le {x y : Int} {off : Int} {tgt : Nat} (hd : decode M.2.1 pc = .ok (.if_icmp .le off, 3)) (ht : (pc : Int) + off = (tgt : Int)) (kt : x ≤ y → kW E d mc ms M tgt L S h Q) (kf : ¬ (x ≤ y) → kW E d mc ms M (pc + 3) L S h Q) : kW E d mc ms M pc L (kI y :: kI x :: S) h Q := by
  intro p e R s mm args below meth c H ls locs cells slots QQ cx g1 g2 hl hS hH hR hV kk
  have hy : k_in y := (k_tl hS).1
  have hx : k_in x := (k_tl (k_tl hS).2).1
  have hS2 := (k_tl (k_tl hS).2).2
  exact lv_icmp_le cx.1 cx.2.1 hd ht (fun q => by exact kt ((k_lei hx hy).mp q) p e R s mm args below meth c H ls locs cells slots QQ cx g1 g2 hl hS2 hH hR hV kk) (fun q => by exact kf (fun z => q ((k_lei hx hy).mpr z)) p e R s mm args below meth c H ls locs cells slots QQ cx g1 g2 hl hS2 hH hR hV kk)
theorem kw_goto {off : Int} {tgt : Nat} (hd : decode M.2.1 pc = .ok (.goto off, 3)) (ht : (pc : Int) + off = (tgt : Int)) (k : kW E d mc ms M tgt L S h Q) : kW E d mc ms M pc L S h Q :=
  kw_st (fun hS => hS) (fun p e R s mm args below meth c H ls locs cells slots QQ cx hl hS k => lv_goto cx.1 cx.2.1 hd ht k) k
theorem kw_ifnullA {a : Nat} (ha : a < 1000000) {off : Int} (hd : decode M.2.1 pc = .ok (.ifnull off, 3)) (k : kW E d mc ms M (pc + 3) L S h Q) : kW E d mc ms M pc L (kA a :: S) h Q :=
  kw_st (fun hS => (k_tl hS).2) (fun p e R s mm args below meth c H ls locs cells slots QQ cx hl hS k => (by
    have z : k_rv E (kA a) = .ref (kb E + a) := if_pos ha
    rw [List.map_cons, z]
    exact lv_ifnull cx.1 cx.2.1 hd k)) k
theorem kw_tblIn {x : Int} {df lo hi : Int} {offs : Array Int} {len : Nat} {off : Int} {tgt : Nat} (hd : decode M.2.1 pc = .ok (.tableswitch df lo hi offs, len)) (h1 : lo ≤ x) (h2 : x ≤ hi) (ho : offs[(x - lo).toNat]? = some off) (ht : (pc : Int) + off = (tgt : Int)) (k : kW E d mc ms M tgt L S h Q) : kW E d mc ms M pc L (kI x :: S) h Q :=
  kw_st (fun hS => (k_tl hS).2) (fun p e R s mm args below meth c H ls locs cells slots QQ cx hl hS k => (by
    have hx : k_in x := (k_tl hS).1
    exact lv_tableIn cx.1 cx.2.1 hd (x := Int32.ofInt x) (by rw [k_ti hx]; omega) (by rw [k_ti hx]; omega) (by rw [k_ti hx]; exact ho) ht k)) k
theorem kw_tblOut {x : Int} {df lo hi : Int} {offs : Array Int} {len : Nat} {tgt : Nat} (hd : decode M.2.1 pc = .ok (.tableswitch df lo hi offs, len)) (h1 : x < lo ∨ hi < x) (ht : (pc : Int) + df = (tgt : Int)) (k : kW E d mc ms M tgt L S h Q) : kW E d mc ms M pc L (kI x :: S) h Q :=
  kw_st (fun hS => (k_tl hS).2) (fun p e R s mm args below meth c H ls locs cells slots QQ cx hl hS k => (by
    have hx : k_in x := (k_tl hS).1
    exact lv_tableOut cx.1 cx.2.1 hd (x := Int32.ofInt x) (by rw [k_ti hx]; exact h1) ht k)) k
theorem kw_look {x : Int} {df : Int} {ps : Array (Int × Int)} {len : Nat} {off : Int} {tgt : Nat} (hd : decode M.2.1 pc = .ok (.lookupswitch df ps, len)) (hp : (ps.toList.zip (ps.toList.drop 1)).all (fun (a, next) => a.1 < next.1) = true) (ho : Op.lookupswitch.offset ps.toList df x = off) (ht : (pc : Int) + off = (tgt : Int)) (k : kW E d mc ms M tgt L S h Q) : kW E d mc ms M pc L (kI x :: S) h Q :=
  kw_st (fun hS => (k_tl hS).2) (fun p e R s mm args below meth c H ls locs cells slots QQ cx hl hS k => (by
    have hx : k_in x := (k_tl hS).1
    exact lv_lookup cx.1 cx.2.1 hd (x := Int32.ofInt x) hp (by rw [k_ti hx]; exact ho) ht k)) k
end KW1
end
section
/-! rules of the inner machine: locals that are stored, fields, arrays, returns -/
def k_lv (E : kEnv) (L : kLs) : List (Nat × Value) := (List.range L.length).filterMap (fun i => match L[i]? with
  | some (some v) => some (i, k_rv E v)
  | _ => none)
theorem k_lv_in {E : kEnv} {L : kLs} {i : Nat} {v : kV} (h : L[i]? = some (some v)) : (i, k_rv E v) ∈ k_lv E L := by
  refine List.mem_filterMap.mpr ⟨i, List.mem_range.mpr (List.getElem?_eq_some_iff.mp h).1, ?_⟩
  rw [h]
theorem k_lv_of {E : kEnv} {L : kLs} {q : Nat × Value} (h : q ∈ k_lv E L) : ∃ v, L[q.1]? = some (some v) ∧ q.2 = k_rv E v := by
  obtain ⟨i, -, hi⟩ := List.mem_filterMap.mp h
  cases hL : L[i]? with
  | none => rw [hL] at hi; cases hi
  | some w =>
    cases w with
    | none => rw [hL] at hi; cases hi
    | some v => rw [hL] at hi; cases hi; exact ⟨v, hL, rfl⟩
theorem k_lr_has {E : kEnv} {nL : Nat} {L : kLs} {ls : Array Slot} (h : k_lr E nL L ls) : lv_has ls nL (k_lv E L) := by
  refine ⟨h.1, h.2.2.1, fun q hq => ?_⟩
  obtain ⟨v, h1, h2⟩ := k_lv_of hq
  rw [h2]
  exact (h.2.2.2 _ _ h1).1
/-- no long begins just below i -/
def k_nl (L : kLs) (i : Nat) : Prop := match i with
  | 0 => True
  | j + 1 => match L[j]? with
    | some (some (.inr (.inl _))) => False
    | _ => True
theorem k_nl_one {L : kLs} {j : Nat} {v : kV} (h : k_nl L (j + 1)) (hv : L[j]? = some (some v)) : k_one v := by
  simp only [k_nl, hv] at h
  rcases v with z | z | r
  · trivial
  · exact h.elim
  · trivial
theorem k_lr_set1 {E : kEnv} {s : State} (hs : k_stat E s) {nL : Nat} {L : kLs} {ls ls2 : Array Slot} (h : k_lr E nL L ls) {i : Nat} {v : kV} (hv : k_ok v) (hn : k_nl L i)
    (h2 : lv_has ls2 nL ((i, k_rv E v) :: (k_lv E L).filter (fun q => !(q.1 == i) && !(q.1 + 1 == i && q.2.category == 2)))) : k_lr E nL (L.set i (some v)) ls2 := by
  refine ⟨h2.1, by rw [List.length_set]; exact h.2.1, h2.2.1, fun j w hj => ?_⟩
  by_cases hji : j = i
  · subst hji
    have hlt := (List.getElem?_eq_some_iff.mp hj).1
    rw [List.length_set] at hlt
    rw [List.getElem?_set_self hlt] at hj
    cases hj
    exact ⟨h2.2.2 _ List.mem_cons_self, hv⟩
  · rw [List.getElem?_set_ne (Ne.symm hji)] at hj
    refine ⟨h2.2.2 (j, k_rv E w) (List.mem_cons_of_mem _ (List.mem_filter.mpr ⟨k_lv_in hj, ?_⟩)), (h.2.2.2 _ _ hj).2⟩
    have e1 : (j == i) = false := by simp [hji]
    by_cases hj1 : j + 1 = i
    · subst hj1
      have := k_cat hs (k_nl_one hn hj)
      simp [this]
    · have e2 : (j + 1 == i) = false := by simp [hj1]
      simp [e1, e2]
theorem k_lr_set2 {E : kEnv} {s : State} (hs : k_stat E s) {nL : Nat} {L : kLs} {ls ls2 : Array Slot} (h : k_lr E nL L ls) {i : Nat} {v : kV} (hv : k_ok v) (hn : k_nl L i)
    (h2 : lv_has ls2 nL ((i, k_rv E v) :: (k_lv E L).filter (fun q => !(q.1 == i) && (!(q.1 == i + 1) && !(q.1 + 1 == i && q.2.category == 2))))) : k_lr E nL ((L.set i (some v)).set (i + 1) none) ls2 := by
  refine ⟨h2.1, by rw [List.length_set, List.length_set]; exact h.2.1, h2.2.1, fun j w hj => ?_⟩
  by_cases hj2 : j = i + 1
  · subst hj2
    have hlt := (List.getElem?_eq_some_iff.mp hj).1
    rw [List.length_set] at hlt
    rw [List.getElem?_set_self hlt] at hj
    cases hj
  · rw [List.getElem?_set_ne (Ne.symm hj2)] at hj
    by_cases hji : j = i
    · subst hji
      have hlt := (List.getElem?_eq_some_iff.mp hj).1
      rw [List.length_set] at hlt
      rw [List.getElem?_set_self hlt] at hj
      cases hj
      exact ⟨h2.2.2 _ List.mem_cons_self, hv⟩
    · rw [List.getElem?_set_ne (Ne.symm hji)] at hj
      refine ⟨h2.2.2 (j, k_rv E w) (List.mem_cons_of_mem _ (List.mem_filter.mpr ⟨k_lv_in hj, ?_⟩)), (h.2.2.2 _ _ hj).2⟩
      have e1 : (j == i) = false := by simp [hji]
      have e3 : (j == i + 1) = false := by simp [hj2]
      by_cases hj1 : j + 1 = i
      · subst hj1
        have := k_cat hs (k_nl_one hn hj)
        simp [this]
        omega
      · have e2 : (j + 1 == i) = false := by simp [hj1]
        simp [e1, e2, e3]
section KW2
variable {E : kEnv} {d mc ms : Nat} {M : kMd} {pc : Nat} {L L2 : kLs} {S : List kV} {h : kH} {Q : Option kV → kH → Prop}
theorem kw_istore_n {k0 : Fin 4} {x : Int} (hd : decode M.2.1 pc = .ok (.istore_n k0, 1)) (hi : (k0 : Nat) < M.2.2.1) (hn : k_nl L k0) (hL : L.set k0 (some (kI x)) = L2) (k : kW E d mc ms M (pc + 1) L2 S h Q) : kW E d mc ms M pc L (kI x :: S) h Q := by
  intro p e R s mm args below meth c H ls locs cells slots QQ cx g1 g2 hl hS hH hR hV kk
  subst hL
  exact lv_istore_n cx.1 cx.2.1 hd rfl (k_lr_has hl) hi rfl (fun ls2 h2 => k p e R s mm args below meth c H ls2 locs cells slots QQ cx g1 g2 (k_lr_set1 (v := kI x) cx.2.2.2.2.2.2.1 hl (k_tl hS).1 hn h2) (k_tl hS).2 hH hR hV kk)
theorem kw_istore {k0 : Nat} {x : Int} (hd : decode M.2.1 pc = .ok (.istore k0, 2)) (hi : k0 < M.2.2.1) (hn : k_nl L k0) (hL : L.set k0 (some (kI x)) = L2) (k : kW E d mc ms M (pc + 2) L2 S h Q) : kW E d mc ms M pc L (kI x :: S) h Q := by
  intro p e R s mm args below meth c H ls locs cells slots QQ cx g1 g2 hl hS hH hR hV kk
  subst hL
  exact lv_istore cx.1 cx.2.1 hd (k_lr_has hl) hi rfl (fun ls2 h2 => k p e R s mm args below meth c H ls2 locs cells slots QQ cx g1 g2 (k_lr_set1 (v := kI x) cx.2.2.2.2.2.2.1 hl (k_tl hS).1 hn h2) (k_tl hS).2 hH hR hV kk)
theorem kw_lstore_n {k0 : Fin 4} {x : Int} (hd : decode M.2.1 pc = .ok (.lstore_n k0, 1)) (hi : (k0 : Nat) + 1 < M.2.2.1) (hn : k_nl L k0) (hL : (L.set k0 (some (kJ x))).set (k0 + 1) none = L2) (k : kW E d mc ms M (pc + 1) L2 S h Q) : kW E d mc ms M pc L (kJ x :: S) h Q := by
  intro p e R s mm args below meth c H ls locs cells slots QQ cx g1 g2 hl hS hH hR hV kk
  subst hL
  exact lv_lstore_n cx.1 cx.2.1 hd rfl (k_lr_has hl) hi rfl (fun ls2 h2 => k p e R s mm args below meth c H ls2 locs cells slots QQ cx g1 g2 (k_lr_set2 (v := kJ x) cx.2.2.2.2.2.2.1 hl (k_tl hS).1 hn h2) (k_tl hS).2 hH hR hV kk)
theorem kw_lstore {k0 : Nat} {x : Int} (hd : decode M.2.1 pc = .ok (.lstore k0, 2)) (hi : k0 + 1 < M.2.2.1) (hn : k_nl L k0) (hL : (L.set k0 (some (kJ x))).set (k0 + 1) none = L2) (k : kW E d mc ms M (pc + 2) L2 S h Q) : kW E d mc ms M pc L (kJ x :: S) h Q := by
  intro p e R s mm args below meth c H ls locs cells slots QQ cx g1 g2 hl hS hH hR hV kk
  subst hL
  exact lv_lstore cx.1 cx.2.1 hd (k_lr_has hl) hi rfl (fun ls2 h2 => k p e R s mm args below meth c H ls2 locs cells slots QQ cx g1 g2 (k_lr_set2 (v := kJ x) cx.2.2.2.2.2.2.1 hl (k_tl hS).1 hn h2) (k_tl hS).2 hH hR hV kk)
theorem kw_astore_n {k0 : Fin 4} {a : Nat} (hd : decode M.2.1 pc = .ok (.astore_n k0, 1)) (ha : a < 1000000) (hi : (k0 : Nat) < M.2.2.1) (hn : k_nl L k0) (hL : L.set k0 (some (kA a)) = L2) (k : kW E d mc ms M (pc + 1) L2 S h Q) : kW E d mc ms M pc L (kA a :: S) h Q := by
  intro p e R s mm args below meth c H ls locs cells slots QQ cx g1 g2 hl hS hH hR hV kk
  subst hL
  have z : k_rv E (kA a) = .ref (kb E + a) := if_pos ha
  have z2 := @k_lr_set1 E s cx.2.2.2.2.2.2.1 M.2.2.1 L ls
  rw [List.map_cons, z]
  exact lv_astore_n cx.1 cx.2.1 hd rfl (k_lr_has hl) hi rfl (fun ls2 h2 => k p e R s mm args below meth c H ls2 locs cells slots QQ cx g1 g2 (z2 (v := kA a) hl trivial hn (by rw [z]; exact h2)) (k_tl hS).2 hH hR hV kk)
theorem kw_iinc {k0 : Nat} {x n : Int} (hd : decode M.2.1 pc = .ok (.iinc k0 n, 3)) (hi : k0 < M.2.2.1) (hx : L[k0]? = some (some (kI x))) (hr : k_in (x + n)) (hn : k_nl L k0) (hL : L.set k0 (some (kI (x + n))) = L2) (k : kW E d mc ms M (pc + 3) L2 S h Q) : kW E d mc ms M pc L S h Q := by
  intro p e R s mm args below meth c H ls locs cells slots QQ cx g1 g2 hl hS hH hR hV kk
  subst hL
  have h0 := k_lr_has hl
  have h1 : lv_has ls M.2.2.1 ((k0, .int (Int32.ofInt x)) :: k_lv E L) := ⟨h0.1, h0.2.1, List.forall_mem_cons.mpr ⟨(hl.2.2.2 _ _ hx).1, h0.2.2⟩⟩
  refine lv_iinc (v := Int32.ofInt (x + n)) cx.1 cx.2.1 hd h1 (k := 0) rfl (Int32.ofInt_add x n).symm hi rfl (fun ls2 h2 => k p e R s mm args below meth c H ls2 locs cells slots QQ cx g1 g2 (k_lr_set1 (v := kI (x + n)) cx.2.2.2.2.2.2.1 hl hr hn ?_) hS hH hR hV kk)
  refine ⟨h2.1, h2.2.1, fun q hq => h2.2.2 q ?_⟩
  rcases List.mem_cons.mp hq with z | z
  · exact List.mem_cons.mpr (Or.inl z)
  · obtain ⟨z1, z2⟩ := List.mem_filter.mp z
    exact List.mem_cons_of_mem _ (List.mem_filter.mpr ⟨List.mem_cons_of_mem _ z1, z2⟩)
end KW2
/-! the cells -/
theorem k_ws_at {E : kEnv} {h : kH} {a : Nat} (ha : a < h.1.length) : (k_ws E h)[a]? = some (kb E + a, k_cell E h a) := by
  unfold k_ws
  rw [List.getElem?_map, List.getElem?_range ha]
  rfl
theorem k_lt {h : kH} {a : Nat} {x : Nat × Nat} (hm : h.1[a]? = some x) : a < h.1.length := (List.getElem?_eq_some_iff.mp hm).1
theorem k_rvA {E : kEnv} {X : Nat × (Nat → Int)} {h : kH} {a : Nat} {x : Nat × Nat} (hH : k_okH X h) (hm : h.1[a]? = some x) : k_rv E (kA a) = .ref (kb E + a) := if_pos (Nat.lt_trans (k_lt hm) hH.2.2.1)
theorem k_rv_rf {E : kEnv} {r : Option Nat} (h : ∀ x, r = some x → x < 1000000) : k_rv E (kR r) = va_rf (k_rf E r) := by
  cases r with
  | none => rfl
  | some a => exact if_pos (h a rfl)
theorem k_ws_set {E : kEnv} {h h2 : kH} {a : Nat} {e : va_E} (hm : h2.1 = h.1) (hc : k_cell E h2 a = e) (ho : ∀ b : Nat, b ≠ a → k_cell E h2 b = k_cell E h b) : (k_ws E h).set a (kb E + a, e) = k_ws E h2 := by
  apply List.ext_getElem?
  intro i
  by_cases hi : i < h.1.length
  · rw [k_ws_at (h := h2) (by rw [hm]; exact hi)]
    by_cases hia : i = a
    · subst hia
      rw [List.getElem?_set_self (by simp [k_ws]; exact hi), hc]
    · rw [List.getElem?_set_ne (Ne.symm hia), k_ws_at hi, ho i hia]
  · rw [List.getElem?_eq_none (by simp [k_ws]; omega), List.getElem?_eq_none (by simp [k_ws, hm]; omega)]
theorem k_wsD {E : kEnv} {h : kH} : va_D (k_A E) (k_ws E h) := by
  have key : ∀ (k : Nat) (q : Nat × va_E), (k_ws E h)[k]? = some q → q.1 = kb E + k := by
    intro k q hq
    have hk : k < h.1.length := by
      have := (List.getElem?_eq_some_iff.mp hq).1
      simpa [k_ws] using this
    rw [k_ws_at hk] at hq
    cases hq
    rfl
  refine ⟨fun i j p q hi hj e => ?_, fun k q hk => ?_⟩
  · have a := key i p hi
    have b := key j q hj
    omega
  · have a := key k q hk
    show kb E ≤ q.1
    omega
/-- a field that is read -/
def k_fldr (own : String) (idx ci k N : Nat) : Prop := ∃ (C : String) (T : u_T), vwCl[ci]? = some (C, T, N) ∧ (∀ w ∈ u_ws C T N, w ∈ k_KT) ∧ k < N ∧ Cond.fieldLink own idx (T k).1 (T k).2.1 (T k).2.2.1 ∈ k_KT
/-- a field, by its place in the class's own table -/
def k_fld (own : String) (idx ci k N : Nat) (fin : Bool) : Prop := ∃ (C : String) (T : u_T) (ty : Nat → FieldType), vwCl[ci]? = some (C, T, N) ∧ (∀ w ∈ u_ws C T N, w ∈ k_KT) ∧ k < N ∧ Cond.fieldLink own idx (T k).1 (T k).2.1 (T k).2.2.1 ∈ k_KT ∧ (∀ j, j < N → parseFieldDescriptor (T j).2.2.1 = some (ty j)) ∧ (∀ a, a < N → ∀ b, b < N → a ≠ b → (T a).2.1 ≠ (T b).2.1) ∧ (k_fr ci k = false → ty k = .int) ∧ (k_fr ci k = true → ∀ v : Value, (v = .null ∨ ∃ a, v = .ref a) → narrow (ty k) v = v ∧ fits (ty k) v = true) ∧ (T k).2.2.2 = fin ∧ (fin = true → (T k).1 = own)
theorem k_cell_o {E : kEnv} {h : kH} {a ci N : Nat} {q : vw_C} (hm : h.1[a]? = some (ci, N)) (hc : vwCl[ci]? = some q) : k_cell E h a = .inr (ci, (List.range N).map (fun k => k_fv E h a ci k)) := by
  have hlt : ci < 8 := (List.getElem?_eq_some_iff.mp hc).1
  simp only [k_cell, hm]
  rw [if_neg (by omega), if_neg (by omega), if_neg (by omega)]
theorem k_u_ok {f : Nat → Int → Int} {a : Nat} {i v : Int} (h : ∀ b j, k_in (f b j)) (hv : k_in v) : ∀ b j, k_in (k_u f a i v b j) := by
  intro b j
  unfold k_u
  split
  · exact hv
  · exact h b j
theorem k_u_okr {f : Nat → Int → Option Nat} {a : Nat} {i : Int} {v : Option Nat} (h : ∀ b j x, f b j = some x → x < 1000000) (hv : ∀ x, v = some x → x < 1000000) : ∀ b j x, k_u f a i v b j = some x → x < 1000000 := by
  intro b j x
  unfold k_u
  split
  · exact hv x
  · exact h b j x
theorem k_u_ne {α : Type} {f : Nat → Int → α} {a b : Nat} {i j : Int} {v : α} (h : b ≠ a) : k_u f a i v b j = f b j := by
  unfold k_u
  rw [if_neg (fun q => h q.1)]
theorem k_u_ne2 {α : Type} {f : Nat → Int → α} {a b : Nat} {i j : Int} {v : α} (h : j ≠ i) : k_u f a i v b j = f b j := by
  unfold k_u
  rw [if_neg (fun q => h q.2)]
theorem k_u_self {α : Type} {f : Nat → Int → α} {a : Nat} {i : Int} {v : α} : k_u f a i v a i = v := by
  unfold k_u
  rw [if_pos ⟨rfl, rfl⟩]
theorem k_cell_cong {E : kEnv} {h h2 : kH} {b : Nat} (h0 : h2.1 = h.1) (h1 : ∀ j, h2.2.1 b j = h.2.1 b j) (h3 : ∀ j, h2.2.2 b j = h.2.2 b j) : k_cell E h2 b = k_cell E h b := by
  simp only [k_cell, h0, h1, h3, k_fv]
end
section
/-! rules of the inner machine: fields, arrays, returns -/
section KW3
variable {E : kEnv} {d mc ms : Nat} {M : kMd} {pc : Nat} {L : kLs} {S : List kV} {h : kH} {Q : Option kV → kH → Prop}
theorem kw_getI {idx ci k0 N a : Nat} {kz : Int} (hd : decode M.2.1 pc = .ok (.getfield idx, 3)) (q : k_fldr M.1.cls idx ci k0 N) (hm : h.1[a]? = some (ci, N)) (hf : k_fr ci k0 = false) (hz : (k0 : Int) = kz) (k : kW E d mc ms M (pc + 3) L (kI (h.2.1 a kz) :: S) h Q) : kW E d mc ms M pc L (kA a :: S) h Q := by
  intro p e R s mm args below meth c H ls locs cells slots QQ cx g1 g2 hl hS hH hR hV kk
  subst hz
  obtain ⟨C, T, q1, q2, q3, q4⟩ := q
  rw [List.map_cons, k_rvA hH hm]
  refine va_get (v := .int (Int32.ofInt (h.2.1 a k0))) cx.1 cx.2.1 cx.2.2.2.2.1 q2 cx.2.2.2.1 cx.2.2.2.2.2.2.1.1 hR.2 a (by rw [k_ws_at (k_lt hm), k_cell_o hm q1]) q1 k0 q3 (cx.2.2.2.2.1 _ q4) (fun _ z => z) ?_ hd ?_
  · rw [List.getElem?_map, List.getElem?_range q3]
    simp [k_fv, hf]
  · exact k p e R s mm args below meth c H ls locs cells slots QQ cx g1 g2 hl (k_consI (hH.1 a k0) (k_tl hS).2) hH hR hV kk
theorem kw_getR {idx ci k0 N a : Nat} {kz : Int} (hd : decode M.2.1 pc = .ok (.getfield idx, 3)) (q : k_fldr M.1.cls idx ci k0 N) (hm : h.1[a]? = some (ci, N)) (hf : k_fr ci k0 = true) (hz : (k0 : Int) = kz) {r : Option Nat} (hr : h.2.2 a kz = r) (k : kW E d mc ms M (pc + 3) L (kR r :: S) h Q) : kW E d mc ms M pc L (kA a :: S) h Q := by
  intro p e R s mm args below meth c H ls locs cells slots QQ cx g1 g2 hl hS hH hR hV kk
  subst hz
  subst hr
  obtain ⟨C, T, q1, q2, q3, q4⟩ := q
  have k2 := k p e R s mm args below meth c H ls locs cells slots QQ cx g1 g2 hl (k_cons (v := kR (h.2.2 a k0)) trivial (k_tl hS).2) hH hR hV kk
  rw [List.map_cons, k_rv_rf (fun x hx => hH.2.1 a k0 x hx)] at k2
  rw [List.map_cons, k_rvA hH hm]
  refine va_get (v := va_rf (k_rf E (h.2.2 a k0))) cx.1 cx.2.1 cx.2.2.2.2.1 q2 cx.2.2.2.1 cx.2.2.2.2.2.2.1.1 hR.2 a (by rw [k_ws_at (k_lt hm), k_cell_o hm q1]) q1 k0 q3 (cx.2.2.2.2.1 _ q4) (fun _ z => z) ?_ hd k2
  rw [List.getElem?_map, List.getElem?_range q3]
  simp [k_fv, hf]
theorem k_put_ws {E : kEnv} {h h2 : kH} {a ci N k0 : Nat} {q : vw_C} {v : Value} (hm : h.1[a]? = some (ci, N)) (hc : vwCl[ci]? = some q) (hk : k0 < N) (h0 : h2.1 = h.1) (hv : k_fv E h2 a ci k0 = v) (ho : ∀ j : Nat, j ≠ k0 → k_fv E h2 a ci j = k_fv E h a ci j) (hb : ∀ b : Nat, b ≠ a → k_cell E h2 b = k_cell E h b) :
    (k_ws E h).set a (kb E + a, .inr (ci, ((List.range N).map (fun k => k_fv E h a ci k)).set k0 v)) = k_ws E h2 := by
  refine k_ws_set h0 ?_ hb
  rw [k_cell_o (by rw [h0]; exact hm) hc]
  congr 2
  apply List.ext_getElem?
  intro i
  by_cases hi : i = k0
  · subst hi
    rw [List.getElem?_set_self (by simpa using hk), List.getElem?_map, List.getElem?_range hk]
    simp [hv]
  · rw [List.getElem?_set_ne (Ne.symm hi), List.getElem?_map, List.getElem?_map]
    cases hr : (List.range N)[i]? with
    | none => rfl
    | some x =>
      have : x = i := by
        have hlt := (List.getElem?_eq_some_iff.mp hr).1
        rw [List.getElem?_range (by simpa using hlt)] at hr
        exact (Option.some.inj hr).symm
      subst this
      simp [ho x hi]
theorem kw_putI {idx ci k0 N a : Nat} {fin : Bool} {kz z : Int} (hd : decode M.2.1 pc = .ok (.putfield idx, 3)) (q : k_fld M.1.cls idx ci k0 N fin) (hm : h.1[a]? = some (ci, N)) (hf : k_fr ci k0 = false) (hn : fin = true → M.1.name = "<init>") (hz : (k0 : Int) = kz) (k : kW E d mc ms M (pc + 3) L S (h.1, k_u h.2.1 a kz z, h.2.2) Q) : kW E d mc ms M pc L (kI z :: kA a :: S) h Q := by
  intro p e R s mm args below meth c H ls locs cells slots QQ cx g1 g2 hl hS hH hR hV kk
  subst hz
  obtain ⟨C, T, ty, q1, q2, q3, q4, q5, q6, q7, q8, q9, q10⟩ := q
  rw [List.map_cons, List.map_cons, k_rvA hH hm]
  have hzk : k_in z := (k_tl hS).1
  have hH2 : k_okH (kX E) (h.1, k_u h.2.1 a k0 z, h.2.2) := ⟨k_u_ok hH.1 hzk, hH.2⟩
  have hws : (k_ws E h).set a (kb E + a, .inr (ci, ((List.range N).map (fun k => k_fv E h a ci k)).set k0 (.int (Int32.ofInt z)))) = k_ws E (h.1, k_u h.2.1 a k0 z, h.2.2) := by
    refine k_put_ws hm q1 q3 rfl ?_ (fun j hj => ?_) (fun b hb => k_cell_cong rfl (fun j => k_u_ne hb) (fun j => rfl))
    · simp [k_fv, hf, k_u_self]
    · simp only [k_fv]
      rw [k_u_ne2 (by omega)]
  have go : ∀ (H1 : Heap) (locs1 : List Loc), va_P (kD E) vwCl ((k_ws E h).set a (kb E + a, .inr (ci, ((List.range N).map (fun k => k_fv E h a ci k)).set k0 (.int (Int32.ofInt z))))) H1 → H1.size = H.size → va_S (k_A E) s.heap H1 locs1 → W p (kl E) e R s mm args below meth c H1 locs1 cells slots QQ (F0 mm (pc + 3) ls (S.map (k_rv E))) := by
    intro H1 locs1 hP hsz hV1
    rw [hws] at hP
    exact k p e R s mm args below meth c H1 ls locs1 cells slots QQ cx g1 g2 hl (k_tl (k_tl hS).2).2 hH2 ⟨by rw [hsz]; exact hR.1, hP⟩ hV1 kk
  obtain ⟨r, h1, cell, w1, w2, w3, w4⟩ := hR.2 a _ (by rw [k_ws_at (k_lt hm), k_cell_o hm q1])
  have hr : r = (C, T, N) := Option.some.inj (h1.symm.trans q1)
  subst hr
  have he : (k_ws E h)[a]? = some (kb E + a, .inr (ci, (List.range N).map (fun k => k_fv E h a ci k))) := by rw [k_ws_at (k_lt hm), k_cell_o hm q1]
  have hts := cx.2.2.2.2.1
  have hK := cx.2.2.2.2.2.2.1.1
  have hap := va_apart (own := M.1.cls) hts q2 ty q5 q6 hK q1
  obtain ⟨hSl, hfc, kC, hkC, hkind⟩ := hK.1 ci _ q1
  obtain ⟨cf, kf, fi, f, hi, hsl⟩ := hSl k0 q3
  have hl9 : k0 < ((List.range N).map (fun k => k_fv E h a ci k)).length := by simpa using q3
  have hty0 := q7 hf
  have hlay := u_lays hts q2 q3
  have hst := (u_facts hfc hkC hlay hi).1
  have hparse : parseFieldDescriptor (T k0).2.2.1 = some .int := by rw [q5 k0 q3, hty0]
  cases fin with
  | false =>
    have hlay2 := hts _ (q2 _ (u_in_lay q3))
    unfold u_lay at hlay2
    rw [if_neg (by rw [q9]; decide)] at hlay2
    have h6 := u_store (v := .int (Int32.ofInt z)) hfc hkC hkind hlay2 hi hparse rfl rfl
    refine W.putK cx.1 cx.2.1 (f := f) ⟨cx.2.2.2.1, hts _ q4, ⟨_, _, _, hi⟩, hst⟩ (by rw [w2]; exact h6) w1 w3 (by rw [hsl]; exact k2_hasslot (w4 k0 q3)) rfl rfl hd fun H' e1 e2 e3 => ?_
    rw [hsl] at e1 ⊢
    exact go H' _ (hR.2.set k_wsD he ⟨_, q1, t_OB.to (V := updV (vp_V ((List.range N).map (fun k => k_fv E h a ci k))) k0 _) ⟨_, e1, w2, w3, t_set w4 hap q3 _⟩ (fun j _ => vp_updV_set hl9 _ j)⟩ e3) e2 (hV.put e2 e3 (by show kb E ≤ kb E + a; omega))
  | true =>
    have hdecl := q10 rfl
    have hown := cx.2.2.2.1
    have hlay2 := hts _ (q2 _ (u_in_lay q3))
    unfold u_lay at hlay2
    rw [if_pos q9] at hlay2
    have hcf : mm.cls = cf := by
      obtain ⟨_, _, c', _, _, _, -, -, hf', -, -, -, hown2, -⟩ := Cond.laysFinal_spec hlay2
      have e1 : c' = cf := by have := hi.symm.trans hf'; simp at this; exact this.1.symm
      rw [hdecl] at hown2
      rw [← e1]; exact Option.some.inj (hown.symm.trans hown2)
    have h6 := u_fits (v := .int (Int32.ofInt z)) hfc hkC hkind (Or.inr hlay2) hi hparse rfl rfl
    refine W.putFinK cx.1 cx.2.1 hown (hts _ q4) hi hst hcf (cx.2.2.2.2.2.1 (hn rfl)) (by rw [w2]; exact h6) w1 w3 (by rw [hsl]; exact k2_hasslot (w4 k0 q3)) rfl rfl hd fun H' e1 e2 e3 => ?_
    rw [hsl] at e1 ⊢
    exact go H' _ (hR.2.set k_wsD he ⟨_, q1, t_OB.to (V := updV (vp_V ((List.range N).map (fun k => k_fv E h a ci k))) k0 _) ⟨_, e1, w2, w3, t_set w4 hap q3 _⟩ (fun j _ => vp_updV_set hl9 _ j)⟩ e3) e2 (hV.put e2 e3 (by show kb E ≤ kb E + a; omega))
theorem kw_putR {idx ci k0 N a : Nat} {fin : Bool} {kz : Int} {b : Nat} (hd : decode M.2.1 pc = .ok (.putfield idx, 3)) (q : k_fld M.1.cls idx ci k0 N fin) (hm : h.1[a]? = some (ci, N)) (hf : k_fr ci k0 = true) (hb : b < 1000000) (hn : fin = true → M.1.name = "<init>") (hz : (k0 : Int) = kz) (k : kW E d mc ms M (pc + 3) L S (h.1, h.2.1, k_u h.2.2 a kz (some b)) Q) : kW E d mc ms M pc L (kA b :: kA a :: S) h Q := by
  intro p e R s mm args below meth c H ls locs cells slots QQ cx g1 g2 hl hS hH hR hV kk
  subst hz
  obtain ⟨C, T, ty, q1, q2, q3, q4, q5, q6, q7, q8, q9, q10⟩ := q
  have zb : k_rv E (kA b) = .ref (kb E + b) := if_pos hb
  rw [List.map_cons, List.map_cons, k_rvA hH hm, zb]
  have hH2 : k_okH (kX E) (h.1, h.2.1, k_u h.2.2 a k0 (some b)) := ⟨hH.1, k_u_okr hH.2.1 (fun x hx => by cases hx; exact hb), hH.2.2⟩
  have hws : (k_ws E h).set a (kb E + a, .inr (ci, ((List.range N).map (fun k => k_fv E h a ci k)).set k0 (.ref (kb E + b)))) = k_ws E (h.1, h.2.1, k_u h.2.2 a k0 (some b)) := by
    refine k_put_ws hm q1 q3 rfl ?_ (fun j hj => ?_) (fun b2 hb2 => k_cell_cong rfl (fun j => rfl) (fun j => k_u_ne hb2))
    · simp [k_fv, hf, k_u_self, k_rf, va_rf]
    · simp only [k_fv]
      rw [k_u_ne2 (by omega)]
  have go : ∀ (H1 : Heap) (locs1 : List Loc), va_P (kD E) vwCl ((k_ws E h).set a (kb E + a, .inr (ci, ((List.range N).map (fun k => k_fv E h a ci k)).set k0 (.ref (kb E + b))))) H1 → H1.size = H.size → va_S (k_A E) s.heap H1 locs1 → W p (kl E) e R s mm args below meth c H1 locs1 cells slots QQ (F0 mm (pc + 3) ls (S.map (k_rv E))) := by
    intro H1 locs1 hP hsz hV1
    rw [hws] at hP
    exact k p e R s mm args below meth c H1 ls locs1 cells slots QQ cx g1 g2 hl (k_tl (k_tl hS).2).2 hH2 ⟨by rw [hsz]; exact hR.1, hP⟩ hV1 kk
  obtain ⟨r, h1, cell, w1, w2, w3, w4⟩ := hR.2 a _ (by rw [k_ws_at (k_lt hm), k_cell_o hm q1])
  have hr : r = (C, T, N) := Option.some.inj (h1.symm.trans q1)
  subst hr
  have he : (k_ws E h)[a]? = some (kb E + a, .inr (ci, (List.range N).map (fun k => k_fv E h a ci k))) := by rw [k_ws_at (k_lt hm), k_cell_o hm q1]
  have hts := cx.2.2.2.2.1
  have hK := cx.2.2.2.2.2.2.1.1
  have hap := va_apart (own := M.1.cls) hts q2 ty q5 q6 hK q1
  obtain ⟨hSl, hfc, kC, hkC, hkind⟩ := hK.1 ci _ q1
  obtain ⟨cf, kf, fi, f, hi, hsl⟩ := hSl k0 q3
  have hl9 : k0 < ((List.range N).map (fun k => k_fv E h a ci k)).length := by simpa using q3
  have hty0 := q8 hf (.ref (kb E + b)) (Or.inr ⟨_, rfl⟩)
  have hlay := u_lays hts q2 q3
  have hst := (u_facts hfc hkC hlay hi).1
  have hparse := q5 k0 q3
  cases fin with
  | false =>
    have hlay2 := hts _ (q2 _ (u_in_lay q3))
    unfold u_lay at hlay2
    rw [if_neg (by rw [q9]; decide)] at hlay2
    have h6 := u_store (v := .ref (kb E + b)) hfc hkC hkind hlay2 hi hparse hty0.1 hty0.2
    refine W.putK cx.1 cx.2.1 (f := f) ⟨cx.2.2.2.1, hts _ q4, ⟨_, _, _, hi⟩, hst⟩ (by rw [w2]; exact h6) w1 w3 (by rw [hsl]; exact k2_hasslot (w4 k0 q3)) rfl rfl hd fun H' e1 e2 e3 => ?_
    rw [hsl] at e1 ⊢
    exact go H' _ (hR.2.set k_wsD he ⟨_, q1, t_OB.to (V := updV (vp_V ((List.range N).map (fun k => k_fv E h a ci k))) k0 _) ⟨_, e1, w2, w3, t_set w4 hap q3 _⟩ (fun j _ => vp_updV_set hl9 _ j)⟩ e3) e2 (hV.put e2 e3 (by show kb E ≤ kb E + a; omega))
  | true =>
    have hdecl := q10 rfl
    have hown := cx.2.2.2.1
    have hlay2 := hts _ (q2 _ (u_in_lay q3))
    unfold u_lay at hlay2
    rw [if_pos q9] at hlay2
    have hcf : mm.cls = cf := by
      obtain ⟨_, _, c', _, _, _, -, -, hf', -, -, -, hown2, -⟩ := Cond.laysFinal_spec hlay2
      have e1 : c' = cf := by have := hi.symm.trans hf'; simp at this; exact this.1.symm
      rw [hdecl] at hown2
      rw [← e1]; exact Option.some.inj (hown.symm.trans hown2)
    have h6 := u_fits (v := .ref (kb E + b)) hfc hkC hkind (Or.inr hlay2) hi hparse hty0.1 hty0.2
    refine W.putFinK cx.1 cx.2.1 hown (hts _ q4) hi hst hcf (cx.2.2.2.2.2.1 (hn rfl)) (by rw [w2]; exact h6) w1 w3 (by rw [hsl]; exact k2_hasslot (w4 k0 q3)) rfl rfl hd fun H' e1 e2 e3 => ?_
    rw [hsl] at e1 ⊢
    exact go H' _ (hR.2.set k_wsD he ⟨_, q1, t_OB.to (V := updV (vp_V ((List.range N).map (fun k => k_fv E h a ci k))) k0 _) ⟨_, e1, w2, w3, t_set w4 hap q3 _⟩ (fun j _ => vp_updV_set hl9 _ j)⟩ e3) e2 (hV.put e2 e3 (by show kb E ≤ kb E + a; omega))
end KW3
end
section
/-! rules of the inner machine: arrays, new cells, returns -/
theorem k_ty (E : kEnv) : (k_tys E)[0]? = some (kcI E, .int) ∧ (k_tys E)[1]? = some (kcC E, .char) ∧ (k_tys E)[2]? = some (kcS E, .object RX4) := ⟨rfl, rfl, rfl⟩
theorem k_cell_i {E : kEnv} {h : kH} {a n : Nat} (hm : h.1[a]? = some (100, n)) : k_cell E h a = .inl (kcI E, n, .inl (fun j : Nat => Int32.ofInt (h.2.1 a j))) := by
  simp only [k_cell, hm]; rfl
theorem k_cell_c {E : kEnv} {h : kH} {a n : Nat} (hm : h.1[a]? = some (101, n)) : k_cell E h a = .inl (kcC E, n, .inl (fun j : Nat => Int32.ofInt (h.2.1 a j))) := by
  simp only [k_cell, hm]; rfl
theorem k_cell_q {E : kEnv} {h : kH} {a n : Nat} (hm : h.1[a]? = some (102, n)) : k_cell E h a = .inl (kcS E, n, .inr (.inr (.inr (.inr (fun j : Nat => k_rf E (h.2.2 a j)))))) := by
  simp only [k_cell, hm]; rfl
theorem k_nat {i : Int} (h0 : 0 ≤ i) : ((i.toNat : Nat) : Int) = i := Int.toNat_of_nonneg h0
section KW4
variable {E : kEnv} {d mc ms : Nat} {M : kMd} {pc : Nat} {L : kLs} {S : List kV} {h : kH} {Q : Option kV → kH → Prop}
theorem kw_iald {a n : Nat} {i : Int} (hd : decode M.2.1 pc = .ok (.iaload, 1)) (hm : h.1[a]? = some (100, n)) (h0 : 0 ≤ i) (h1 : i < n) (k : kW E d mc ms M (pc + 1) L (kI (h.2.1 a i) :: S) h Q) : kW E d mc ms M pc L (kI i :: kA a :: S) h Q := by
  intro p e R s mm args below meth c H ls locs cells slots QQ cx g1 g2 hl hS hH hR hV kk
  have hi : k_in i := (k_tl hS).1
  have k2 := k p e R s mm args below meth c H ls locs cells slots QQ cx g1 g2 hl (k_consI (hH.1 a i) (k_tl (k_tl hS).2).2) hH hR hV kk
  rw [List.map_cons, List.map_cons, k_rvA hH hm]
  refine va_iald cx.1 cx.2.1 cx.2.2.2.2.2.2.1.1 hR.2 a 0 (by rw [k_ws_at (k_lt hm), k_cell_i hm]) (k_ty E).1 (k_vpin hi h0 h1) hd ?_
  show W _ _ _ _ _ _ _ _ _ _ _ _ _ _ _ (F0 mm (pc + 1) ls (.int (Int32.ofInt (h.2.1 a (((Int32.ofInt i).toNatClampNeg : Nat) : Int))) :: S.map (k_rv E)))
  rw [k_tc hi, k_nat h0]
  exact k2
theorem kw_cald {a n : Nat} {i : Int} (hd : decode M.2.1 pc = .ok (.caload, 1)) (hm : h.1[a]? = some (101, n)) (h0 : 0 ≤ i) (h1 : i < n) (k : kW E d mc ms M (pc + 1) L (kI (h.2.1 a i) :: S) h Q) : kW E d mc ms M pc L (kI i :: kA a :: S) h Q := by
  intro p e R s mm args below meth c H ls locs cells slots QQ cx g1 g2 hl hS hH hR hV kk
  have hi : k_in i := (k_tl hS).1
  have k2 := k p e R s mm args below meth c H ls locs cells slots QQ cx g1 g2 hl (k_consI (hH.1 a i) (k_tl (k_tl hS).2).2) hH hR hV kk
  rw [List.map_cons, List.map_cons, k_rvA hH hm]
  refine va_cald cx.1 cx.2.1 cx.2.2.2.2.2.2.1.1 hR.2 a 1 (by rw [k_ws_at (k_lt hm), k_cell_c hm]) (k_ty E).2.1 (k_vpin hi h0 h1) hd ?_
  show W _ _ _ _ _ _ _ _ _ _ _ _ _ _ _ (F0 mm (pc + 1) ls (.int (Int32.ofInt (h.2.1 a (((Int32.ofInt i).toNatClampNeg : Nat) : Int))) :: S.map (k_rv E)))
  rw [k_tc hi, k_nat h0]
  exact k2
theorem kw_aald {a n : Nat} {i : Int} {r : Option Nat} (hd : decode M.2.1 pc = .ok (.aaload, 1)) (hm : h.1[a]? = some (102, n)) (h0 : 0 ≤ i) (h1 : i < n) (hr : h.2.2 a i = r) (k : kW E d mc ms M (pc + 1) L (kR r :: S) h Q) : kW E d mc ms M pc L (kI i :: kA a :: S) h Q := by
  intro p e R s mm args below meth c H ls locs cells slots QQ cx g1 g2 hl hS hH hR hV kk
  subst hr
  have hi : k_in i := (k_tl hS).1
  have k2 := k p e R s mm args below meth c H ls locs cells slots QQ cx g1 g2 hl (k_cons (v := kR (h.2.2 a i)) trivial (k_tl (k_tl hS).2).2) hH hR hV kk
  rw [List.map_cons, k_rv_rf (fun x hx => hH.2.1 a i x hx)] at k2
  rw [List.map_cons, List.map_cons, k_rvA hH hm]
  refine va_aldq cx.1 cx.2.1 cx.2.2.2.2.2.2.1.1 hR.2 a 2 (by rw [k_ws_at (k_lt hm), k_cell_q hm]) (k_ty E).2.2 (k_vpin hi h0 h1) hd ?_
  show W _ _ _ _ _ _ _ _ _ _ _ _ _ _ _ (F0 mm (pc + 1) ls (va_rf (k_rf E (h.2.2 a (((Int32.ofInt i).toNatClampNeg : Nat) : Int))) :: S.map (k_rv E)))
  rw [k_tc hi, k_nat h0]
  exact k2
theorem kw_alen {a t n : Nat} (hd : decode M.2.1 pc = .ok (.arraylength, 1)) (hm : h.1[a]? = some (t, n)) (ht : t = 100 ∨ t = 101 ∨ t = 102) (k : kW E d mc ms M (pc + 1) L (kI n :: S) h Q) : kW E d mc ms M pc L (kA a :: S) h Q := by
  intro p e R s mm args below meth c H ls locs cells slots QQ cx g1 g2 hl hS hH hR hV kk
  have hn := hH.2.2.2.2.2 a t n hm
  have hz : k_in (n : Int) := ⟨by omega, by omega⟩
  have k2 := k p e R s mm args below meth c H ls locs cells slots QQ cx g1 g2 hl (k_consI hz (k_tl hS).2) hH hR hV kk
  have e1 : Int32.ofNat n = Int32.ofInt (n : Int) := Int32.ofInt_eq_ofNat.symm
  rw [List.map_cons, k_rvA hH hm]
  rcases ht with rfl | rfl | rfl
  · exact va_alen cx.1 cx.2.1 cx.2.2.2.2.2.2.1.1 hR.2 a 0 (x := (n, _)) (by rw [k_ws_at (k_lt hm), k_cell_i hm]) (k_ty E).1 e1 hd k2
  · exact va_alen cx.1 cx.2.1 cx.2.2.2.2.2.2.1.1 hR.2 a 1 (x := (n, _)) (by rw [k_ws_at (k_lt hm), k_cell_c hm]) (k_ty E).2.1 e1 hd k2
  · exact va_alen cx.1 cx.2.1 cx.2.2.2.2.2.2.1.1 hR.2 a 2 (x := (n, _)) (by rw [k_ws_at (k_lt hm), k_cell_q hm]) (k_ty E).2.2 e1 hd k2
/-- the fixed arrays: 0 LEAST, 1 MOST, 2 the script -/
theorem kw_ialdS {j : Nat} {i : Int} (hd : decode M.2.1 pc = .ok (.iaload, 1)) (hj : j < 3) (h0 : 0 ≤ i) (h1 : i < ((k_sta (kX E) j).1 : Int)) (hz : k_in ((k_sta (kX E) j).2 i.toNat)) (k : kW E d mc ms M (pc + 1) L (kI ((k_sta (kX E) j).2 i.toNat) :: S) h Q) : kW E d mc ms M pc L (kI i :: kA (1000000 + j) :: S) h Q := by
  intro p e R s mm args below meth c H ls locs cells slots QQ cx g1 g2 hl hS hH hR hV kk
  have hi : k_in i := (k_tl hS).1
  have k2 := k p e R s mm args below meth c H ls locs cells slots QQ cx g1 g2 hl (k_consI hz (k_tl (k_tl hS).2).2) hH hR hV kk
  obtain ⟨t, e1, e2⟩ := cx.2.2.2.2.2.2.1.2.1 j hj
  have z : k_rv E (kA (1000000 + j)) = .ref t := by
    show (if 1000000 + j < 1000000 then _ else _) = _
    rw [if_neg (by omega), show 1000000 + j - 1000000 = j by omega, e1]
  rw [List.map_cons, List.map_cons, z]
  exact va_ti cx.1 cx.2.1 e2 hV (k_vpin hi h0 h1) (by rw [k_tc hi]; rfl) hd k2
theorem kw_alenS {j : Nat} (hd : decode M.2.1 pc = .ok (.arraylength, 1)) (hj : j < 3) (hz : (k_sta (kX E) j).1 < 2147483648) (k : kW E d mc ms M (pc + 1) L (kI ((k_sta (kX E) j).1 : Int) :: S) h Q) : kW E d mc ms M pc L (kA (1000000 + j) :: S) h Q := by
  intro p e R s mm args below meth c H ls locs cells slots QQ cx g1 g2 hl hS hH hR hV kk
  have k2 := k p e R s mm args below meth c H ls locs cells slots QQ cx g1 g2 hl (k_consI ⟨by omega, by omega⟩ (k_tl hS).2) hH hR hV kk
  obtain ⟨t, e1, e2⟩ := cx.2.2.2.2.2.2.1.2.1 j hj
  have z : k_rv E (kA (1000000 + j)) = .ref t := by
    show (if 1000000 + j < 1000000 then _ else _) = _
    rw [if_neg (by omega), show 1000000 + j - 1000000 = j by omega, e1]
  rw [List.map_cons, z]
  exact va_tlen cx.1 cx.2.1 e2 hV Int32.ofInt_eq_ofNat.symm hd k2
theorem kw_iast {a n : Nat} {i x : Int} (hd : decode M.2.1 pc = .ok (.iastore, 1)) (hm : h.1[a]? = some (100, n)) (h0 : 0 ≤ i) (h1 : i < n) (k : kW E d mc ms M (pc + 1) L S (h.1, k_u h.2.1 a i x, h.2.2) Q) : kW E d mc ms M pc L (kI x :: kI i :: kA a :: S) h Q := by
  intro p e R s mm args below meth c H ls locs cells slots QQ cx g1 g2 hl hS hH hR hV kk
  have hx : k_in x := (k_tl hS).1
  have hi : k_in i := (k_tl (k_tl hS).2).1
  rw [List.map_cons, List.map_cons, List.map_cons, k_rvA hH hm]
  have he : (k_ws E h)[a]? = some (kb E + a, .inl (kcI E, n, .inl (fun j : Nat => Int32.ofInt (h.2.1 a j)))) := by rw [k_ws_at (k_lt hm), k_cell_i hm]
  have hc := hR.2 a _ he
  have hAr := (cx.2.2.2.2.2.2.1.1.2 0 _ (k_ty E).1).1
  refine W.iast cx.1 cx.2.1 hc (hAr n (fun j => .int (Int32.ofInt (h.2.1 a (j : Int))))) (fun q => by cases q) (by show ¬ (_ ∨ (arrV _ _ _).slots.size ≤ _); rw [arrV_size]; exact k_vpin hi h0 h1) rfl rfl hd fun H1 e1 e2 e3 => ?_
  have hP1 : va_P (kD E) vwCl ((k_ws E h).set a (kb E + a, .inl (kcI E, n, .inl (fun j : Nat => Int32.ofInt (k_u h.2.1 a i x a j))))) H1 := by
    refine hR.2.set k_wsD he ?_ e3
    show H1[kb E + a]? = some (vp_cell _ _)
    rw [e1]
    show some ((arrV _ _ _).setSlot _ _) = _
    rw [arrV_store, vp_cell_i]
    congr 2
    funext q
    rw [k_tc hi]
    unfold updV k_u
    by_cases hq : q = i.toNat
    · subst hq
      rw [if_pos rfl, if_pos ⟨rfl, k_nat h0⟩]; try rfl
    · rw [if_neg hq, if_neg (fun z => hq (by have := z.2; omega))]
  have hws := k_ws_set (E := E) (h := h) (h2 := (h.1, k_u h.2.1 a i x, h.2.2)) (a := a) rfl (k_cell_i (h := (h.1, k_u h.2.1 a i x, h.2.2)) hm) (fun b hb => k_cell_cong rfl (fun j => k_u_ne hb) (fun j => rfl))
  rw [show (k_ws E h).set a (kb E + a, .inl (kcI E, n, .inl (fun j : Nat => Int32.ofInt (k_u h.2.1 a i x a j)))) = k_ws E (h.1, k_u h.2.1 a i x, h.2.2) from hws] at hP1
  exact k p e R s mm args below meth c H1 ls _ cells slots QQ cx g1 g2 hl (k_tl (k_tl (k_tl hS).2).2).2 ⟨k_u_ok hH.1 hx, hH.2⟩ ⟨by rw [e2]; exact hR.1, hP1⟩ (hV.put e2 e3 (by show kb E ≤ kb E + a; omega)) kk
theorem kw_cast {a n : Nat} {i x : Int} (hd : decode M.2.1 pc = .ok (.castore, 1)) (hm : h.1[a]? = some (101, n)) (h0 : 0 ≤ i) (h1 : i < n) (hx0 : 0 ≤ x) (hx1 : x < 65536) (k : kW E d mc ms M (pc + 1) L S (h.1, k_u h.2.1 a i x, h.2.2) Q) : kW E d mc ms M pc L (kI x :: kI i :: kA a :: S) h Q := by
  intro p e R s mm args below meth c H ls locs cells slots QQ cx g1 g2 hl hS hH hR hV kk
  have hx : k_in x := (k_tl hS).1
  have hi : k_in i := (k_tl (k_tl hS).2).1
  rw [List.map_cons, List.map_cons, List.map_cons, k_rvA hH hm]
  have he : (k_ws E h)[a]? = some (kb E + a, .inl (kcC E, n, .inl (fun j : Nat => Int32.ofInt (h.2.1 a j)))) := by rw [k_ws_at (k_lt hm), k_cell_c hm]
  have hc := hR.2 a _ he
  have hAr := (cx.2.2.2.2.2.2.1.1.2 1 _ (k_ty E).2.1).1
  have hnar : narrow .char (.int (Int32.ofInt x)) = .int (Int32.ofInt x) := by
    obtain ⟨m, rfl⟩ := Int.eq_ofNat_of_zero_le hx0
    rw [Int32.ofInt_eq_ofNat]
    exact (pk_charN (q := m) (by omega)).1
  refine W.cast cx.1 cx.2.1 hc (hAr n (fun j => .int (Int32.ofInt (h.2.1 a (j : Int))))) (fun q => by cases q) (by show ¬ (_ ∨ (arrV _ _ _).slots.size ≤ _); rw [arrV_size]; exact k_vpin hi h0 h1) rfl rfl hd fun H1 e1 e2 e3 => ?_
  rw [show k_rv E (kI x) = .int (Int32.ofInt x) from rfl] at *
  rw [hnar] at e1
  have hP1 : va_P (kD E) vwCl ((k_ws E h).set a (kb E + a, .inl (kcC E, n, .inl (fun j : Nat => Int32.ofInt (k_u h.2.1 a i x a j))))) H1 := by
    refine hR.2.set k_wsD he ?_ e3
    show H1[kb E + a]? = some (vp_cell _ _)
    rw [e1]
    show some ((arrV _ _ _).setSlot _ _) = _
    rw [arrV_store, vp_cell_i]
    congr 2
    funext q
    rw [k_tc hi]
    unfold updV k_u
    by_cases hq : q = i.toNat
    · subst hq
      rw [if_pos rfl, if_pos ⟨rfl, k_nat h0⟩]
    · rw [if_neg hq, if_neg (fun z => hq (by have := z.2; omega))]
  have hws := k_ws_set (E := E) (h := h) (h2 := (h.1, k_u h.2.1 a i x, h.2.2)) (a := a) rfl (k_cell_c (h := (h.1, k_u h.2.1 a i x, h.2.2)) hm) (fun b hb => k_cell_cong rfl (fun j => k_u_ne hb) (fun j => rfl))
  rw [show (k_ws E h).set a (kb E + a, .inl (kcC E, n, .inl (fun j : Nat => Int32.ofInt (k_u h.2.1 a i x a j)))) = k_ws E (h.1, k_u h.2.1 a i x, h.2.2) from hws] at hP1
  exact k p e R s mm args below meth c H1 ls _ cells slots QQ cx g1 g2 hl (k_tl (k_tl (k_tl hS).2).2).2 ⟨k_u_ok hH.1 hx, hH.2⟩ ⟨by rw [e2]; exact hR.1, hP1⟩ (hV.put e2 e3 (by show kb E ≤ kb E + a; omega)) kk
theorem kw_aast {a n b : Nat} {i : Int} (hd : decode M.2.1 pc = .ok (.aastore, 1)) (hm : h.1[a]? = some (102, n)) (hb : h.1[b]? = some (4, 3)) (h0 : 0 ≤ i) (h1 : i < n) (k : kW E d mc ms M (pc + 1) L S (h.1, h.2.1, k_u h.2.2 a i (some b)) Q) : kW E d mc ms M pc L (kA b :: kI i :: kA a :: S) h Q := by
  intro p e R s mm args below meth c H ls locs cells slots QQ cx g1 g2 hl hS hH hR hV kk
  have hi : k_in i := (k_tl (k_tl hS).2).1
  rw [List.map_cons, List.map_cons, List.map_cons, k_rvA hH hm, k_rvA hH hb]
  have he : (k_ws E h)[a]? = some (kb E + a, .inl (kcS E, n, .inr (.inr (.inr (.inr (fun j : Nat => k_rf E (h.2.2 a j))))))) := by rw [k_ws_at (k_lt hm), k_cell_q hm]
  have hc := hR.2 a _ he
  have hK := cx.2.2.2.2.2.2.1.1
  have hAr := (hK.2 2 _ (k_ty E).2.2).1
  obtain ⟨kA2, comp, k1, k2, k3, -⟩ := (hK.2 2 _ (k_ty E).2.2).2
  obtain ⟨r', hr', cellV, u1, u2, u3, -⟩ := hR.2 b _ (by rw [k_ws_at (k_lt hb), k_cell_o hb (q := (RX4, TX4, 3)) rfl])
  have hcls := (hK.1 4 (RX4, TX4, 3) rfl).2
  have hcomp : comp = (kD E).1 4 := Option.some.inj (k3.symm.trans hcls.1)
  subst hcomp
  obtain ⟨kC, hkC, -⟩ := hcls.2
  have hvp := k_vpin hi h0 h1
  refine W.aast cx.1 cx.2.1 hc (fun q h => by cases h) (fun h => by cases h) k1 k2 rfl hkC ⟨fun q => hvp (Or.inl q), by show _ < (arrV _ _ _).slots.size; rw [arrV_size]; exact Nat.not_le.mp fun q => hvp (Or.inr q)⟩ u1 (fun q h => by rw [u3] at h; cases h) (by rw [u2]; exact hkC) (by rw [u2]; exact va_assign hcls) rfl rfl hd fun H1 e1 e2 e3 => ?_
  have hP1 : va_P (kD E) vwCl ((k_ws E h).set a (kb E + a, .inl (kcS E, n, .inr (.inr (.inr (.inr (fun j : Nat => k_rf E (k_u h.2.2 a i (some b) a j)))))))) H1 := by
    refine hR.2.set k_wsD he ?_ e3
    show H1[kb E + a]? = some (vp_cell _ _)
    rw [e1]
    show some ((arrV _ _ _).setSlot _ _) = _
    rw [arrV_store, vp_cell_q]
    congr 2
    funext q
    rw [k_tc hi]
    unfold updV k_u
    by_cases hq : q = i.toNat
    · subst hq
      rw [if_pos rfl, if_pos ⟨rfl, k_nat h0⟩]; try rfl
    · rw [if_neg hq, if_neg (fun z => hq (by have := z.2; omega))]
  have hws := k_ws_set (E := E) (h := h) (h2 := (h.1, h.2.1, k_u h.2.2 a i (some b))) (a := a) rfl (k_cell_q (h := (h.1, h.2.1, k_u h.2.2 a i (some b))) hm) (fun b2 hb2 => k_cell_cong rfl (fun j => rfl) (fun j => k_u_ne hb2))
  rw [show (k_ws E h).set a (kb E + a, .inl (kcS E, n, .inr (.inr (.inr (.inr (fun j : Nat => k_rf E (k_u h.2.2 a i (some b) a j))))))) = k_ws E (h.1, h.2.1, k_u h.2.2 a i (some b)) from hws] at hP1
  exact k p e R s mm args below meth c H1 ls _ cells slots QQ cx g1 g2 hl (k_tl (k_tl (k_tl hS).2).2).2 ⟨hH.1, k_u_okr hH.2.1 (fun x hx => by cases hx; exact Nat.lt_trans (k_lt hb) hH.2.2.1), hH.2.2⟩ ⟨by rw [e2]; exact hR.1, hP1⟩ (hV.put e2 e3 (by show kb E ≤ kb E + a; omega)) kk
/-- returns -/
theorem kw_iret {z : Int} {ty : FieldType} (hd : decode M.2.1 pc = .ok (.ireturn, 1)) (hr : M.2.2.2 = some ty) (hn : narrow ty (.int (Int32.ofInt z)) = .int (Int32.ofInt z)) (hq : Q (some (kI z)) h) : kW E d mc ms M pc L [kI z] h Q := by
  intro p e R s mm args below meth c H ls locs cells slots QQ cx g1 g2 hl hS hH hR hV kk
  exact kk ls [kI z] pc h H locs cells slots (some (kI z)) (Or.inl ⟨z, ty, rfl, rfl, hd, hr, hn⟩) hq hS hH hR hV (by omega) (by omega)
theorem kw_ret (hd : decode M.2.1 pc = .ok (.return_, 1)) (hr : M.2.2.2 = none) (hq : Q none h) : kW E d mc ms M pc L [] h Q := by
  intro p e R s mm args below meth c H ls locs cells slots QQ cx g1 g2 hl hS hH hR hV kk
  exact kk ls [] pc h H locs cells slots none (Or.inr ⟨rfl, rfl, hd, hr⟩) hq hS hH hR hV (by omega) (by omega)
end KW4
end
section
/-! rules of the inner machine: cells that are made, the JDK's small members -/
theorem k_ws_push {E : kEnv} {h h2 : kH} {x : Nat × Nat} (hm : h2.1 = h.1 ++ [x]) (ho : ∀ b : Nat, b < h.1.length → k_cell E h2 b = k_cell E h b) : k_ws E h2 = k_ws E h ++ [(kb E + h.1.length, k_cell E h2 h.1.length)] := by
  unfold k_ws
  rw [hm, List.length_append, List.length_singleton, List.range_succ, List.map_append]
  congr 1
  refine List.map_congr_left (fun b hb => ?_)
  rw [ho b (List.mem_range.mp hb)]
/-- the numbers, the references of a cell a that is new -/
def k_zi (f : Nat → Int → Int) (a : Nat) : Nat → Int → Int := fun b j => if b = a then 0 else f b j
def k_zr (f : Nat → Int → Option Nat) (a : Nat) : Nat → Int → Option Nat := fun b j => if b = a then none else f b j
def k_new (h : kH) (x : Nat × Nat) : kH := (h.1 ++ [x], k_zi h.2.1 h.1.length, k_zr h.2.2 h.1.length)
theorem k_new_cell {E : kEnv} {h : kH} {x : Nat × Nat} {b : Nat} (hb : b < h.1.length) : k_cell E (k_new h x) b = k_cell E h b := by
  have h0 : (k_new h x).1[b]? = h.1[b]? := List.getElem?_append_left hb
  have h1 : ∀ j, (k_new h x).2.1 b j = h.2.1 b j := fun j => if_neg (by omega)
  have h3 : ∀ j, (k_new h x).2.2 b j = h.2.2 b j := fun j => if_neg (by omega)
  simp only [k_cell, h0, h1, h3, k_fv]
theorem k_new_ok {X : Nat × (Nat → Int)} {h : kH} {x : Nat × Nat} (hH : k_okH X h) (hl : h.1.length < 999999) (hx : x.2 < 2147483648) : k_okH X (k_new h x) := by
  refine ⟨fun a i => ?_, fun a i y hy => ?_, by show (h.1 ++ [x]).length < _; rw [List.length_append, List.length_singleton]; omega, hH.2.2.2.1, hH.2.2.2.2.1, fun a t n hn => ?_⟩
  · show k_in (if a = h.1.length then 0 else h.2.1 a i)
    split
    · exact k_in0
    · exact hH.1 a i
  · have hy : (if a = h.1.length then none else h.2.2 a i) = some y := hy
    split at hy
    · cases hy
    · exact hH.2.1 a i y hy
  · have hn : (h.1 ++ [x])[a]? = some (t, n) := hn
    by_cases ha : a < h.1.length
    · rw [List.getElem?_append_left ha] at hn
      exact hH.2.2.2.2.2 a t n hn
    · rw [List.getElem?_append_right (by omega)] at hn
      have := (List.getElem?_eq_some_iff.mp hn).1
      rw [show a - h.1.length = 0 by simp at this; omega] at hn
      cases hn
      exact hx
theorem k_new_at {h : kH} {x : Nat × Nat} : (k_new h x).1[h.1.length]? = some x := by
  show (h.1 ++ [x])[h.1.length]? = _
  rw [List.getElem?_append_right (Nat.le_refl _), Nat.sub_self]
  rfl
/-- a class that can be made -/
def k_mk (own : String) (idx ci N : Nat) : Prop := ∃ (C : String) (T : u_T) (ty : Nat → FieldType), vwCl[ci]? = some (C, T, N) ∧ (∀ w ∈ u_ws C T N, w ∈ k_KT) ∧ Cond.classLink own idx C ∈ k_KT ∧ Cond.instantiable C N ∈ k_KT ∧ Cond.initialized C ∈ k_KT ∧ (∀ j, j < N → parseFieldDescriptor (T j).2.2.1 = some (ty j)) ∧ (∀ j, j < N → defaultValue (ty j) = if k_fr ci j = true then .null else .int 0) ∧ N < 100
theorem k_rfz (E : kEnv) : va_rf (k_rf E none) = .null := rfl
section KW5
variable {E : kEnv} {d mc ms : Nat} {M : kMd} {pc : Nat} {L : kLs} {S : List kV} {h : kH} {Q : Option kV → kH → Prop}
theorem kw_new {idx ci N a mc2 ms2 : Nat} (hd : decode M.2.1 pc = .ok (.new idx, 3)) (q : k_mk M.1.cls idx ci N) (ha : h.1.length = a) (hl : a < 999999) (hmc : mc2 + 1 ≤ mc) (hms : ms2 + N ≤ ms) (k : kW E d mc2 ms2 M (pc + 3) L (kA a :: S) (k_new h (ci, N)) Q) : kW E d mc ms M pc L S h Q := by
  intro p e R s mm args below meth c H ls locs cells slots QQ cx g1 g2 hlr hS hH hR hV kk
  subst ha
  obtain ⟨C, T, ty, q1, q2, q3, q4, q5, q6, q7, q8⟩ := q
  have hts := cx.2.2.2.2.1
  have hK := cx.2.2.2.2.2.2.1.1
  have hKn := hK.1 ci _ q1
  have z : k_rv E (kA h.1.length) = .ref H.size := by rw [hR.1]; exact if_pos (by omega)
  refine W.newcK cx.1 cx.2.1 cx.2.2.2.1 (hts _ q3) (hts _ q4) (hts _ q5) rfl hd (by omega) (by omega) hKn.2.1 rfl fun H1 kC hkC e1 z1 o1 => ?_
  have hk : ∀ (k : Nat) (x : Nat × va_E), (k_ws E h)[k]? = some x → H1[x.1]? = H[x.1]? := fun k x hx => o1 x.1 ((hR.2 k x hx).lt)
  have hcell : k_cell E (k_new h (ci, N)) h.1.length = .inr (ci, (List.range N).map (fun k => k_fv E (k_new h (ci, N)) h.1.length ci k)) := k_cell_o k_new_at q1
  have hP1 : va_P (kD E) vwCl (k_ws E (k_new h (ci, N))) H1 := by
    rw [k_ws_push (x := (ci, N)) rfl (fun b hb => k_new_cell hb)]
    refine (hR.2.kept hk).app (fun k x hx => ?_)
    have hz : k < 1 := (List.getElem?_eq_some_iff.mp hx).1
    rw [show k = 0 by omega] at hx
    cases hx
    rw [hcell, ← hR.1]
    refine ⟨_, q1, (u_born ty hts q2 hKn hkC e1 q6).to fun j hj => ?_⟩
    rw [q7 j hj]
    have hget : ((List.range N).map (fun k => k_fv E (k_new h (ci, N)) h.1.length ci k))[j]? = some (k_fv E (k_new h (ci, N)) h.1.length ci j) := by
      rw [List.getElem?_map, List.getElem?_range hj]; rfl
    simp only [vp_V, List.getD_eq_getElem?_getD, hget, Option.getD_some]
    have r1 : (k_new h (ci, N)).2.2 h.1.length j = none := if_pos rfl
    have r2 : (k_new h (ci, N)).2.1 h.1.length j = 0 := if_pos rfl
    simp only [k_fv, r1, r2]
    split <;> rfl
  have k2 := k p e R s mm args below meth c H1 ls locs (cells + 1) (slots + N) QQ cx (by omega) (by omega) hlr (k_cons (v := kA h.1.length) trivial hS) (k_new_ok hH hl (by show N < _; omega)) ⟨by rw [z1, hR.1]; show _ = _ + (h.1 ++ [(ci, N)]).length; rw [List.length_append, List.length_singleton]; omega, hP1⟩ ⟨Nat.le_trans hV.1 (by omega), fun x h1 h2 => (o1 x (Nat.lt_of_lt_of_le h1 hV.1)).trans (hV.2.1 x h1 h2), hV.2.2⟩
    (fun ls2 S2 pc2 h2 H2 locs2 cells2 slots2 r a1 a2 a3 a4 a5 a6 a7 a8 => kk ls2 S2 pc2 h2 H2 locs2 cells2 slots2 r a1 a2 a3 a4 a5 a6 (by omega) (by omega))
  rw [List.map_cons, z] at k2
  exact k2
theorem kw_newI {n : Int} {a mc2 ms2 : Nat} (hd : decode M.2.1 pc = .ok (.newarray .int, 2)) (h0 : 0 ≤ n) (h1 : n ≤ 1000) (ha : h.1.length = a) (hl : a < 999999) (hmc : mc2 + 1 ≤ mc) (hms : ms2 + n.toNat ≤ ms) (k : kW E d mc2 ms2 M (pc + 2) L (kA a :: S) (k_new h (100, n.toNat)) Q) : kW E d mc ms M pc L (kI n :: S) h Q := by
  intro p e R s mm args below meth c H ls locs cells slots QQ cx g1 g2 hlr hS hH hR hV kk
  subst ha
  have hts := cx.2.2.2.2.1
  have hK := cx.2.2.2.2.2.2.1.1
  have hn : k_in n := (k_tl hS).1
  have z : k_rv E (kA h.1.length) = .ref H.size := by rw [hR.1]; exact if_pos (by omega)
  refine va_newaK (atype := .int) (g := F0 mm pc ls (.int (Int32.ofInt n) :: S.map (k_rv E))) cx.1 cx.2.1 (hts _ ac_int) rfl hd rfl (fun q => (k_vpin hn h0 (n := n.toNat + 1) (by omega)) (Or.inl q)) (k_tc hn) (Nat.le_trans (Nat.mul_le_mul_right _ (show n.toNat ≤ 1000 by omega)) (by decide)) (by omega) (by omega) rfl fun H1 cA e1 z1 o1 hAr hNm => ?_
  have hcA : cA = kcI E := Option.some.inj (hNm.symm.trans (hK.2 0 _ (k_ty E).1).2)
  subst hcA
  have hk : ∀ (k : Nat) (x : Nat × va_E), (k_ws E h)[k]? = some x → H1[x.1]? = H[x.1]? := fun k x hx => o1 x.1 ((hR.2 k x hx).lt)
  have hP1 : va_P (kD E) vwCl (k_ws E (k_new h (100, n.toNat))) H1 := by
    rw [k_ws_push (x := (100, n.toNat)) rfl (fun b hb => k_new_cell hb)]
    refine (hR.2.kept hk).app (fun k x hx => ?_)
    have hz : k < 1 := (List.getElem?_eq_some_iff.mp hx).1
    rw [show k = 0 by omega] at hx
    cases hx
    rw [k_cell_i k_new_at, ← hR.1]
    show H1[H.size]? = some (vp_cell _ _)
    rw [e1, vp_cell_i]
    congr 2
    funext j
    have r2 : (k_new h (100, n.toNat)).2.1 h.1.length j = 0 := if_pos rfl
    rw [r2]; rfl
  have k2 := k p e R s mm args below meth c H1 ls locs (cells + 1) (slots + n.toNat) QQ cx (by omega) (by omega) hlr (k_cons (v := kA h.1.length) trivial (k_tl hS).2) (k_new_ok hH hl (by show n.toNat < _; omega)) ⟨by rw [z1, hR.1]; show _ = _ + (h.1 ++ [(100, n.toNat)]).length; rw [List.length_append, List.length_singleton]; omega, hP1⟩ ⟨Nat.le_trans hV.1 (by omega), fun x h1 h2 => (o1 x (Nat.lt_of_lt_of_le h1 hV.1)).trans (hV.2.1 x h1 h2), hV.2.2⟩
    (fun ls2 S2 pc2 h2 H2 locs2 cells2 slots2 r a1 a2 a3 a4 a5 a6 a7 a8 => kk ls2 S2 pc2 h2 H2 locs2 cells2 slots2 r a1 a2 a3 a4 a5 a6 (by omega) (by omega))
  rw [List.map_cons, z] at k2
  exact k2
theorem kw_newC {n : Int} {a mc2 ms2 : Nat} (hd : decode M.2.1 pc = .ok (.newarray .char, 2)) (h0 : 0 ≤ n) (h1 : n ≤ 1000) (ha : h.1.length = a) (hl : a < 999999) (hmc : mc2 + 1 ≤ mc) (hms : ms2 + n.toNat ≤ ms) (k : kW E d mc2 ms2 M (pc + 2) L (kA a :: S) (k_new h (101, n.toNat)) Q) : kW E d mc ms M pc L (kI n :: S) h Q := by
  intro p e R s mm args below meth c H ls locs cells slots QQ cx g1 g2 hlr hS hH hR hV kk
  subst ha
  have hts := cx.2.2.2.2.1
  have hK := cx.2.2.2.2.2.2.1.1
  have hn : k_in n := (k_tl hS).1
  have z : k_rv E (kA h.1.length) = .ref H.size := by rw [hR.1]; exact if_pos (by omega)
  refine va_newaK (atype := .char) (g := F0 mm pc ls (.int (Int32.ofInt n) :: S.map (k_rv E))) cx.1 cx.2.1 (hts _ ac_char) rfl hd rfl (fun q => (k_vpin hn h0 (n := n.toNat + 1) (by omega)) (Or.inl q)) (k_tc hn) (Nat.le_trans (Nat.mul_le_mul_right _ (show n.toNat ≤ 1000 by omega)) (by decide)) (by omega) (by omega) rfl fun H1 cA e1 z1 o1 hAr hNm => ?_
  have hcA : cA = kcC E := Option.some.inj (hNm.symm.trans (hK.2 1 _ (k_ty E).2.1).2)
  subst hcA
  have hk : ∀ (k : Nat) (x : Nat × va_E), (k_ws E h)[k]? = some x → H1[x.1]? = H[x.1]? := fun k x hx => o1 x.1 ((hR.2 k x hx).lt)
  have hP1 : va_P (kD E) vwCl (k_ws E (k_new h (101, n.toNat))) H1 := by
    rw [k_ws_push (x := (101, n.toNat)) rfl (fun b hb => k_new_cell hb)]
    refine (hR.2.kept hk).app (fun k x hx => ?_)
    have hz : k < 1 := (List.getElem?_eq_some_iff.mp hx).1
    rw [show k = 0 by omega] at hx
    cases hx
    rw [k_cell_c k_new_at, ← hR.1]
    show H1[H.size]? = some (vp_cell _ _)
    rw [e1, vp_cell_i]
    congr 2
    funext j
    have r2 : (k_new h (101, n.toNat)).2.1 h.1.length j = 0 := if_pos rfl
    rw [r2]; rfl
  have k2 := k p e R s mm args below meth c H1 ls locs (cells + 1) (slots + n.toNat) QQ cx (by omega) (by omega) hlr (k_cons (v := kA h.1.length) trivial (k_tl hS).2) (k_new_ok hH hl (by show n.toNat < _; omega)) ⟨by rw [z1, hR.1]; show _ = _ + (h.1 ++ [(101, n.toNat)]).length; rw [List.length_append, List.length_singleton]; omega, hP1⟩ ⟨Nat.le_trans hV.1 (by omega), fun x h1 h2 => (o1 x (Nat.lt_of_lt_of_le h1 hV.1)).trans (hV.2.1 x h1 h2), hV.2.2⟩
    (fun ls2 S2 pc2 h2 H2 locs2 cells2 slots2 r a1 a2 a3 a4 a5 a6 a7 a8 => kk ls2 S2 pc2 h2 H2 locs2 cells2 slots2 r a1 a2 a3 a4 a5 a6 (by omega) (by omega))
  rw [List.map_cons, z] at k2
  exact k2
theorem kw_newQ {idx : Nat} {n : Int} {a mc2 ms2 : Nat} (hd : decode M.2.1 pc = .ok (.anewarray idx, 3)) (hw : Cond.classLink M.1.cls idx RX4 ∈ k_KT) (h0 : 0 ≤ n) (h1 : n ≤ 1000) (ha : h.1.length = a) (hl : a < 999999) (hmc : mc2 + 1 ≤ mc) (hms : ms2 + n.toNat ≤ ms) (k : kW E d mc2 ms2 M (pc + 3) L (kA a :: S) (k_new h (102, n.toNat)) Q) : kW E d mc ms M pc L (kI n :: S) h Q := by
  intro p e R s mm args below meth c H ls locs cells slots QQ cx g1 g2 hlr hS hH hR hV kk
  subst ha
  have hts := cx.2.2.2.2.1
  have hK := cx.2.2.2.2.2.2.1.1
  have hst := cx.2.2.2.2.2.2.1
  have hn : k_in n := (k_tl hS).1
  have z : k_rv E (kA h.1.length) = .ref H.size := by rw [hR.1]; exact if_pos (by omega)
  have hcl := k_tc hn
  refine W.anew (g := F0 mm pc ls (.int (Int32.ofInt n) :: S.map (k_rv E))) cx.1 cx.2.1 cx.2.2.2.1 (hts _ hw) (va_AO.use hst.2.2.2.2.2.2.2.2.2) rfl hd rfl (fun q => (k_vpin hn h0 (n := n.toNat + 1) (by omega)) (Or.inl q)) (by rw [hcl]; omega) (by omega) (by rw [hcl]; omega) fun cA kA2 comp f1 f2 f3 f4 => ?_
  rw [hcl]
  have hcA : cA = kcS E := by
    obtain ⟨_, _, _, _, _, w⟩ := (hK.2 2 _ (k_ty E).2.2).2
    exact Option.some.inj (f1.symm.trans w)
  subst hcA
  generalize hH1 : H.push ({ cls := kcS E, slots := Array.replicate n.toNat .null, vm := .none } : Cell) = H1
  have z1 : H1.size = H.size + 1 := by rw [← hH1, Array.size_push]
  have e1 : H1[H.size]? = some (arrV (kcS E) n.toNat (fun _ => .null)) := by rw [← hH1, Array.getElem?_push_size, ← arrV_new]
  have o1 : ∀ q : Nat, q < H.size → H1[q]? = H[q]? := fun q hq => by rw [← hH1, Array.getElem?_push, if_neg (Nat.ne_of_lt hq)]
  have hk : ∀ (k : Nat) (x : Nat × va_E), (k_ws E h)[k]? = some x → H1[x.1]? = H[x.1]? := fun k x hx => o1 x.1 ((hR.2 k x hx).lt)
  have hP1 : va_P (kD E) vwCl (k_ws E (k_new h (102, n.toNat))) H1 := by
    rw [k_ws_push (x := (102, n.toNat)) rfl (fun b hb => k_new_cell hb)]
    refine (hR.2.kept hk).app (fun k x hx => ?_)
    have hz : k < 1 := (List.getElem?_eq_some_iff.mp hx).1
    rw [show k = 0 by omega] at hx
    cases hx
    rw [k_cell_q k_new_at, ← hR.1]
    show H1[H.size]? = some (vp_cell _ _)
    rw [e1, vp_cell_q]
    congr 2
    funext j
    have r2 : (k_new h (102, n.toNat)).2.2 h.1.length j = none := if_pos rfl
    rw [r2]; rfl
  have k2 := k p e R s mm args below meth c H1 ls locs (cells + 1) (slots + n.toNat) QQ cx (by omega) (by omega) hlr (k_cons (v := kA h.1.length) trivial (k_tl hS).2) (k_new_ok hH hl (by show n.toNat < _; omega)) ⟨by rw [z1, hR.1]; show _ = _ + (h.1 ++ [(102, n.toNat)]).length; rw [List.length_append, List.length_singleton]; omega, hP1⟩ ⟨Nat.le_trans hV.1 (by omega), fun x h1 h2 => (o1 x (Nat.lt_of_lt_of_le h1 hV.1)).trans (hV.2.1 x h1 h2), hV.2.2⟩
    (fun ls2 S2 pc2 h2 H2 locs2 cells2 slots2 r a1 a2 a3 a4 a5 a6 a7 a8 => kk ls2 S2 pc2 h2 H2 locs2 cells2 slots2 r a1 a2 a3 a4 a5 a6 (by omega) (by omega))
  rw [List.map_cons, z] at k2
  exact k2
theorem k_sum (E : kEnv) {s : State} (hs : k_stat E s) (S : List kV) : ((S.map (k_rv E)).map fun v => v.category).sum = (S.map k_wd).sum := by
  induction S with
  | nil => rfl
  | cons v S ih =>
    simp only [List.map_cons, List.sum_cons, ih]
    congr 1
    rcases v with z | z | r
    · rfl
    · rfl
    · exact k_cat hs (v := kR r) trivial
theorem kw_objInit {idx a : Nat} (hd : decode M.2.1 pc = .ok (.invokespecial idx, 3)) (hw : Cond.methodLink M.1.cls idx objectInit ∈ k_KT) (ha : a < 1000000) (hwd : (S.map k_wd).sum ≤ 8) (hd1 : 1 ≤ d) (k : kW E d mc ms M (pc + 3) L S h Q) : kW E d mc ms M pc L (kA a :: S) h Q := by
  intro p e R s mm args below meth c H ls locs cells slots QQ cx g1 g2 hl hS hH hR hV kk
  have z : k_rv E (kA a) = .ref (kb E + a) := if_pos ha
  have hts := cx.2.2.2.2.1
  have k2 := k p e R s mm args below meth c H ls locs cells slots QQ cx g1 g2 hl (k_tl hS).2 hH hR hV kk
  rw [List.map_cons, z]
  refine W.objInit cx.1 cx.2.1 cx.2.2.2.1 (hts _ hw) (hts _ im_obj) (hts _ co_obj) rfl (by rw [cx.2.2.1]; exact hl.1) rfl hd (by have := cx.2.2.2.2.2.2.2.1; omega) ?_ ?_
  · rw [k_sum E cx.2.2.2.2.2.2.1]
    have := cx.2.2.2.2.2.2.2.2.1
    show 2 * 0 + _ + 12 ≤ _
    omega
  · exact W.eq (g2 := F0 mm (pc + 3) ls (S.map (k_rv E))) rfl k2
theorem kw_max {idx : Nat} {x y : Int} (hd : decode M.2.1 pc = .ok (.invokestatic idx, 3)) (hw : Cond.methodLink M.1.cls idx Lib.Math.max.name ∈ k_KT) (hwd : (S.map k_wd).sum ≤ 8) (hd1 : 1 ≤ d) (k : kW E d mc ms M (pc + 3) L (kI (if x < y then y else x) :: S) h Q) : kW E d mc ms M pc L (kI y :: kI x :: S) h Q := by
  intro p e R s mm args below meth c H ls locs cells slots QQ cx g1 g2 hl hS hH hR hV kk
  have hts := cx.2.2.2.2.1
  have hy : k_in y := (k_tl hS).1
  have hx : k_in x := (k_tl (k_tl hS).2).1
  have k2 := k p e R s mm args below meth c H ls locs cells slots QQ cx g1 g2 hl (k_consI (by split <;> assumption) (k_tl (k_tl hS).2).2) hH hR hV kk
  refine va_mmax cx.1 cx.2.1 (by rw [cx.2.2.1]; exact hl.1.symm) cx.2.2.2.1 (hts _ hw) (hts _ st_mmax) (hts _ in_J9) (hts _ co_mmax) (by have := cx.2.2.2.2.2.2.2.1; omega) ?_ (by omega) (by omega) hd ?_
  · rw [k_sum E cx.2.2.2.2.2.2.1]
    have := cx.2.2.2.2.2.2.2.2.1
    omega
  · have e1 : (if Int32.ofInt x < Int32.ofInt y then Int32.ofInt y else Int32.ofInt x) = Int32.ofInt (if x < y then y else x) := by
      by_cases hh : x < y
      · rw [if_pos hh, if_pos ((k_lti hx hy).mpr hh)]
      · rw [if_neg hh, if_neg (fun q => hh ((k_lti hx hy).mp q))]
    rw [e1]
    exact k2
theorem kw_min {idx : Nat} {x y : Int} (hd : decode M.2.1 pc = .ok (.invokestatic idx, 3)) (hw : Cond.methodLink M.1.cls idx Lib.Math.min.name ∈ k_KT) (hwd : (S.map k_wd).sum ≤ 8) (hd1 : 1 ≤ d) (k : kW E d mc ms M (pc + 3) L (kI (if y < x then y else x) :: S) h Q) : kW E d mc ms M pc L (kI y :: kI x :: S) h Q := by
  intro p e R s mm args below meth c H ls locs cells slots QQ cx g1 g2 hl hS hH hR hV kk
  have hts := cx.2.2.2.2.1
  have hy : k_in y := (k_tl hS).1
  have hx : k_in x := (k_tl (k_tl hS).2).1
  have k2 := k p e R s mm args below meth c H ls locs cells slots QQ cx g1 g2 hl (k_consI (by split <;> assumption) (k_tl (k_tl hS).2).2) hH hR hV kk
  refine va_mmin cx.1 cx.2.1 (by rw [cx.2.2.1]; exact hl.1.symm) cx.2.2.2.1 (hts _ hw) (hts _ st_mmin) (hts _ in_J9) (hts _ co_mmin) (by have := cx.2.2.2.2.2.2.2.1; omega) ?_ (by omega) (by omega) hd ?_
  · rw [k_sum E cx.2.2.2.2.2.2.1]
    have := cx.2.2.2.2.2.2.2.2.1
    omega
  · have e1 : (if Int32.ofInt y < Int32.ofInt x then Int32.ofInt y else Int32.ofInt x) = Int32.ofInt (if y < x then y else x) := by
      by_cases hh : y < x
      · rw [if_pos hh, if_pos ((k_lti hy hx).mpr hh)]
      · rw [if_neg hh, if_neg (fun q => hh ((k_lti hy hx).mp q))]
    rw [e1]
    exact k2
end KW5
end
section
/-! a method's contract over the inner machine, and calls -/
def k_wds (M : kMd) : List Cond := Cond.code M.1 M.2.1 M.2.2.1 M.2.2.2 :: k_KT
def k_rm (d mc ms : Nat) : Room := { frames := d, cells := mc, slots := ms, locals := 45 * d }
def k_Pc (E : kEnv) (As : List kV) (h : kH) : Array Value → State → Prop := fun v U => v = (As.map (k_rv E)).toArray ∧ k_stat E U ∧ k_rel E h U.heap
def k_Qc (E : kEnv) (Q : Option kV → kH → Prop) : Array Value → State → Outcome → State → Prop := fun _ st o t => (∃ (r : Option kV) (h2 : kH), o = .returned (r.map (k_rv E)) ∧ Q r h2 ∧ (∀ v, r = some v → k_ok v) ∧ k_okH (kX E) h2 ∧ k_rel E h2 t.heap) ∧ va_F (k_A E) st t
/-- the contract: called with As over the cells h, it returns r with the cells h2, for which Q holds; d frames deep, at most mc cells of ms slots made -/
def kC (E : kEnv) (d mc ms : Nat) (M : kMd) (As : List kV) (h : kH) (Q : Option kV → kH → Prop) : Prop := k_okH (kX E) h → (∀ v ∈ As, k_ok v) → Met (kl E) M.1 (k_wds M) (k_rm d mc ms) (k_Pc E As h) (k_Qc E Q) mc ms (k_A E)
theorem k_blind (E : kEnv) (As : List kV) (h : kH) : FrameBlind (k_Pc E As h) := fun _ U g mk q => ⟨q.1, k_stat_same (s := U) q.2.1 rfl rfl, q.2.2⟩
theorem k_lg {vs : List Value} (h : ∀ v ∈ vs, v.category = 1) : lg_sl vs = vs.map Slot.val := by
  induction vs with
  | nil => rfl
  | cons v t ih =>
    have h1 := h v List.mem_cons_self
    have h2 := ih (fun w hw => h w (List.mem_cons_of_mem _ hw))
    unfold lg_sl at h2 ⊢
    rw [List.flatMap_cons, h2, if_neg (by omega)]
    rfl
theorem k_lr0 {E : kEnv} {s : State} (hs : k_stat E s) {As : List kV} {nL : Nat} (hone : ∀ v ∈ As, k_one v) (hok : ∀ v ∈ As, k_ok v) (hlen : As.length ≤ nL) :
    k_lr E nL (As.map some ++ List.replicate (nL - As.length) none) ((lg_sl (As.map (k_rv E)) ++ List.replicate (nL - (lg_sl (As.map (k_rv E))).length) Slot.unset).toArray) := by
  have hc : ∀ v ∈ As.map (k_rv E), v.category = 1 := by
    intro v hv
    obtain ⟨w, hw, rfl⟩ := List.mem_map.mp hv
    exact k_cat hs (hone w hw)
  have e1 := k_lg hc
  have hL := lv_entry (As.map (k_rv E)) (n := nL) (by rw [e1]; simpa using hlen)
  refine ⟨hL.1, by simp; omega, hL.2.1, fun i v hi => ?_⟩
  by_cases hlt : i < As.length
  · rw [List.getElem?_append_left (by simpa using hlt), List.getElem?_map] at hi
    cases hA : As[i]? with
    | none => rw [hA] at hi; cases hi
    | some w =>
      rw [hA] at hi
      cases hi
      refine ⟨?_, hok v (List.mem_of_getElem? hA)⟩
      rw [List.getElem?_toArray, e1, List.getElem?_append_left (by simpa using hlt), List.getElem?_map, List.getElem?_map, hA]
      rfl
  · rw [List.getElem?_append_right (by simpa using hlt)] at hi
    have := List.mem_of_getElem? hi
    have := List.eq_of_mem_replicate this
    cases this
theorem kC_of {E : kEnv} {d mc ms : Nat} {M : kMd} {As : List kV} {h : kH} {Q : Option kV → kH → Prop} (hy : plainName M.1.cls = true) (hone : ∀ v ∈ As, k_one v) (hlen : As.length ≤ M.2.2.1)
    (k : kW E d mc ms M 0 (As.map some ++ List.replicate (M.2.2.1 - As.length) none) [] h Q) : kC E d mc ms M As h Q := by
  intro hH hAs
  refine Met.ofW (cc := M.2.1) (maxL := M.2.2.1) (ret := M.2.2.2) hy rfl ?_
  intro p e s m args below meth c s₁ B hml hv
  obtain ⟨rfl, hst, hrel⟩ := hv
  have hts := atoms_spec (ws := k_wds M) B.pre
  have hown : s.vm.findClass M.1.cls = some m.cls := findClass_of_methodNamed B.named
  have hnm := (name_of_methodNamed B.named B.method).1
  rw [lg_entry_eq]
  have hl := k_lr0 hst hone hAs hlen
  refine k p e _ s m _ below meth c s.heap _ [] 0 0 _ ⟨B.exec, B.bytes, hml, hown, fun w hw => hts w (List.mem_cons_of_mem _ hw), fun q => by rw [hnm]; exact q, hst, Nat.le_refl _, Nat.le_refl _, by rw [hrel.1]; omega⟩ (by show 0 + mc ≤ mc; omega) (by show 0 + ms ≤ ms; omega) hl (fun v hv => by cases hv) hH hrel va_S.rf ?_
  intro ls2 S2 pc2 h2 H2 locs2 cells2 slots2 r hrt hQ hS2 hH2 hR2 hV2 hc9 hs9
  refine W.widen (k := mc) (n := ms) (by omega) (by omega) ?_
  rcases hrt with ⟨z, ty, rfl, rfl, hd, hr, hn⟩ | ⟨rfl, rfl, hd, hr⟩
  · exact W.zret B.exec B.bytes (B.returns.trans hr) hn (fun t ht hW => ⟨⟨some (kI z), h2, rfl, hQ, (fun v hv => by cases hv; exact (k_tl hS2).1), hH2, by rw [ht]; exact hR2⟩, hV2.F ht⟩) hV2.2.2 hd B.notSynchronized
  · exact W.vret B.exec B.bytes (B.returns.trans hr) (fun t ht hW => ⟨⟨none, h2, rfl, hQ, (fun v hv => by cases hv), hH2, by rw [ht]; exact hR2⟩, hV2.F ht⟩) hV2.2.2 hd B.notSynchronized
/-- what a callee must be -/
def k_qn (M2 : kMd) (n : Nat) : Prop := Cond.code M2.1 M2.2.1 M2.2.2.1 M2.2.2.2 ∈ k_KT ∧ Cond.initialized M2.1.cls ∈ k_KT ∧ (M2.1.cls ≠ "java/lang/invoke/MethodHandle" ∧ M2.1.cls ≠ "java/lang/invoke/VarHandle") ∧ (parseMethodDescriptor M2.1.desc).map (fun d => d.parameters.length) = some n ∧ M2.2.2.1 ≤ 26
def k_qV (M2 : kMd) (n : Nat) : Prop := k_qn M2 n ∧ Cond.instanceMethod M2.1 ∈ k_KT ∧ Cond.selects M2.1.cls M2.1 M2.1 ∈ k_KT
def k_qS (M2 : kMd) (n : Nat) : Prop := k_qn M2 n ∧ Cond.static M2.1 ∈ k_KT
def k_qI (M2 : kMd) (n : Nat) : Prop := k_qn M2 n ∧ Cond.instanceMethod M2.1 ∈ k_KT ∧ M2.1.name = "<init>" ∧ M2.2.2.2 = none
theorem k_wdok {s : State} {args : Array Value} {M2 : kMd} (hts : ∀ w ∈ k_KT, w.before args s = true) (hc : Cond.code M2.1 M2.2.1 M2.2.2.1 M2.2.2.2 ∈ k_KT) : ∀ w ∈ k_wds M2, ∀ (a' : Array Value) (U : State), s.WarmedH U.vm → w.before a' U = true := by
  intro w hw a' U hW
  have hm : w ∈ k_KT := by
    rcases List.mem_cons.mp hw with rfl | h
    · exact hc
    · exact h
  exact word_at hW (good_of_word (k_good w hm)) (hts w hm)
theorem k_toL (E : kEnv) (r : Option kV) (S : List kV) : (r.map (k_rv E)).toList ++ S.map (k_rv E) = (r.toList ++ S).map (k_rv E) := by
  cases r <;> rfl
theorem k_rvS (E : kEnv) (j : Nat) : k_rv E (kA (1000000 + j)) = ksv E j := by
  simp only [k_rv]
  rw [if_neg (by omega), Nat.add_sub_cancel_left]
section KAft
variable {E : kEnv} {p : Program} {e : Env} {R : Room} {s : State} {m : MethodId} {args : Array Value} {below : List Frame} {meth : Method} {c : Code} {H : Heap} {locs : List Loc} {cells slots mc2 ms2 : Nat} {QQ : State → Prop} {pc : Nat} {ls : Array Slot} {S : List kV} {st0 : List Value} {a : Array Value} {Q2 : Option kV → kH → Prop}
theorem k_after (hr : va_Run p (kl E) e R s m args below meth c H locs cells slots mc2 ms2 (F0 m pc ls st0) (S.map (k_rv E)) (k_Qc E Q2 a) (k_A E)) (hV : va_S (k_A E) s.heap H locs)
    (kk : ∀ (r : Option kV) (h2 : kH) (H1 : Heap) (locs1 : List Loc), Q2 r h2 → (∀ v, r = some v → k_ok v) → k_okH (kX E) h2 → k_rel E h2 H1 → va_S (k_A E) s.heap H1 locs1 → W p (kl E) e R s m args below meth c H1 locs1 (cells + mc2) (slots + ms2) QQ (F0 m (pc + 3) ls ((r.toList ++ S).map (k_rv E)))) : W p (kl E) e R s m args below meth c H locs cells slots QQ (F0 m pc ls st0) := by
  intro T hT X
  obtain ⟨v, st₀, t, T', L, h0, X', hL, e1, e2, ⟨⟨r, h2, hv, hq, hok, hH2, hR2⟩, hF⟩, st⟩ := hr T hT X
  cases hv
  obtain ⟨hz, hk⟩ := hF
  rw [h0] at hz hk
  obtain ⟨t2, a1, b1⟩ := kk r h2 T'.heap (locs ++ L) hq hok hH2 (by rw [e1]; exact hR2)
    ⟨Nat.le_trans hV.1 (by rw [e1]; exact hz), fun q h1 h2 => by rw [e1, hk q (Nat.lt_of_lt_of_le h1 hV.1) h2]; exact hV.2.1 q h1 h2, fun q hq => by
      rcases List.mem_append.mp hq with h | h
      · exact hV.2.2 q h
      · exact hL q h⟩ T' rfl X'
  rw [← k_toL] at a1
  exact ⟨t2, st t2 a1, b1⟩
end KAft
section KW6
variable {E : kEnv} {d mc ms d2 mc2 ms2 mc3 ms3 : Nat} {M M2 : kMd} {pc idx : Nat} {L : kLs} {S S0 As : List kV} {h : kH} {Q Q2 : Option kV → kH → Prop}
theorem k_oks {S0 As S : List kV} {b : kV} (h : ∀ v ∈ S0, k_ok v) (hs : S0 = As.reverse ++ b :: S) : (∀ v ∈ b :: As, k_ok v) ∧ ∀ v ∈ S, k_ok v := by
  subst hs
  refine ⟨fun v hv => h v ?_, fun v hv => h v (List.mem_append_right _ (List.mem_cons_of_mem _ hv))⟩
  rcases List.mem_cons.mp hv with rfl | q
  · exact List.mem_append_right _ List.mem_cons_self
  · exact List.mem_append_left _ (List.mem_reverse.mpr q)
theorem k_oks0 {S0 As S : List kV} (h : ∀ v ∈ S0, k_ok v) (hs : S0 = As.reverse ++ S) : (∀ v ∈ As, k_ok v) ∧ ∀ v ∈ S, k_ok v := by
  subst hs
  exact ⟨fun v hv => h v (List.mem_append_left _ (List.mem_reverse.mpr hv)), fun v hv => h v (List.mem_append_right _ hv)⟩
theorem k_okr {r : Option kV} (h1 : ∀ v, r = some v → k_ok v) (h2 : ∀ v ∈ S, k_ok v) : ∀ v ∈ r.toList ++ S, k_ok v := by
  cases r with
  | none => exact h2
  | some v => exact List.forall_mem_cons.mpr ⟨h1 v rfl, h2⟩
/-- invokevirtual of one of the class's own methods -/
theorem kw_callV {b ci N : Nat} {T : u_T} (hd : decode M.2.1 pc = .ok (.invokevirtual idx, 3)) (hlk : Cond.methodLink M.1.cls idx M2.1 ∈ k_KT) (q : k_qV M2 As.length) (hcl : vwCl[ci]? = some (M2.1.cls, T, N)) (hb : h.1[b]? = some (ci, N)) (hs0 : S0 = As.reverse ++ kA b :: S) (hwd : (S.map k_wd).sum ≤ 8) (hc : kC E d2 mc2 ms2 M2 (kA b :: As) h Q2) (hd2 : d2 + 1 ≤ d) (hmc : mc3 + mc2 ≤ mc) (hms : ms3 + ms2 ≤ ms)
    (k : ∀ (r : Option kV) (h2 : kH), Q2 r h2 → kW E d mc3 ms3 M (pc + 3) L (r.toList ++ S) h2 Q) : kW E d mc ms M pc L S0 h Q := by
  intro p e R s mm args below meth c H ls locs cells slots QQ cx g1 g2 hl hS hH hR hV kk
  obtain ⟨⟨q1, q2, q3, q4, q5⟩, q6, q7⟩ := q
  have hts := cx.2.2.2.2.1
  have hst := cx.2.2.2.2.2.2.1
  have hfr := cx.2.2.2.2.2.2.2.1
  have hlo := cx.2.2.2.2.2.2.2.2.1
  obtain ⟨ok1, ok2⟩ := k_oks hS hs0
  have hM := hc hH ok1
  have hrv := k_rvA (E := E) hH hb
  refine k_after (S := S) (a := (Value.ref (kb E + b) :: As.map (k_rv E)).toArray) (va_runV (C := M2.1.cls) (b := kb E + b) (n := As.length) (cc := M.2.1) (nL := M.2.2.1) (Ts := k_KT) (As := As.map (k_rv E)) ⟨cx.1, cx.2.1, cx.2.2.1, cx.2.2.2.1, hts⟩ hM
    ⟨⟨rfl, rfl, by show d2 + 1 ≤ _; omega, by show _ + 45 * d2 ≤ _; omega, k_wdok hts q1, List.mem_cons_self, hts _ q1, hts _ q2, q3, fun sig hs => ?_, hts _ hlk⟩, hts _ q6, hts _ q7⟩
    ⟨k_blind E _ h, ?_, fun U hU hW => ⟨?_, k_stat_move hst hW (fun a _ hA => by rw [hU]; exact hV.2.1 a ‹_› hA), by rw [hU]; exact hR⟩⟩ rfl (by simp) (by exact hl.1) ?_ ?_ hd ⟨by omega, by omega⟩) hV ?_
  · rw [hs] at q4
    exact (Option.some.inj q4).symm
  · obtain ⟨r', hr', cellV, u1, u2, u3, -⟩ := hR.2 b _ (by rw [k_ws_at (k_lt hb), k_cell_o hb hcl])
    have hr : r' = (M2.1.cls, T, N) := Option.some.inj (hr'.symm.trans hcl)
    subst hr
    exact ⟨cellV, u1, by rw [u3]; rfl, by rw [u2]; exact (hst.1.1 ci _ hcl).2.1⟩
  · rw [List.map_cons, hrv]
  · rw [hs0, List.map_append, List.map_reverse, List.map_cons, hrv]
  · have := k_sum E hst S
    exact lv_room (by rw [this]; exact hwd)
  · intro r h2 H1 locs1 a1 a2 a3 a4 a5
    exact k r h2 a1 p e R s mm args below meth c H1 ls locs1 (cells + mc2) (slots + ms2) QQ cx (by omega) (by omega) hl (k_okr a2 ok2) a3 a4 a5
      (fun ls2 S2 pc2 h2 H2 locs2 cells2 slots2 r b1 b2 b3 b4 b5 b6 b7 b8 => kk ls2 S2 pc2 h2 H2 locs2 cells2 slots2 r b1 b2 b3 b4 b5 b6 (by omega) (by omega))
theorem kw_callS (hd : decode M.2.1 pc = .ok (.invokestatic idx, 3)) (hlk : Cond.methodLink M.1.cls idx M2.1 ∈ k_KT) (q : k_qS M2 As.length) (hs0 : S0 = As.reverse ++ S) (hwd : (S.map k_wd).sum ≤ 8) (hc : kC E d2 mc2 ms2 M2 As h Q2) (hd2 : d2 + 1 ≤ d) (hmc : mc3 + mc2 ≤ mc) (hms : ms3 + ms2 ≤ ms)
    (k : ∀ (r : Option kV) (h2 : kH), Q2 r h2 → kW E d mc3 ms3 M (pc + 3) L (r.toList ++ S) h2 Q) : kW E d mc ms M pc L S0 h Q := by
  intro p e R s mm args below meth c H ls locs cells slots QQ cx g1 g2 hl hS hH hR hV kk
  obtain ⟨⟨q1, q2, q3, q4, q5⟩, q6⟩ := q
  have hts := cx.2.2.2.2.1
  have hst := cx.2.2.2.2.2.2.1
  have hfr := cx.2.2.2.2.2.2.2.1
  have hlo := cx.2.2.2.2.2.2.2.2.1
  obtain ⟨ok1, ok2⟩ := k_oks0 hS hs0
  have hM := hc hH ok1
  refine k_after (S := S) (a := (As.map (k_rv E)).toArray) (va_runS (n := As.length) (cc := M.2.1) (nL := M.2.2.1) (Ts := k_KT) (As := As.map (k_rv E)) ⟨cx.1, cx.2.1, cx.2.2.1, cx.2.2.2.1, hts⟩ hM
    ⟨⟨rfl, rfl, by show d2 + 1 ≤ _; omega, by show _ + 45 * d2 ≤ _; omega, k_wdok hts q1, List.mem_cons_self, hts _ q1, hts _ q2, q3, fun sig hs => ?_, hts _ hlk⟩, hts _ q6⟩
    ⟨k_blind E _ h, fun U hU hW => ⟨rfl, k_stat_move hst hW (fun a _ hA => by rw [hU]; exact hV.2.1 a ‹_› hA), by rw [hU]; exact hR⟩⟩ rfl (by simp) (by exact hl.1) ?_ ?_ hd ⟨by omega, by omega⟩) hV ?_
  · rw [hs] at q4
    exact (Option.some.inj q4).symm
  · rw [hs0, List.map_append, List.map_reverse]
  · have := k_sum E hst S
    exact lv_room (by rw [this]; exact hwd)
  · intro r h2 H1 locs1 a1 a2 a3 a4 a5
    exact k r h2 a1 p e R s mm args below meth c H1 ls locs1 (cells + mc2) (slots + ms2) QQ cx (by omega) (by omega) hl (k_okr a2 ok2) a3 a4 a5
      (fun ls2 S2 pc2 h2 H2 locs2 cells2 slots2 r b1 b2 b3 b4 b5 b6 b7 b8 => kk ls2 S2 pc2 h2 H2 locs2 cells2 slots2 r b1 b2 b3 b4 b5 b6 (by omega) (by omega))
theorem kw_callI {b : Nat} (hd : decode M.2.1 pc = .ok (.invokespecial idx, 3)) (hlk : Cond.methodLink M.1.cls idx M2.1 ∈ k_KT) (q : k_qI M2 As.length) (hb : b < 1000000) (hs0 : S0 = As.reverse ++ kA b :: S) (hwd : (S.map k_wd).sum ≤ 8) (hc : kC E d2 mc2 ms2 M2 (kA b :: As) h Q2) (hd2 : d2 + 1 ≤ d) (hmc : mc3 + mc2 ≤ mc) (hms : ms3 + ms2 ≤ ms)
    (k : ∀ (r : Option kV) (h2 : kH), Q2 r h2 → kW E d mc3 ms3 M (pc + 3) L (r.toList ++ S) h2 Q) : kW E d mc ms M pc L S0 h Q := by
  intro p e R s mm args below meth c H ls locs cells slots QQ cx g1 g2 hl hS hH hR hV kk
  obtain ⟨⟨q1, q2, q3, q4, q5⟩, q6, q7, q8⟩ := q
  have hts := cx.2.2.2.2.1
  have hst := cx.2.2.2.2.2.2.1
  have hfr := cx.2.2.2.2.2.2.2.1
  have hlo := cx.2.2.2.2.2.2.2.2.1
  obtain ⟨ok1, ok2⟩ := k_oks hS hs0
  have hM := hc hH ok1
  have hrv : k_rv E (kA b) = .ref (kb E + b) := if_pos hb
  rw [q8] at q1
  have q1' := q1
  rw [← q8] at q1'
  refine k_after (S := S) (a := (Value.ref (kb E + b) :: As.map (k_rv E)).toArray) (va_runI (b := kb E + b) (n := As.length) (cc := M.2.1) (nL := M.2.2.1) (Ts := k_KT) (As := As.map (k_rv E)) ⟨cx.1, cx.2.1, cx.2.2.1, cx.2.2.2.1, hts⟩ hM
    ⟨⟨rfl, rfl, by show d2 + 1 ≤ _; omega, by show _ + 45 * d2 ≤ _; omega, k_wdok hts q1', by rw [← q8]; exact List.mem_cons_self, hts _ q1, hts _ q2, q3, fun sig hs => ?_, hts _ hlk⟩, q7, hts _ q6⟩
    ⟨k_blind E _ h, fun U hU hW => ⟨?_, k_stat_move hst hW (fun a _ hA => by rw [hU]; exact hV.2.1 a ‹_› hA), by rw [hU]; exact hR⟩⟩ rfl (by simp) (by exact hl.1) ?_ ?_ hd ⟨by omega, by omega⟩) hV ?_
  · rw [hs] at q4
    exact (Option.some.inj q4).symm
  · rw [List.map_cons, hrv]
  · rw [hs0, List.map_append, List.map_reverse, List.map_cons, hrv]
  · have := k_sum E hst S
    exact lv_room (by rw [this]; exact hwd)
  · intro r h2 H1 locs1 a1 a2 a3 a4 a5
    exact k r h2 a1 p e R s mm args below meth c H1 ls locs1 (cells + mc2) (slots + ms2) QQ cx (by omega) (by omega) hl (k_okr a2 ok2) a3 a4 a5
      (fun ls2 S2 pc2 h2 H2 locs2 cells2 slots2 r b1 b2 b3 b4 b5 b6 b7 b8 => kk ls2 S2 pc2 h2 H2 locs2 cells2 slots2 r b1 b2 b3 b4 b5 b6 (by omega) (by omega))
theorem kw_callIN {b : Nat} (hd : decode M.2.1 pc = .ok (.invokespecial idx, 3)) (hlk : (idx, M.1.cls, M2.1) ∈ k_nest) (q : k_qI M2 As.length) (hb : b < 1000000) (hs0 : S0 = As.reverse ++ kA b :: S) (hwd : (S.map k_wd).sum ≤ 8) (hc : kC E d2 mc2 ms2 M2 (kA b :: As) h Q2) (hd2 : d2 + 1 ≤ d) (hmc : mc3 + mc2 ≤ mc) (hms : ms3 + ms2 ≤ ms)
    (k : ∀ (r : Option kV) (h2 : kH), Q2 r h2 → kW E d mc3 ms3 M (pc + 3) L (r.toList ++ S) h2 Q) : kW E d mc ms M pc L S0 h Q := by
  intro p e R s mm args below meth c H ls locs cells slots QQ cx g1 g2 hl hS hH hR hV kk
  obtain ⟨⟨q1, q2, q3, q4, q5⟩, q6, q7, q8⟩ := q
  have hts := cx.2.2.2.2.1
  have hst := cx.2.2.2.2.2.2.1
  have hfr := cx.2.2.2.2.2.2.2.1
  have hlo := cx.2.2.2.2.2.2.2.2.1
  obtain ⟨ok1, ok2⟩ := k_oks hS hs0
  have hM := hc hH ok1
  have hrv : k_rv E (kA b) = .ref (kb E + b) := if_pos hb
  rw [q8] at q1
  have q1' := q1
  rw [← q8] at q1'
  have hne := hst.2.2.2.2.2.2.2.2.1 _ hlk
  refine k_after (S := S) (a := (Value.ref (kb E + b) :: As.map (k_rv E)).toArray) (va_runIN (b := kb E + b) (host := RX6) (n := As.length) (cc := M.2.1) (nL := M.2.2.1) (Ts := k_KT) (As := As.map (k_rv E)) ⟨cx.1, cx.2.1, cx.2.2.1, cx.2.2.2.1, hts⟩ hM
    ⟨⟨⟨rfl, rfl, by show d2 + 1 ≤ _; omega, by show _ + 45 * d2 ≤ _; omega, k_wdok hts q1', by rw [← q8]; exact List.mem_cons_self⟩, hts _ q1, hts _ q2, q3, fun sig hs => ?_, va_Nw.use rfl hne⟩, q7, hts _ q6⟩
    ⟨k_blind E _ h, fun U hU hW => ⟨?_, k_stat_move hst hW (fun a _ hA => by rw [hU]; exact hV.2.1 a ‹_› hA), by rw [hU]; exact hR⟩⟩ rfl (by simp) (by exact hl.1) ?_ ?_ hd ⟨by omega, by omega⟩) hV ?_
  · rw [hs] at q4
    exact (Option.some.inj q4).symm
  · rw [List.map_cons, hrv]
  · rw [hs0, List.map_append, List.map_reverse, List.map_cons, hrv]
  · have := k_sum E hst S
    exact lv_room (by rw [this]; exact hwd)
  · intro r h2 H1 locs1 a1 a2 a3 a4 a5
    exact k r h2 a1 p e R s mm args below meth c H1 ls locs1 (cells + mc2) (slots + ms2) QQ cx (by omega) (by omega) hl (k_okr a2 ok2) a3 a4 a5
      (fun ls2 S2 pc2 h2 H2 locs2 cells2 slots2 r b1 b2 b3 b4 b5 b6 b7 b8 => kk ls2 S2 pc2 h2 H2 locs2 cells2 slots2 r b1 b2 b3 b4 b5 b6 (by omega) (by omega))
theorem kw_callSN (hd : decode M.2.1 pc = .ok (.invokestatic idx, 3)) (hlk : (idx, M.1.cls, M2.1) ∈ k_nest) (q : k_qS M2 As.length) (hs0 : S0 = As.reverse ++ S) (hwd : (S.map k_wd).sum ≤ 8) (hc : kC E d2 mc2 ms2 M2 As h Q2) (hd2 : d2 + 1 ≤ d) (hmc : mc3 + mc2 ≤ mc) (hms : ms3 + ms2 ≤ ms)
    (k : ∀ (r : Option kV) (h2 : kH), Q2 r h2 → kW E d mc3 ms3 M (pc + 3) L (r.toList ++ S) h2 Q) : kW E d mc ms M pc L S0 h Q := by
  intro p e R s mm args below meth c H ls locs cells slots QQ cx g1 g2 hl hS hH hR hV kk
  obtain ⟨⟨q1, q2, q3, q4, q5⟩, q6⟩ := q
  have hts := cx.2.2.2.2.1
  have hst := cx.2.2.2.2.2.2.1
  have hfr := cx.2.2.2.2.2.2.2.1
  have hlo := cx.2.2.2.2.2.2.2.2.1
  obtain ⟨ok1, ok2⟩ := k_oks0 hS hs0
  have hM := hc hH ok1
  have hne := hst.2.2.2.2.2.2.2.2.1 _ hlk
  refine k_after (S := S) (a := (As.map (k_rv E)).toArray) (va_runSN (host := RX6) (n := As.length) (cc := M.2.1) (nL := M.2.2.1) (Ts := k_KT) (As := As.map (k_rv E)) ⟨cx.1, cx.2.1, cx.2.2.1, cx.2.2.2.1, hts⟩ hM
    ⟨⟨⟨rfl, rfl, by show d2 + 1 ≤ _; omega, by show _ + 45 * d2 ≤ _; omega, k_wdok hts q1, List.mem_cons_self⟩, hts _ q1, hts _ q2, q3, fun sig hs => ?_, va_Nw.use rfl hne⟩, hts _ q6, trivial⟩
    ⟨k_blind E _ h, fun U hU hW => ⟨rfl, k_stat_move hst hW (fun a _ hA => by rw [hU]; exact hV.2.1 a ‹_› hA), by rw [hU]; exact hR⟩⟩ rfl (by simp) (by exact hl.1) ?_ ?_ hd ⟨by omega, by omega⟩) hV ?_
  · rw [hs] at q4
    exact (Option.some.inj q4).symm
  · rw [hs0, List.map_append, List.map_reverse]
  · have := k_sum E hst S
    exact lv_room (by rw [this]; exact hwd)
  · intro r h2 H1 locs1 a1 a2 a3 a4 a5
    exact k r h2 a1 p e R s mm args below meth c H1 ls locs1 (cells + mc2) (slots + ms2) QQ cx (by omega) (by omega) hl (k_okr a2 ok2) a3 a4 a5
      (fun ls2 S2 pc2 h2 H2 locs2 cells2 slots2 r b1 b2 b3 b4 b5 b6 b7 b8 => kk ls2 S2 pc2 h2 H2 locs2 cells2 slots2 r b1 b2 b3 b4 b5 b6 (by omega) (by omega))
/-- a method of String, on the class's own text -/
theorem kw_callVS (hd : decode M.2.1 pc = .ok (.invokevirtual idx, 3)) (hlk : Cond.methodLink M.1.cls idx M2.1 ∈ k_KT) (q : k_qV M2 As.length) (hcl : M2.1.cls = RJ0) (hs0 : S0 = As.reverse ++ kA 1000003 :: S) (hwd : (S.map k_wd).sum ≤ 8) (hc : kC E d2 mc2 ms2 M2 (kA 1000003 :: As) h Q2) (hd2 : d2 + 1 ≤ d) (hmc : mc3 + mc2 ≤ mc) (hms : ms3 + ms2 ≤ ms)
    (k : ∀ (r : Option kV) (h2 : kH), Q2 r h2 → kW E d mc3 ms3 M (pc + 3) L (r.toList ++ S) h2 Q) : kW E d mc ms M pc L S0 h Q := by
  intro p e R s mm args below meth c H ls locs cells slots QQ cx g1 g2 hl hS hH hR hV kk
  obtain ⟨⟨q1, q2, q3, q4, q5⟩, q6, q7⟩ := q
  have hts := cx.2.2.2.2.1
  have hst := cx.2.2.2.2.2.2.1
  have hfr := cx.2.2.2.2.2.2.2.1
  have hlo := cx.2.2.2.2.2.2.2.2.1
  obtain ⟨ok1, ok2⟩ := k_oks hS hs0
  have hM := hc hH ok1
  obtain ⟨ts, tv, e1, e2, e3, e4, e5, e6, e7⟩ := hst.2.2.2.2.1
  have hrv : k_rv E (kA 1000003) = .ref ts := (k_rvS E 3).trans e1
  refine k_after (S := S) (a := (Value.ref ts :: As.map (k_rv E)).toArray) (va_runV (C := M2.1.cls) (b := ts) (n := As.length) (cc := M.2.1) (nL := M.2.2.1) (Ts := k_KT) (As := As.map (k_rv E)) ⟨cx.1, cx.2.1, cx.2.2.1, cx.2.2.2.1, hts⟩ hM
    ⟨⟨rfl, rfl, by show d2 + 1 ≤ _; omega, by show _ + 45 * d2 ≤ _; omega, k_wdok hts q1, List.mem_cons_self, hts _ q1, hts _ q2, q3, fun sig hs => ?_, hts _ hlk⟩, hts _ q6, hts _ q7⟩
    ⟨k_blind E _ h, ?_, fun U hU hW => ⟨?_, k_stat_move hst hW (fun a _ hA => by rw [hU]; exact hV.2.1 a ‹_› hA), by rw [hU]; exact hR⟩⟩ rfl (by simp) (by exact hl.1) ?_ ?_ hd ⟨by omega, by omega⟩) hV ?_
  · rw [hs] at q4
    exact (Option.some.inj q4).symm
  · obtain ⟨cell, u1, u2, u3, -⟩ := e4.kept hV.2.1
    exact ⟨cell, u1, u2, by rw [hcl]; exact u3⟩
  · rw [List.map_cons, hrv]
  · rw [hs0, List.map_append, List.map_reverse, List.map_cons, hrv]
  · have := k_sum E hst S
    exact lv_room (by rw [this]; exact hwd)
  · intro r h2 H1 locs1 a1 a2 a3 a4 a5
    exact k r h2 a1 p e R s mm args below meth c H1 ls locs1 (cells + mc2) (slots + ms2) QQ cx (by omega) (by omega) hl (k_okr a2 ok2) a3 a4 a5
      (fun ls2 S2 pc2 h2 H2 locs2 cells2 slots2 r b1 b2 b3 b4 b5 b6 b7 b8 => kk ls2 S2 pc2 h2 H2 locs2 cells2 slots2 r b1 b2 b3 b4 b5 b6 (by omega) (by omega))
end KW6
end
section
/-! rules of the inner machine: the text constant, fixed fields, copies -/
section KW7
variable {E : kEnv} {d mc ms : Nat} {M : kMd} {pc idx : Nat} {L : kLs} {S : List kV} {h : kH} {Q : Option kV → kH → Prop}
theorem kw_ldcS (hcl : M.1.cls = RX6) (hd : decode M.2.1 pc = .ok (.ldc 58, 2)) (k : kW E d mc ms M (pc + 2) L (kA 1000003 :: S) h Q) : kW E d mc ms M pc L S h Q := by
  intro p e R s mm args below meth c H ls locs cells slots QQ cx g1 g2 hl hS hH hR hV kk
  obtain ⟨ts, tv, e1, e2, e3, e4, e5, e6, e7⟩ := cx.2.2.2.2.2.2.1.2.2.2.2.1
  have hrv : k_rv E (kA 1000003) = .ref ts := (k_rvS E 3).trans e1
  have k2 := k p e R s mm args below meth c H ls locs cells slots QQ cx g1 g2 hl (k_cons (v := kA 1000003) trivial hS) hH hR hV kk
  rw [List.map_cons, hrv] at k2
  exact va_ldcS cx.1 cx.2.1 cx.2.2.2.1 (by rw [hcl]; exact e3) hd k2
theorem kw_gets0 (hd : decode M.2.1 pc = .ok (.getstatic idx, 3)) (hw : Cond.fieldLink M.1.cls idx RX5 "LEAST" "[I" ∈ k_KT) (k : kW E d mc ms M (pc + 3) L (kA 1000000 :: S) h Q) : kW E d mc ms M pc L S h Q := by
  intro p e R s mm args below meth c H ls locs cells slots QQ cx g1 g2 hl hS hH hR hV kk
  have hrv : k_rv E (kA 1000000) = ksv E 0 := k_rvS E 0
  have k2 := k p e R s mm args below meth c H ls locs cells slots QQ cx g1 g2 hl (k_cons (v := kA 1000000) trivial hS) hH hR hV kk
  rw [List.map_cons, hrv] at k2
  exact va_gets cx.1 cx.2.1 cx.2.2.2.2.2.2.1.2.2.1 hV cx.2.2.2.1 (cx.2.2.2.2.1 _ hw) (fun _ z => z) hd k2
theorem kw_gets1 (hd : decode M.2.1 pc = .ok (.getstatic idx, 3)) (hw : Cond.fieldLink M.1.cls idx RX5 "MOST" "[I" ∈ k_KT) (k : kW E d mc ms M (pc + 3) L (kA 1000001 :: S) h Q) : kW E d mc ms M pc L S h Q := by
  intro p e R s mm args below meth c H ls locs cells slots QQ cx g1 g2 hl hS hH hR hV kk
  have hrv : k_rv E (kA 1000001) = ksv E 1 := k_rvS E 1
  have k2 := k p e R s mm args below meth c H ls locs cells slots QQ cx g1 g2 hl (k_cons (v := kA 1000001) trivial hS) hH hR hV kk
  rw [List.map_cons, hrv] at k2
  exact va_gets cx.1 cx.2.1 cx.2.2.2.2.2.2.1.2.2.2.1 hV cx.2.2.2.1 (cx.2.2.2.2.1 _ hw) (fun _ z => z) hd k2
theorem kw_getsC (hd : decode M.2.1 pc = .ok (.getstatic idx, 3)) (hw : Cond.fieldLink M.1.cls idx RJ0 "COMPACT_STRINGS" "Z" ∈ k_KT) (k : kW E d mc ms M (pc + 3) L (kI 1 :: S) h Q) : kW E d mc ms M pc L S h Q := by
  intro p e R s mm args below meth c H ls locs cells slots QQ cx g1 g2 hl hS hH hR hV kk
  have k2 := k p e R s mm args below meth c H ls locs cells slots QQ cx g1 g2 hl (k_consI ⟨by decide, by decide⟩ hS) hH hR hV kk
  exact va_gets cx.1 cx.2.1 cx.2.2.2.2.2.2.1.2.2.2.2.2.1 hV cx.2.2.2.1 (cx.2.2.2.2.1 _ hw) (fun _ z => z) hd k2
theorem kw_getsF (hd : decode M.2.1 pc = .ok (.getstatic idx, 3)) (hw : Cond.fieldLink M.1.cls idx RJ3 "SIOOBE_FORMATTER" "Ljava/util/function/BiFunction;" ∈ k_KT) (k : kW E d mc ms M (pc + 3) L (kA 1000005 :: S) h Q) : kW E d mc ms M pc L S h Q := by
  intro p e R s mm args below meth c H ls locs cells slots QQ cx g1 g2 hl hS hH hR hV kk
  have hrv : k_rv E (kA 1000005) = ksv E 5 := k_rvS E 5
  have k2 := k p e R s mm args below meth c H ls locs cells slots QQ cx g1 g2 hl (k_cons (v := kA 1000005) trivial hS) hH hR hV kk
  rw [List.map_cons, hrv] at k2
  exact va_gets cx.1 cx.2.1 cx.2.2.2.2.2.2.1.2.2.2.2.2.2.1 hV cx.2.2.2.1 (cx.2.2.2.2.1 _ hw) (fun _ z => z) hd k2
theorem kw_getSv (hd : decode M.2.1 pc = .ok (.getfield idx, 3)) (hw : Cond.fieldLink M.1.cls idx RJ0 "value" "[B" ∈ k_KT) (k : kW E d mc ms M (pc + 3) L (kA 1000004 :: S) h Q) : kW E d mc ms M pc L (kA 1000003 :: S) h Q := by
  intro p e R s mm args below meth c H ls locs cells slots QQ cx g1 g2 hl hS hH hR hV kk
  obtain ⟨ts, tv, e1, e2, e3, e4, e5, e6, e7⟩ := cx.2.2.2.2.2.2.1.2.2.2.2.1
  have hrv : k_rv E (kA 1000003) = .ref ts := (k_rvS E 3).trans e1
  have hrw : k_rv E (kA 1000004) = .ref tv := (k_rvS E 4).trans e2
  have k2 := k p e R s mm args below meth c H ls locs cells slots QQ cx g1 g2 hl (k_cons (v := kA 1000004) trivial (k_tl hS).2) hH hR hV kk
  rw [List.map_cons, hrw] at k2
  rw [List.map_cons, hrv]
  exact vk_getf cx.1 cx.2.1 e6 hV cx.2.2.2.1 (cx.2.2.2.2.1 _ hw) (fun _ z => z) hd k2
theorem kw_getSc (hd : decode M.2.1 pc = .ok (.getfield idx, 3)) (hw : Cond.fieldLink M.1.cls idx RJ0 "coder" "B" ∈ k_KT) (k : kW E d mc ms M (pc + 3) L (kI 0 :: S) h Q) : kW E d mc ms M pc L (kA 1000003 :: S) h Q := by
  intro p e R s mm args below meth c H ls locs cells slots QQ cx g1 g2 hl hS hH hR hV kk
  obtain ⟨ts, tv, e1, e2, e3, e4, e5, e6, e7⟩ := cx.2.2.2.2.2.2.1.2.2.2.2.1
  have hrv : k_rv E (kA 1000003) = .ref ts := (k_rvS E 3).trans e1
  have k2 := k p e R s mm args below meth c H ls locs cells slots QQ cx g1 g2 hl (k_consI k_in0 (k_tl hS).2) hH hR hV kk
  rw [List.map_cons, hrv]
  exact vk_getf cx.1 cx.2.1 e5 hV cx.2.2.2.1 (cx.2.2.2.2.1 _ hw) (fun _ z => z) hd k2
theorem kw_alenB (hd : decode M.2.1 pc = .ok (.arraylength, 1)) (k : kW E d mc ms M (pc + 1) L (kI 87 :: S) h Q) : kW E d mc ms M pc L (kA 1000004 :: S) h Q := by
  intro p e R s mm args below meth c H ls locs cells slots QQ cx g1 g2 hl hS hH hR hV kk
  obtain ⟨ts, tv, e1, e2, e3, e4, e5, e6, e7⟩ := cx.2.2.2.2.2.2.1.2.2.2.2.1
  have hrw : k_rv E (kA 1000004) = .ref tv := (k_rvS E 4).trans e2
  have k2 := k p e R s mm args below meth c H ls locs cells slots QQ cx g1 g2 hl (k_consI ⟨by decide, by decide⟩ (k_tl hS).2) hH hR hV kk
  rw [List.map_cons, hrw]
  exact va_tlen cx.1 cx.2.1 e7 hV rfl hd k2
theorem k_FTin : ∀ i : Nat, k_in (k_FT.getD i 0) := by
  intro i
  by_cases hi : i < k_FT.length
  · have : ∀ z ∈ k_FT, k_in z := by unfold k_FT k_in; decide
    have e : k_FT.getD i 0 = k_FT[i] := by simp [List.getD_eq_getElem?_getD, hi]
    rw [e]
    exact this _ (List.getElem_mem hi)
  · have e : k_FT.getD i 0 = 0 := by simp [List.getD_eq_getElem?_getD, Nat.not_lt.mp hi]
    rw [e]
    exact k_in0
theorem kw_baldB {i : Int} (hd : decode M.2.1 pc = .ok (.baload, 1)) (h0 : 0 ≤ i) (h1 : i < 87) (k : kW E d mc ms M (pc + 1) L (kI (k_FT.getD i.toNat 0) :: S) h Q) : kW E d mc ms M pc L (kI i :: kA 1000004 :: S) h Q := by
  intro p e R s mm args below meth c H ls locs cells slots QQ cx g1 g2 hl hS hH hR hV kk
  obtain ⟨ts, tv, e1, e2, e3, e4, e5, e6, e7⟩ := cx.2.2.2.2.2.2.1.2.2.2.2.1
  have hrw : k_rv E (kA 1000004) = .ref tv := (k_rvS E 4).trans e2
  have hi : k_in i := (k_tl hS).1
  have k2 := k p e R s mm args below meth c H ls locs cells slots QQ cx g1 g2 hl (k_consI (k_FTin _) (k_tl (k_tl hS).2).2) hH hR hV kk
  rw [List.map_cons, List.map_cons, hrw]
  exact va_tb cx.1 cx.2.1 e7 hV (k_vpin hi h0 (by omega)) (by rw [k_tc hi]; rfl) hd k2
/-- System.arraycopy between rows of ints -/
def k_cp (f : Nat → Int → Int) (a0 a1 : Nat) (sp dp n : Int) : Nat → Int → Int := fun b j => if b = a1 ∧ dp ≤ j ∧ j < dp + n then f a0 (sp + (j - dp)) else f b j
theorem kw_copy {a0 a1 n0 n1 : Nat} {sp dp n : Int} (hd : decode M.2.1 pc = .ok (.invokestatic idx, 3)) (hw : Cond.methodLink M.1.cls idx arraycopyName ∈ k_KT) (hm0 : h.1[a0]? = some (100, n0)) (hm1 : h.1[a1]? = some (100, n1)) (h1 : 0 ≤ sp) (h2 : 0 ≤ dp) (h3 : 0 ≤ n) (h4 : sp + n ≤ n0) (h5 : dp + n ≤ n1) (hwd : (S.map k_wd).sum ≤ 8) (hd1 : 1 ≤ d)
    (k : kW E d mc ms M (pc + 3) L S (h.1, k_cp h.2.1 a0 a1 sp dp n, h.2.2) Q) : kW E d mc ms M pc L (kI n :: kI dp :: kA a1 :: kI sp :: kA a0 :: S) h Q := by
  intro p e R s mm args below meth c H ls locs cells slots QQ cx g1 g2 hl hS hH hR hV kk
  have hts := cx.2.2.2.2.1
  have hst := cx.2.2.2.2.2.2.1
  have hK := hst.1
  have hn : k_in n := (k_tl hS).1
  have hdp : k_in dp := (k_tl (k_tl hS).2).1
  have hS3 := (k_tl (k_tl (k_tl hS).2).2).2
  have hsp : k_in sp := (k_tl hS3).1
  have hS5 := (k_tl (k_tl hS3).2).2
  simp only [List.map_cons, k_rvA hH hm1, k_rvA hH hm0]
  show W p (kl E) e R s mm args below meth c H locs cells slots QQ (F0 mm pc ls (.int (Int32.ofInt n) :: .int (Int32.ofInt dp) :: .ref (kb E + a1) :: .int (Int32.ofInt sp) :: .ref (kb E + a0) :: S.map (k_rv E)))
  have he0 : (k_ws E h)[a0]? = some (kb E + a0, .inl (kcI E, n0, .inl (fun j : Nat => Int32.ofInt (h.2.1 a0 j)))) := by rw [k_ws_at (k_lt hm0), k_cell_i hm0]
  have he1 : (k_ws E h)[a1]? = some (kb E + a1, .inl (kcI E, n1, .inl (fun j : Nat => Int32.ofInt (h.2.1 a1 j)))) := by rw [k_ws_at (k_lt hm1), k_cell_i hm1]
  generalize hf : (fun j : Nat => Int32.ofInt (h.2.1 a0 j)) = f at he0
  generalize hg : (fun j : Nat => Int32.ofInt (h.2.1 a1 j)) = g at he1
  have hc0 : H[kb E + a0]? = some (vp_cell (kcI E) (n0, .inl f)) := hR.2 a0 _ he0
  have hc1 : H[kb E + a1]? = some (vp_cell (kcI E) (n1, .inl g)) := hR.2 a1 _ he1
  have hAr := (hK.2 0 _ (k_ty E).1).1
  have c1 := k_tc hsp
  have c2 := k_tc hdp
  have c3 := k_tc hn
  have t1 := k_ti hsp
  have t2 := k_ti hdp
  have t3 := k_ti hn
  have nneg : ∀ z : Int, k_in z → 0 ≤ z → ¬ Int32.ofInt z < 0 := fun z hz h0 => by rw [k_z, k_lti hz k_in0]; omega
  intro T hT X
  obtain ⟨-, k0, hk0, cm0, hkk0⟩ := hAr n0 (fun j => .int (f j))
  obtain ⟨-, k1, hk1, cm1, hkk1⟩ := hAr n1 (fun j => .int (g j))
  have hsum := k_sum E hst S
  obtain ⟨vm', X', step⟩ := X.arraycopy cx.1 cx.2.2.2.1 (hts _ hw) (hts _ na_acopy) (hts _ st_acopy) (hts _ in_J10) (src := kb E + a0) (dst := kb E + a1) (cs := vp_cell (kcI E) (n0, .inl f)) (cd := vp_cell (kcI E) (n1, .inl g)) (srcPos := Int32.ofInt sp) (destPos := Int32.ofInt dp) (n := Int32.ofInt n) (by rw [hT]; exact hc0) (by rw [hT]; exact hc1)
    (fun _ h => by cases h) (fun _ h => by cases h) (fun h => by cases h) (fun h => by cases h) hk0 hk1 hkk0 hkk1 (by rfl) (nneg _ hsp h1) (nneg _ hdp h2) (nneg _ hn h3)
    (by rw [t1, t3]; show ¬ _ > ((arrV _ n0 (fun j => .int (f j))).slots.size : Int); rw [arrV_size]; omega)
    (by rw [t2, t3]; show ¬ _ > ((arrV _ n1 (fun j => .int (g j))).slots.size : Int); rw [arrV_size]; omega)
    (fun vm₁ _ i hi => by
      rw [c3] at hi
      have e : (vp_cell (kcI E) (n0, .inl f)).slots.getD ((Int32.ofInt sp).toNatClampNeg + i) .null = .int (f ((Int32.ofInt sp).toNatClampNeg + i)) := by
        show (arrV _ n0 (fun j => .int (f j))).slots.getD _ _ = _
        rw [Array.getD_eq_getD_getElem?, arrV_read _ _ (by rw [c1]; omega)]
        rfl
      refine ⟨?_, ?_⟩
      · rw [e]
        rfl
      · rw [e]
        exact trivial)
    (g := F0 mm pc ls (.int (Int32.ofInt n) :: .int (Int32.ofInt dp) :: .ref (kb E + a1) :: .int (Int32.ofInt sp) :: .ref (kb E + a0) :: S.map (k_rv E))) rfl (by rw [cx.2.2.1]; exact hl.1) (rest := S.map (k_rv E)) rfl (by rw [cx.2.1]; exact hd) (by have := cx.2.2.2.2.2.2.2.1; omega)
    (by rw [hsum]; have := cx.2.2.2.2.2.2.2.2.1; have e9 : nativeFrameWords "java/lang/System" "arraycopy" 5 = 7 := by decide
        show 2 * 0 + _ + (nativeFrameWords "java/lang/System" "arraycopy" 5 + 11) ≤ _; rw [e9]; omega)
  have e1 : copied (vp_cell (kcI E) (n0, .inl f)) (vp_cell (kcI E) (n1, .inl g)) (Int32.ofInt sp) (Int32.ofInt dp) (Int32.ofInt n) = vp_cell (kcI E) (n1, .inl (va_cpy f g (Int32.ofInt sp).toNatClampNeg (Int32.ofInt dp).toNatClampNeg (Int32.ofInt n).toNatClampNeg)) := va_copied (fun z => .int z) (kcI E) (kcI E) f g (by rw [c1, c3]; omega)
  rw [e1, c1, c2, c3] at X' step
  generalize hcell : vp_cell (kcI E) (n1, .inl (va_cpy f g sp.toNat dp.toNat n.toNat)) = cell at X' step
  have hlt : kb E + a1 < H.size := (Array.getElem?_eq_some_iff.mp hc1).1
  have hheap : ((T.setVm vm').setCell (kb E + a1) cell).heap = H.setIfInBounds (kb E + a1) cell := by rw [← hT]; rfl
  have oq : ∀ q : Nat, q ≠ kb E + a1 → (H.setIfInBounds (kb E + a1) cell)[q]? = H[q]? := fun q hq => by simp [Array.getElem?_setIfInBounds, Ne.symm hq]
  have hm1' : (h.1, k_cp h.2.1 a0 a1 sp dp n, h.2.2).1[a1]? = some (100, n1) := hm1
  have hcE : k_cell E (h.1, k_cp h.2.1 a0 a1 sp dp n, h.2.2) a1 = .inl (kcI E, n1, .inl (va_cpy f g sp.toNat dp.toNat n.toNat)) := by
    rw [k_cell_i hm1']
    congr 3
    refine congrArg Sum.inl ?_
    funext j
    subst hf; subst hg
    unfold va_cpy
    show Int32.ofInt (k_cp h.2.1 a0 a1 sp dp n a1 (j : Int)) = _
    unfold k_cp
    by_cases hj : dp.toNat ≤ j ∧ j < dp.toNat + n.toNat
    · rw [if_pos hj, if_pos ⟨rfl, by omega, by omega⟩]
      have q1 := hj.1
      have q2 : sp + ((j : Int) - dp) = ((sp.toNat + (j - dp.toNat) : Nat) : Int) := by omega
      rw [q2]
    · rw [if_neg hj, if_neg (fun z => hj ⟨by have := z.2.1; omega, by have := z.2.2; omega⟩)]
  have hws := k_ws_set (E := E) (h := h) (h2 := (h.1, k_cp h.2.1 a0 a1 sp dp n, h.2.2)) (a := a1) rfl hcE (fun b hb => k_cell_cong rfl (fun j => if_neg (fun z => hb z.1)) (fun j => rfl))
  have hP1 := hR.2.set (e := .inl (kcI E, n1, .inl (va_cpy f g sp.toNat dp.toNat n.toNat))) k_wsD he1 (show (H.setIfInBounds (kb E + a1) cell)[kb E + a1]? = some _ by rw [Array.getElem?_setIfInBounds, if_pos rfl, if_pos hlt, ← hcell]) oq
  rw [hws] at hP1
  have hH2 : k_okH (kX E) (h.1, k_cp h.2.1 a0 a1 sp dp n, h.2.2) := by
    refine ⟨fun b j => ?_, hH.2⟩
    show k_in (k_cp h.2.1 a0 a1 sp dp n b j)
    unfold k_cp
    split
    · exact hH.1 _ _
    · exact hH.1 _ _
  obtain ⟨t, z1, z2⟩ := k p e R s mm args below meth c (H.setIfInBounds (kb E + a1) cell) ls _ cells slots QQ cx g1 g2 hl hS5 hH2 ⟨by rw [Array.size_setIfInBounds]; exact hR.1, hP1⟩
    ⟨by simp; exact hV.1, fun q w1 w2 => by
      rw [oq q (fun e => w2 (by rw [e]; show kb E ≤ kb E + a1; omega))]
      exact hV.2.1 q w1 w2, fun q hq => by
      rcases List.mem_append.mp hq with h | h
      · exact hV.2.2 q h
      · obtain ⟨z, -, hz⟩ := List.mem_map.mp h
        rw [← hz]
        show kb E ≤ kb E + a1
        omega⟩ kk _ hheap X'
  exact ⟨t, step t z1, z2⟩
end KW7
end
section
/-! the methods, the fields, by their places; rules again over a triple of cells -/
abbrev M_X0_init : kMd := (yX0_init, cX0_init, 2, none)
theorem q_X0_init : k_qI M_X0_init 1 := ⟨⟨co_X0_init, in_X0, by decide +kernel, by decide +kernel, by decide⟩, im_X0_init, rfl, rfl⟩
abbrev M_X0_begin : kMd := (yX0_begin, cX0_begin, 2, none)
theorem q_X0_begin : k_qV M_X0_begin 1 := ⟨⟨co_X0_begin, in_X0, by decide +kernel, by decide +kernel, by decide⟩, im_X0_begin, se_X0_begin⟩
abbrev M_X0_shortenHooks : kMd := (yX0_shortenHooks, cX0_shortenHooks, 3, none)
theorem q_X0_shortenHooks : k_qV M_X0_shortenHooks 1 := ⟨⟨co_X0_shortenHooks, in_X0, by decide +kernel, by decide +kernel, by decide⟩, im_X0_shortenHooks, se_X0_shortenHooks⟩
abbrev M_X0_goTo : kMd := (yX0_goTo, cX0_goTo, 3, none)
theorem q_X0_goTo : k_qV M_X0_goTo 1 := ⟨⟨co_X0_goTo, in_X0, by decide +kernel, by decide +kernel, by decide⟩, im_X0_goTo, se_X0_goTo⟩
abbrev M_X0_isOver : kMd := (yX0_isOver, cX0_isOver, 1, (some .boolean))
theorem q_X0_isOver : k_qV M_X0_isOver 0 := ⟨⟨co_X0_isOver, in_X0, by decide +kernel, by decide +kernel, by decide⟩, im_X0_isOver, se_X0_isOver⟩
abbrev M_X0_firstDayAllWarm : kMd := (yX0_firstDayAllWarm, cX0_firstDayAllWarm, 2, (some .int))
theorem q_X0_firstDayAllWarm : k_qV M_X0_firstDayAllWarm 0 := ⟨⟨co_X0_firstDayAllWarm, in_X0, by decide +kernel, by decide +kernel, by decide⟩, im_X0_firstDayAllWarm, se_X0_firstDayAllWarm⟩
abbrev M_X0_goThroughStorm : kMd := (yX0_goThroughStorm, cX0_goThroughStorm, 4, none)
theorem q_X0_goThroughStorm : k_qV M_X0_goThroughStorm 2 := ⟨⟨co_X0_goThroughStorm, in_X0, by decide +kernel, by decide +kernel, by decide⟩, im_X0_goThroughStorm, se_X0_goThroughStorm⟩
abbrev M_X0_draw : kMd := (yX0_draw, cX0_draw, 4, (some .int))
theorem q_X0_draw : k_qS M_X0_draw 2 := ⟨⟨co_X0_draw, in_X0, by decide +kernel, by decide +kernel, by decide⟩, st_X0_draw⟩
abbrev M_X0_blow : kMd := (yX0_blow, cX0_blow, 3, none)
theorem q_X0_blow : k_qV M_X0_blow 1 := ⟨⟨co_X0_blow, in_X0, by decide +kernel, by decide +kernel, by decide⟩, im_X0_blow, se_X0_blow⟩
abbrev M_X0_gatherToday : kMd := (yX0_gatherToday, cX0_gatherToday, 3, none)
theorem q_X0_gatherToday : k_qV M_X0_gatherToday 0 := ⟨⟨co_X0_gatherToday, in_X0, by decide +kernel, by decide +kernel, by decide⟩, im_X0_gatherToday, se_X0_gatherToday⟩
abbrev M_X1_init : kMd := (yX1_init, cX1_init, 2, none)
theorem q_X1_init : k_qI M_X1_init 1 := ⟨⟨co_X1_init, in_X1, by decide +kernel, by decide +kernel, by decide⟩, im_X1_init, rfl, rfl⟩
abbrev M_X1_whoHas : kMd := (yX1_whoHas, cX1_whoHas, 2, (some .int))
theorem q_X1_whoHas : k_qV M_X1_whoHas 1 := ⟨⟨co_X1_whoHas, in_X1, by decide +kernel, by decide +kernel, by decide⟩, im_X1_whoHas, se_X1_whoHas⟩
abbrev M_X1_find : kMd := (yX1_find, cX1_find, 4, none)
theorem q_X1_find : k_qV M_X1_find 1 := ⟨⟨co_X1_find, in_X1, by decide +kernel, by decide +kernel, by decide⟩, im_X1_find, se_X1_find⟩
abbrev M_X1_takersOf : kMd := (yX1_takersOf, cX1_takersOf, 5, (some .int))
theorem q_X1_takersOf : k_qV M_X1_takersOf 2 := ⟨⟨co_X1_takersOf, in_X1, by decide +kernel, by decide +kernel, by decide⟩, im_X1_takersOf, se_X1_takersOf⟩
abbrev M_X1_deal : kMd := (yX1_deal, cX1_deal, 6, none)
theorem q_X1_deal : k_qS M_X1_deal 4 := ⟨⟨co_X1_deal, in_X1, by decide +kernel, by decide +kernel, by decide⟩, st_X1_deal⟩
abbrev M_X1_keepIfBetter : kMd := (yX1_keepIfBetter, cX1_keepIfBetter, 2, none)
theorem q_X1_keepIfBetter : k_qV M_X1_keepIfBetter 1 := ⟨⟨co_X1_keepIfBetter, in_X1, by decide +kernel, by decide +kernel, by decide⟩, im_X1_keepIfBetter, se_X1_keepIfBetter⟩
abbrev M_X2_init : kMd := (yX2_init, cX2_init, 1, none)
theorem q_X2_init : k_qI M_X2_init 0 := ⟨⟨co_X2_init, in_X2, by decide +kernel, by decide +kernel, by decide⟩, im_X2_init, rfl, rfl⟩
abbrev M_X2_read : kMd := (yX2_read, cX2_read, 6, none)
theorem q_X2_read : k_qV M_X2_read 2 := ⟨⟨co_X2_read, in_X2, by decide +kernel, by decide +kernel, by decide⟩, im_X2_read, se_X2_read⟩
abbrev M_X2_put : kMd := (yX2_put, cX2_put, 4, none)
theorem q_X2_put : k_qV M_X2_put 3 := ⟨⟨co_X2_put, in_X2, by decide +kernel, by decide +kernel, by decide⟩, im_X2_put, se_X2_put⟩
abbrev M_X2_putBough : kMd := (yX2_putBough, cX2_putBough, 3, none)
theorem q_X2_putBough : k_qV M_X2_putBough 2 := ⟨⟨co_X2_putBough, in_X2, by decide +kernel, by decide +kernel, by decide⟩, im_X2_putBough, se_X2_putBough⟩
abbrev M_X2_putTenant : kMd := (yX2_putTenant, cX2_putTenant, 3, none)
theorem q_X2_putTenant : k_qV M_X2_putTenant 2 := ⟨⟨co_X2_putTenant, in_X2, by decide +kernel, by decide +kernel, by decide⟩, im_X2_putTenant, se_X2_putTenant⟩
abbrev M_X2_hasBough : kMd := (yX2_hasBough, cX2_hasBough, 2, (some .boolean))
theorem q_X2_hasBough : k_qV M_X2_hasBough 1 := ⟨⟨co_X2_hasBough, in_X2, by decide +kernel, by decide +kernel, by decide⟩, im_X2_hasBough, se_X2_hasBough⟩
abbrev M_X2_hasTenant : kMd := (yX2_hasTenant, cX2_hasTenant, 2, (some .boolean))
theorem q_X2_hasTenant : k_qV M_X2_hasTenant 1 := ⟨⟨co_X2_hasTenant, in_X2, by decide +kernel, by decide +kernel, by decide⟩, im_X2_hasTenant, se_X2_hasTenant⟩
abbrev M_X2_kind : kMd := (yX2_kind, cX2_kind, 2, (some .int))
theorem q_X2_kind : k_qV M_X2_kind 1 := ⟨⟨co_X2_kind, in_X2, by decide +kernel, by decide +kernel, by decide⟩, im_X2_kind, se_X2_kind⟩
abbrev M_X2_height : kMd := (yX2_height, cX2_height, 2, (some .int))
theorem q_X2_height : k_qV M_X2_height 1 := ⟨⟨co_X2_height, in_X2, by decide +kernel, by decide +kernel, by decide⟩, im_X2_height, se_X2_height⟩
abbrev M_X2_weight : kMd := (yX2_weight, cX2_weight, 2, (some .int))
theorem q_X2_weight : k_qV M_X2_weight 1 := ⟨⟨co_X2_weight, in_X2, by decide +kernel, by decide +kernel, by decide⟩, im_X2_weight, se_X2_weight⟩
abbrev M_X2_strength : kMd := (yX2_strength, cX2_strength, 2, (some .int))
theorem q_X2_strength : k_qV M_X2_strength 1 := ⟨⟨co_X2_strength, in_X2, by decide +kernel, by decide +kernel, by decide⟩, im_X2_strength, se_X2_strength⟩
abbrev M_X2_hearth : kMd := (yX2_hearth, cX2_hearth, 2, (some .int))
theorem q_X2_hearth : k_qV M_X2_hearth 1 := ⟨⟨co_X2_hearth, in_X2, by decide +kernel, by decide +kernel, by decide⟩, im_X2_hearth, se_X2_hearth⟩
abbrev M_X2_weightOf : kMd := (yX2_weightOf, cX2_weightOf, 4, (some .int))
theorem q_X2_weightOf : k_qV M_X2_weightOf 1 := ⟨⟨co_X2_weightOf, in_X2, by decide +kernel, by decide +kernel, by decide⟩, im_X2_weightOf, se_X2_weightOf⟩
abbrev M_X2_isDead : kMd := (yX2_isDead, cX2_isDead, 4, (some .boolean))
theorem q_X2_isDead : k_qV M_X2_isDead 3 := ⟨⟨co_X2_isDead, in_X2, by decide +kernel, by decide +kernel, by decide⟩, im_X2_isDead, se_X2_isDead⟩
abbrev M_X2_hasFallen : kMd := (yX2_hasFallen, cX2_hasFallen, 4, (some .boolean))
theorem q_X2_hasFallen : k_qV M_X2_hasFallen 3 := ⟨⟨co_X2_hasFallen, in_X2, by decide +kernel, by decide +kernel, by decide⟩, im_X2_hasFallen, se_X2_hasFallen⟩
abbrev M_X2_isInReach : kMd := (yX2_isInReach, cX2_isInReach, 4, (some .boolean))
theorem q_X2_isInReach : k_qV M_X2_isInReach 3 := ⟨⟨co_X2_isInReach, in_X2, by decide +kernel, by decide +kernel, by decide⟩, im_X2_isInReach, se_X2_isInReach⟩
abbrev M_X2_couldTake : kMd := (yX2_couldTake, cX2_couldTake, 6, (some .boolean))
theorem q_X2_couldTake : k_qV M_X2_couldTake 5 := ⟨⟨co_X2_couldTake, in_X2, by decide +kernel, by decide +kernel, by decide⟩, im_X2_couldTake, se_X2_couldTake⟩
abbrev M_X2_canTake : kMd := (yX2_canTake, cX2_canTake, 4, (some .boolean))
theorem q_X2_canTake : k_qV M_X2_canTake 3 := ⟨⟨co_X2_canTake, in_X2, by decide +kernel, by decide +kernel, by decide⟩, im_X2_canTake, se_X2_canTake⟩
abbrev M_X2_isCaught : kMd := (yX2_isCaught, cX2_isCaught, 4, (some .boolean))
theorem q_X2_isCaught : k_qV M_X2_isCaught 3 := ⟨⟨co_X2_isCaught, in_X2, by decide +kernel, by decide +kernel, by decide⟩, im_X2_isCaught, se_X2_isCaught⟩
abbrev M_X2_isWarm : kMd := (yX2_isWarm, cX2_isWarm, 3, (some .boolean))
theorem q_X2_isWarm : k_qV M_X2_isWarm 2 := ⟨⟨co_X2_isWarm, in_X2, by decide +kernel, by decide +kernel, by decide⟩, im_X2_isWarm, se_X2_isWarm⟩
abbrev M_X2_warmOnes : kMd := (yX2_warmOnes, cX2_warmOnes, 4, (some .int))
theorem q_X2_warmOnes : k_qV M_X2_warmOnes 1 := ⟨⟨co_X2_warmOnes, in_X2, by decide +kernel, by decide +kernel, by decide⟩, im_X2_warmOnes, se_X2_warmOnes⟩
abbrev M_X2_areAllWarm : kMd := (yX2_areAllWarm, cX2_areAllWarm, 2, (some .boolean))
theorem q_X2_areAllWarm : k_qV M_X2_areAllWarm 1 := ⟨⟨co_X2_areAllWarm, in_X2, by decide +kernel, by decide +kernel, by decide⟩, im_X2_areAllWarm, se_X2_areAllWarm⟩
abbrev M_X2_firstDayFor : kMd := (yX2_firstDayFor, cX2_firstDayFor, 5, (some .int))
theorem q_X2_firstDayFor : k_qV M_X2_firstDayFor 3 := ⟨⟨co_X2_firstDayFor, in_X2, by decide +kernel, by decide +kernel, by decide⟩, im_X2_firstDayFor, se_X2_firstDayFor⟩
abbrev M_X2_nobodyEverTakes : kMd := (yX2_nobodyEverTakes, cX2_nobodyEverTakes, 4, (some .boolean))
theorem q_X2_nobodyEverTakes : k_qV M_X2_nobodyEverTakes 2 := ⟨⟨co_X2_nobodyEverTakes, in_X2, by decide +kernel, by decide +kernel, by decide⟩, im_X2_nobodyEverTakes, se_X2_nobodyEverTakes⟩
abbrev M_X3_init : kMd := (yX3_init, cX3_init, 3, none)
theorem q_X3_init : k_qI M_X3_init 1 := ⟨⟨co_X3_init, in_X3, by decide +kernel, by decide +kernel, by decide⟩, im_X3_init, rfl, rfl⟩
abbrev M_X3_isFull : kMd := (yX3_isFull, cX3_isFull, 1, (some .boolean))
theorem q_X3_isFull : k_qV M_X3_isFull 0 := ⟨⟨co_X3_isFull, in_X3, by decide +kernel, by decide +kernel, by decide⟩, im_X3_isFull, se_X3_isFull⟩
abbrev M_X3_clear : kMd := (yX3_clear, cX3_clear, 1, none)
theorem q_X3_clear : k_qV M_X3_clear 0 := ⟨⟨co_X3_clear, in_X3, by decide +kernel, by decide +kernel, by decide⟩, im_X3_clear, se_X3_clear⟩
abbrev M_X3_add : kMd := (yX3_add, cX3_add, 2, none)
theorem q_X3_add : k_qV M_X3_add 1 := ⟨⟨co_X3_add, in_X3, by decide +kernel, by decide +kernel, by decide⟩, im_X3_add, se_X3_add⟩
abbrev M_X3_moveLastTo : kMd := (yX3_moveLastTo, cX3_moveLastTo, 2, none)
theorem q_X3_moveLastTo : k_qV M_X3_moveLastTo 1 := ⟨⟨co_X3_moveLastTo, in_X3, by decide +kernel, by decide +kernel, by decide⟩, im_X3_moveLastTo, se_X3_moveLastTo⟩
abbrev M_X3_dropOldest : kMd := (yX3_dropOldest, cX3_dropOldest, 3, none)
theorem q_X3_dropOldest : k_qV M_X3_dropOldest 0 := ⟨⟨co_X3_dropOldest, in_X3, by decide +kernel, by decide +kernel, by decide⟩, im_X3_dropOldest, se_X3_dropOldest⟩
abbrev M_X4_init : kMd := (yX4_init, cX4_init, 1, none)
theorem q_X4_init : k_qI M_X4_init 0 := ⟨⟨co_X4_init, in_X4, by decide +kernel, by decide +kernel, by decide⟩, im_X4_init, rfl, rfl⟩
abbrev M_X4_become : kMd := (yX4_become, cX4_become, 2, none)
theorem q_X4_become : k_qV M_X4_become 1 := ⟨⟨co_X4_become, in_X4, by decide +kernel, by decide +kernel, by decide⟩, im_X4_become, se_X4_become⟩
abbrev M_X4_clear : kMd := (yX4_clear, cX4_clear, 2, none)
theorem q_X4_clear : k_qV M_X4_clear 0 := ⟨⟨co_X4_clear, in_X4, by decide +kernel, by decide +kernel, by decide⟩, im_X4_clear, se_X4_clear⟩
abbrev M_X4_deadFrom : kMd := (yX4_deadFrom, cX4_deadFrom, 2, (some .int))
theorem q_X4_deadFrom : k_qV M_X4_deadFrom 1 := ⟨⟨co_X4_deadFrom, in_X4, by decide +kernel, by decide +kernel, by decide⟩, im_X4_deadFrom, se_X4_deadFrom⟩
abbrev M_X4_setDeadFrom : kMd := (yX4_setDeadFrom, cX4_setDeadFrom, 3, none)
theorem q_X4_setDeadFrom : k_qV M_X4_setDeadFrom 2 := ⟨⟨co_X4_setDeadFrom, in_X4, by decide +kernel, by decide +kernel, by decide⟩, im_X4_setDeadFrom, se_X4_setDeadFrom⟩
abbrev M_X4_isGone : kMd := (yX4_isGone, cX4_isGone, 2, (some .boolean))
theorem q_X4_isGone : k_qV M_X4_isGone 1 := ⟨⟨co_X4_isGone, in_X4, by decide +kernel, by decide +kernel, by decide⟩, im_X4_isGone, se_X4_isGone⟩
abbrev M_X4_stack : kMd := (yX4_stack, cX4_stack, 2, (some .int))
theorem q_X4_stack : k_qV M_X4_stack 1 := ⟨⟨co_X4_stack, in_X4, by decide +kernel, by decide +kernel, by decide⟩, im_X4_stack, se_X4_stack⟩
abbrev M_X4_reach : kMd := (yX4_reach, cX4_reach, 2, (some .int))
theorem q_X4_reach : k_qV M_X4_reach 1 := ⟨⟨co_X4_reach, in_X4, by decide +kernel, by decide +kernel, by decide⟩, im_X4_reach, se_X4_reach⟩
abbrev M_X4_setReach : kMd := (yX4_setReach, cX4_setReach, 3, none)
theorem q_X4_setReach : k_qV M_X4_setReach 2 := ⟨⟨co_X4_setReach, in_X4, by decide +kernel, by decide +kernel, by decide⟩, im_X4_setReach, se_X4_setReach⟩
abbrev M_X4_carried : kMd := (yX4_carried, cX4_carried, 2, (some .int))
theorem q_X4_carried : k_qV M_X4_carried 1 := ⟨⟨co_X4_carried, in_X4, by decide +kernel, by decide +kernel, by decide⟩, im_X4_carried, se_X4_carried⟩
abbrev M_X4_pick : kMd := (yX4_pick, cX4_pick, 4, none)
theorem q_X4_pick : k_qV M_X4_pick 3 := ⟨⟨co_X4_pick, in_X4, by decide +kernel, by decide +kernel, by decide⟩, im_X4_pick, se_X4_pick⟩
abbrev M_X4_loseStack : kMd := (yX4_loseStack, cX4_loseStack, 2, none)
theorem q_X4_loseStack : k_qV M_X4_loseStack 1 := ⟨⟨co_X4_loseStack, in_X4, by decide +kernel, by decide +kernel, by decide⟩, im_X4_loseStack, se_X4_loseStack⟩
abbrev M_X4_goBy : kMd := (yX4_goBy, cX4_goBy, 3, none)
theorem q_X4_goBy : k_qV M_X4_goBy 1 := ⟨⟨co_X4_goBy, in_X4, by decide +kernel, by decide +kernel, by decide⟩, im_X4_goBy, se_X4_goBy⟩
abbrev M_X5_init : kMd := (yX5_init, cX5_init, 1, none)
theorem q_X5_init : k_qI M_X5_init 0 := ⟨⟨co_X5_init, in_X5, by decide +kernel, by decide +kernel, by decide⟩, im_X5_init, rfl, rfl⟩
abbrev M_X5_isFull : kMd := (yX5_isFull, cX5_isFull, 1, (some .boolean))
theorem q_X5_isFull : k_qV M_X5_isFull 0 := ⟨⟨co_X5_isFull, in_X5, by decide +kernel, by decide +kernel, by decide⟩, im_X5_isFull, se_X5_isFull⟩
abbrev M_X5_add : kMd := (yX5_add, cX5_add, 2, none)
theorem q_X5_add : k_qV M_X5_add 1 := ⟨⟨co_X5_add, in_X5, by decide +kernel, by decide +kernel, by decide⟩, im_X5_add, se_X5_add⟩
abbrev M_X5_become : kMd := (yX5_become, cX5_become, 3, none)
theorem q_X5_become : k_qV M_X5_become 1 := ⟨⟨co_X5_become, in_X5, by decide +kernel, by decide +kernel, by decide⟩, im_X5_become, se_X5_become⟩
abbrev M_X5_letter : kMd := (yX5_letter, cX5_letter, 2, (some .char))
theorem q_X5_letter : k_qV M_X5_letter 1 := ⟨⟨co_X5_letter, in_X5, by decide +kernel, by decide +kernel, by decide⟩, im_X5_letter, se_X5_letter⟩
abbrev M_X5_number : kMd := (yX5_number, cX5_number, 2, (some .int))
theorem q_X5_number : k_qV M_X5_number 1 := ⟨⟨co_X5_number, in_X5, by decide +kernel, by decide +kernel, by decide⟩, im_X5_number, se_X5_number⟩
abbrev M_X5_firstFault : kMd := (yX5_firstFault, cX5_firstFault, 6, (some .int))
theorem q_X5_firstFault : k_qV M_X5_firstFault 0 := ⟨⟨co_X5_firstFault, in_X5, by decide +kernel, by decide +kernel, by decide⟩, im_X5_firstFault, se_X5_firstFault⟩
abbrev M_X5_canBeLaid : kMd := (yX5_canBeLaid, cX5_canBeLaid, 1, (some .boolean))
theorem q_X5_canBeLaid : k_qV M_X5_canBeLaid 0 := ⟨⟨co_X5_canBeLaid, in_X5, by decide +kernel, by decide +kernel, by decide⟩, im_X5_canBeLaid, se_X5_canBeLaid⟩
abbrev M_X5_has : kMd := (yX5_has, cX5_has, 3, (some .boolean))
theorem q_X5_has : k_qV M_X5_has 1 := ⟨⟨co_X5_has, in_X5, by decide +kernel, by decide +kernel, by decide⟩, im_X5_has, se_X5_has⟩
abbrev M_X5_readItem : kMd := (yX5_readItem, cX5_readItem, 7, (some .int))
theorem q_X5_readItem : k_qV M_X5_readItem 1 := ⟨⟨co_X5_readItem, in_X5, by decide +kernel, by decide +kernel, by decide⟩, im_X5_readItem, se_X5_readItem⟩
abbrev M_X5_readNumber : kMd := (yX5_readNumber, cX5_readNumber, 6, (some .boolean))
theorem q_X5_readNumber : k_qV M_X5_readNumber 4 := ⟨⟨co_X5_readNumber, in_X5, by decide +kernel, by decide +kernel, by decide⟩, im_X5_readNumber, se_X5_readNumber⟩
abbrev M_X5_figuresAt : kMd := (yX5_figuresAt, cX5_figuresAt, 2, (some .int))
theorem q_X5_figuresAt : k_qV M_X5_figuresAt 1 := ⟨⟨co_X5_figuresAt, in_X5, by decide +kernel, by decide +kernel, by decide⟩, im_X5_figuresAt, se_X5_figuresAt⟩
abbrev M_X5_isFigure : kMd := (yX5_isFigure, cX5_isFigure, 1, (some .boolean))
theorem q_X5_isFigure : k_qS M_X5_isFigure 1 := ⟨⟨co_X5_isFigure, in_X5, by decide +kernel, by decide +kernel, by decide⟩, st_X5_isFigure⟩
abbrev M_X5_howManyNumbers : kMd := (yX5_howManyNumbers, cX5_howManyNumbers, 1, (some .int))
theorem q_X5_howManyNumbers : k_qS M_X5_howManyNumbers 1 := ⟨⟨co_X5_howManyNumbers, in_X5, by decide +kernel, by decide +kernel, by decide⟩, st_X5_howManyNumbers⟩
abbrev M_X5_firstLimit : kMd := (yX5_firstLimit, cX5_firstLimit, 1, (some .int))
theorem q_X5_firstLimit : k_qS M_X5_firstLimit 1 := ⟨⟨co_X5_firstLimit, in_X5, by decide +kernel, by decide +kernel, by decide⟩, st_X5_firstLimit⟩
abbrev M_X6_init : kMd := (yX6_init, cX6_init, 1, none)
theorem q_X6_init : k_qI M_X6_init 0 := ⟨⟨co_X6_init, in_X6, by decide +kernel, by decide +kernel, by decide⟩, im_X6_init, rfl, rfl⟩
abbrev M_X6_write : kMd := (yX6_write, cX6_write, 2, (some .int))
theorem q_X6_write : k_qV M_X6_write 1 := ⟨⟨co_X6_write, in_X6, by decide +kernel, by decide +kernel, by decide⟩, im_X6_write, se_X6_write⟩
abbrev M_X6_wipe : kMd := (yX6_wipe, cX6_wipe, 2, (some .int))
theorem q_X6_wipe : k_qV M_X6_wipe 0 := ⟨⟨co_X6_wipe, in_X6, by decide +kernel, by decide +kernel, by decide⟩, im_X6_wipe, se_X6_wipe⟩
abbrev M_X6_fault : kMd := (yX6_fault, cX6_fault, 1, (some .int))
theorem q_X6_fault : k_qV M_X6_fault 0 := ⟨⟨co_X6_fault, in_X6, by decide +kernel, by decide +kernel, by decide⟩, im_X6_fault, se_X6_fault⟩
abbrev M_X6_lay : kMd := (yX6_lay, cX6_lay, 1, (some .int))
theorem q_X6_lay : k_qV M_X6_lay 0 := ⟨⟨co_X6_lay, in_X6, by decide +kernel, by decide +kernel, by decide⟩, im_X6_lay, se_X6_lay⟩
abbrev M_X6_bough : kMd := (yX6_bough, cX6_bough, 3, (some .int))
theorem q_X6_bough : k_qV M_X6_bough 2 := ⟨⟨co_X6_bough, in_X6, by decide +kernel, by decide +kernel, by decide⟩, im_X6_bough, se_X6_bough⟩
abbrev M_X6_tenant : kMd := (yX6_tenant, cX6_tenant, 3, (some .int))
theorem q_X6_tenant : k_qV M_X6_tenant 2 := ⟨⟨co_X6_tenant, in_X6, by decide +kernel, by decide +kernel, by decide⟩, im_X6_tenant, se_X6_tenant⟩
abbrev M_X6_can : kMd := (yX6_can, cX6_can, 3, (some .int))
theorem q_X6_can : k_qV M_X6_can 2 := ⟨⟨co_X6_can, in_X6, by decide +kernel, by decide +kernel, by decide⟩, im_X6_can, se_X6_can⟩
abbrev M_X6_take : kMd := (yX6_take, cX6_take, 4, (some .int))
theorem q_X6_take : k_qV M_X6_take 2 := ⟨⟨co_X6_take, in_X6, by decide +kernel, by decide +kernel, by decide⟩, im_X6_take, se_X6_take⟩
abbrev M_X6_pass : kMd := (yX6_pass, cX6_pass, 2, (some .int))
theorem q_X6_pass : k_qV M_X6_pass 1 := ⟨⟨co_X6_pass, in_X6, by decide +kernel, by decide +kernel, by decide⟩, im_X6_pass, se_X6_pass⟩
abbrev M_X6_hook : kMd := (yX6_hook, cX6_hook, 4, (some .int))
theorem q_X6_hook : k_qV M_X6_hook 2 := ⟨⟨co_X6_hook, in_X6, by decide +kernel, by decide +kernel, by decide⟩, im_X6_hook, se_X6_hook⟩
abbrev M_X6_ring : kMd := (yX6_ring, cX6_ring, 3, (some .int))
theorem q_X6_ring : k_qV M_X6_ring 1 := ⟨⟨co_X6_ring, in_X6, by decide +kernel, by decide +kernel, by decide⟩, im_X6_ring, se_X6_ring⟩
abbrev M_X6_undo : kMd := (yX6_undo, cX6_undo, 1, (some .int))
theorem q_X6_undo : k_qV M_X6_undo 0 := ⟨⟨co_X6_undo, in_X6, by decide +kernel, by decide +kernel, by decide⟩, im_X6_undo, se_X6_undo⟩
abbrev M_X6_warmBy : kMd := (yX6_warmBy, cX6_warmBy, 2, (some .int))
theorem q_X6_warmBy : k_qV M_X6_warmBy 1 := ⟨⟨co_X6_warmBy, in_X6, by decide +kernel, by decide +kernel, by decide⟩, im_X6_warmBy, se_X6_warmBy⟩
abbrev M_X6_allWarm : kMd := (yX6_allWarm, cX6_allWarm, 1, (some .int))
theorem q_X6_allWarm : k_qV M_X6_allWarm 0 := ⟨⟨co_X6_allWarm, in_X6, by decide +kernel, by decide +kernel, by decide⟩, im_X6_allWarm, se_X6_allWarm⟩
abbrev M_X6_share : kMd := (yX6_share, cX6_share, 2, (some .int))
theorem q_X6_share : k_qV M_X6_share 1 := ⟨⟨co_X6_share, in_X6, by decide +kernel, by decide +kernel, by decide⟩, im_X6_share, se_X6_share⟩
abbrev M_X6_leastHook : kMd := (yX6_leastHook, cX6_leastHook, 3, (some .int))
theorem q_X6_leastHook : k_qV M_X6_leastHook 1 := ⟨⟨co_X6_leastHook, in_X6, by decide +kernel, by decide +kernel, by decide⟩, im_X6_leastHook, se_X6_leastHook⟩
abbrev M_X6_pole : kMd := (yX6_pole, cX6_pole, 2, (some .int))
theorem q_X6_pole : k_qV M_X6_pole 0 := ⟨⟨co_X6_pole, in_X6, by decide +kernel, by decide +kernel, by decide⟩, im_X6_pole, se_X6_pole⟩
abbrev M_X6_firstDay : kMd := (yX6_firstDay, cX6_firstDay, 3, (some .int))
theorem q_X6_firstDay : k_qV M_X6_firstDay 2 := ⟨⟨co_X6_firstDay, in_X6, by decide +kernel, by decide +kernel, by decide⟩, im_X6_firstDay, se_X6_firstDay⟩
abbrev M_X6_sticks : kMd := (yX6_sticks, cX6_sticks, 6, (some .int))
theorem q_X6_sticks : k_qV M_X6_sticks 2 := ⟨⟨co_X6_sticks, in_X6, by decide +kernel, by decide +kernel, by decide⟩, im_X6_sticks, se_X6_sticks⟩
abbrev M_X6_whose : kMd := (yX6_whose, cX6_whose, 5, (some .int))
theorem q_X6_whose : k_qV M_X6_whose 2 := ⟨⟨co_X6_whose, in_X6, by decide +kernel, by decide +kernel, by decide⟩, im_X6_whose, se_X6_whose⟩
abbrev M_X6_sure : kMd := (yX6_sure, cX6_sure, 9, (some .int))
theorem q_X6_sure : k_qV M_X6_sure 4 := ⟨⟨co_X6_sure, in_X6, by decide +kernel, by decide +kernel, by decide⟩, im_X6_sure, se_X6_sure⟩
abbrev M_X6_waste : kMd := (yX6_waste, cX6_waste, 3, (some .int))
theorem q_X6_waste : k_qV M_X6_waste 0 := ⟨⟨co_X6_waste, in_X6, by decide +kernel, by decide +kernel, by decide⟩, im_X6_waste, se_X6_waste⟩
abbrev M_X6_needs : kMd := (yX6_needs, cX6_needs, 3, (some .int))
theorem q_X6_needs : k_qV M_X6_needs 0 := ⟨⟨co_X6_needs, in_X6, by decide +kernel, by decide +kernel, by decide⟩, im_X6_needs, se_X6_needs⟩
abbrev M_X6_storm : kMd := (yX6_storm, cX6_storm, 4, (some .int))
theorem q_X6_storm : k_qV M_X6_storm 3 := ⟨⟨co_X6_storm, in_X6, by decide +kernel, by decide +kernel, by decide⟩, im_X6_storm, se_X6_storm⟩
abbrev M_X6_keep : kMd := (yX6_keep, cX6_keep, 1, (some .int))
theorem q_X6_keep : k_qV M_X6_keep 0 := ⟨⟨co_X6_keep, in_X6, by decide +kernel, by decide +kernel, by decide⟩, im_X6_keep, se_X6_keep⟩
abbrev M_X6_back : kMd := (yX6_back, cX6_back, 1, (some .int))
theorem q_X6_back : k_qV M_X6_back 0 := ⟨⟨co_X6_back, in_X6, by decide +kernel, by decide +kernel, by decide⟩, im_X6_back, se_X6_back⟩
abbrev M_X6_count : kMd := (yX6_count, cX6_count, 2, (some .int))
theorem q_X6_count : k_qV M_X6_count 1 := ⟨⟨co_X6_count, in_X6, by decide +kernel, by decide +kernel, by decide⟩, im_X6_count, se_X6_count⟩
abbrev M_X6_isWithin : kMd := (yX6_isWithin, cX6_isWithin, 3, (some .boolean))
theorem q_X6_isWithin : k_qS M_X6_isWithin 3 := ⟨⟨co_X6_isWithin, in_X6, by decide +kernel, by decide +kernel, by decide⟩, st_X6_isWithin⟩
abbrev M_X6_bit : kMd := (yX6_bit, cX6_bit, 1, (some .int))
theorem q_X6_bit : k_qS M_X6_bit 1 := ⟨⟨co_X6_bit, in_X6, by decide +kernel, by decide +kernel, by decide⟩, st_X6_bit⟩
abbrev M_X6_commonWithTen : kMd := (yX6_commonWithTen, cX6_commonWithTen, 2, (some .int))
theorem q_X6_commonWithTen : k_qS M_X6_commonWithTen 1 := ⟨⟨co_X6_commonWithTen, in_X6, by decide +kernel, by decide +kernel, by decide⟩, st_X6_commonWithTen⟩
abbrev M_X7_init : kMd := (yX7_init, cX7_init, 1, none)
theorem q_X7_init : k_qI M_X7_init 0 := ⟨⟨co_X7_init, in_X7, by decide +kernel, by decide +kernel, by decide⟩, im_X7_init, rfl, rfl⟩
abbrev M_X7_in : kMd := (yX7_in, cX7_in, 3, (some .boolean))
theorem q_X7_in : k_qS M_X7_in 3 := ⟨⟨co_X7_in, in_X7, by decide +kernel, by decide +kernel, by decide⟩, st_X7_in⟩
abbrev M_X7_isBough : kMd := (yX7_isBough, cX7_isBough, 2, (some .boolean))
theorem q_X7_isBough : k_qV M_X7_isBough 1 := ⟨⟨co_X7_isBough, in_X7, by decide +kernel, by decide +kernel, by decide⟩, im_X7_isBough, se_X7_isBough⟩
abbrev M_X7_isTenant : kMd := (yX7_isTenant, cX7_isTenant, 2, (some .boolean))
theorem q_X7_isTenant : k_qV M_X7_isTenant 1 := ⟨⟨co_X7_isTenant, in_X7, by decide +kernel, by decide +kernel, by decide⟩, im_X7_isTenant, se_X7_isTenant⟩
abbrev M_X7_write : kMd := (yX7_write, cX7_write, 2, (some .int))
theorem q_X7_write : k_qV M_X7_write 1 := ⟨⟨co_X7_write, in_X7, by decide +kernel, by decide +kernel, by decide⟩, im_X7_write, se_X7_write⟩
abbrev M_X7_wipe : kMd := (yX7_wipe, cX7_wipe, 2, (some .int))
theorem q_X7_wipe : k_qV M_X7_wipe 0 := ⟨⟨co_X7_wipe, in_X7, by decide +kernel, by decide +kernel, by decide⟩, im_X7_wipe, se_X7_wipe⟩
abbrev M_X7_letterAt : kMd := (yX7_letterAt, cX7_letterAt, 2, (some .int))
theorem q_X7_letterAt : k_qV M_X7_letterAt 1 := ⟨⟨co_X7_letterAt, in_X7, by decide +kernel, by decide +kernel, by decide⟩, im_X7_letterAt, se_X7_letterAt⟩
abbrev M_X7_isFigure : kMd := (yX7_isFigure, cX7_isFigure, 1, (some .boolean))
theorem q_X7_isFigure : k_qS M_X7_isFigure 1 := ⟨⟨co_X7_isFigure, in_X7, by decide +kernel, by decide +kernel, by decide⟩, st_X7_isFigure⟩
abbrev M_X7_number : kMd := (yX7_number, cX7_number, 6, (some .int))
theorem q_X7_number : k_qV M_X7_number 3 := ⟨⟨co_X7_number, in_X7, by decide +kernel, by decide +kernel, by decide⟩, im_X7_number, se_X7_number⟩
abbrev M_X7_begins : kMd := (yX7_begins, cX7_begins, 2, none)
theorem q_X7_begins : k_qV M_X7_begins 0 := ⟨⟨co_X7_begins, in_X7, by decide +kernel, by decide +kernel, by decide⟩, im_X7_begins, se_X7_begins⟩
abbrev M_X7_boughOf : kMd := (yX7_boughOf, cX7_boughOf, 6, none)
theorem q_X7_boughOf : k_qV M_X7_boughOf 4 := ⟨⟨co_X7_boughOf, in_X7, by decide +kernel, by decide +kernel, by decide⟩, im_X7_boughOf, se_X7_boughOf⟩
abbrev M_X7_tenantOf : kMd := (yX7_tenantOf, cX7_tenantOf, 5, none)
theorem q_X7_tenantOf : k_qV M_X7_tenantOf 3 := ⟨⟨co_X7_tenantOf, in_X7, by decide +kernel, by decide +kernel, by decide⟩, im_X7_tenantOf, se_X7_tenantOf⟩
abbrev M_X7_readsItem : kMd := (yX7_readsItem, cX7_readsItem, 6, (some .boolean))
theorem q_X7_readsItem : k_qV M_X7_readsItem 1 := ⟨⟨co_X7_readsItem, in_X7, by decide +kernel, by decide +kernel, by decide⟩, im_X7_readsItem, se_X7_readsItem⟩
abbrev M_X7_readsAll : kMd := (yX7_readsAll, cX7_readsAll, 2, (some .int))
theorem q_X7_readsAll : k_qV M_X7_readsAll 0 := ⟨⟨co_X7_readsAll, in_X7, by decide +kernel, by decide +kernel, by decide⟩, im_X7_readsAll, se_X7_readsAll⟩
abbrev M_X7_fault : kMd := (yX7_fault, cX7_fault, 1, (some .int))
theorem q_X7_fault : k_qV M_X7_fault 0 := ⟨⟨co_X7_fault, in_X7, by decide +kernel, by decide +kernel, by decide⟩, im_X7_fault, se_X7_fault⟩
abbrev M_X7_lays : kMd := (yX7_lays, cX7_lays, 2, none)
theorem q_X7_lays : k_qV M_X7_lays 0 := ⟨⟨co_X7_lays, in_X7, by decide +kernel, by decide +kernel, by decide⟩, im_X7_lays, se_X7_lays⟩
abbrev M_X7_lay : kMd := (yX7_lay, cX7_lay, 1, (some .int))
theorem q_X7_lay : k_qV M_X7_lay 0 := ⟨⟨co_X7_lay, in_X7, by decide +kernel, by decide +kernel, by decide⟩, im_X7_lay, se_X7_lay⟩
abbrev M_X7_isDead : kMd := (yX7_isDead, cX7_isDead, 3, (some .boolean))
theorem q_X7_isDead : k_qV M_X7_isDead 2 := ⟨⟨co_X7_isDead, in_X7, by decide +kernel, by decide +kernel, by decide⟩, im_X7_isDead, se_X7_isDead⟩
abbrev M_X7_isFallen : kMd := (yX7_isFallen, cX7_isFallen, 3, (some .boolean))
theorem q_X7_isFallen : k_qV M_X7_isFallen 2 := ⟨⟨co_X7_isFallen, in_X7, by decide +kernel, by decide +kernel, by decide⟩, im_X7_isFallen, se_X7_isFallen⟩
abbrev M_X7_bough : kMd := (yX7_bough, cX7_bough, 3, (some .int))
theorem q_X7_bough : k_qV M_X7_bough 2 := ⟨⟨co_X7_bough, in_X7, by decide +kernel, by decide +kernel, by decide⟩, im_X7_bough, se_X7_bough⟩
abbrev M_X7_isWarm : kMd := (yX7_isWarm, cX7_isWarm, 2, (some .boolean))
theorem q_X7_isWarm : k_qV M_X7_isWarm 1 := ⟨⟨co_X7_isWarm, in_X7, by decide +kernel, by decide +kernel, by decide⟩, im_X7_isWarm, se_X7_isWarm⟩
abbrev M_X7_tenant : kMd := (yX7_tenant, cX7_tenant, 3, (some .int))
theorem q_X7_tenant : k_qV M_X7_tenant 2 := ⟨⟨co_X7_tenant, in_X7, by decide +kernel, by decide +kernel, by decide⟩, im_X7_tenant, se_X7_tenant⟩
abbrev M_X7_could : kMd := (yX7_could, cX7_could, 9, (some .boolean))
theorem q_X7_could : k_qV M_X7_could 4 := ⟨⟨co_X7_could, in_X7, by decide +kernel, by decide +kernel, by decide⟩, im_X7_could, se_X7_could⟩
abbrev M_X7_canNow : kMd := (yX7_canNow, cX7_canNow, 3, (some .boolean))
theorem q_X7_canNow : k_qV M_X7_canNow 2 := ⟨⟨co_X7_canNow, in_X7, by decide +kernel, by decide +kernel, by decide⟩, im_X7_canNow, se_X7_canNow⟩
abbrev M_X7_keeps : kMd := (yX7_keeps, cX7_keeps, 2, none)
theorem q_X7_keeps : k_qV M_X7_keeps 0 := ⟨⟨co_X7_keeps, in_X7, by decide +kernel, by decide +kernel, by decide⟩, im_X7_keeps, se_X7_keeps⟩
abbrev M_X7_can : kMd := (yX7_can, cX7_can, 3, (some .int))
theorem q_X7_can : k_qV M_X7_can 2 := ⟨⟨co_X7_can, in_X7, by decide +kernel, by decide +kernel, by decide⟩, im_X7_can, se_X7_can⟩
abbrev M_X7_takes : kMd := (yX7_takes, cX7_takes, 3, none)
theorem q_X7_takes : k_qV M_X7_takes 2 := ⟨⟨co_X7_takes, in_X7, by decide +kernel, by decide +kernel, by decide⟩, im_X7_takes, se_X7_takes⟩
abbrev M_X7_take : kMd := (yX7_take, cX7_take, 4, (some .int))
theorem q_X7_take : k_qV M_X7_take 2 := ⟨⟨co_X7_take, in_X7, by decide +kernel, by decide +kernel, by decide⟩, im_X7_take, se_X7_take⟩
abbrev M_X7_passes : kMd := (yX7_passes, cX7_passes, 2, none)
theorem q_X7_passes : k_qV M_X7_passes 0 := ⟨⟨co_X7_passes, in_X7, by decide +kernel, by decide +kernel, by decide⟩, im_X7_passes, se_X7_passes⟩
abbrev M_X7_pass : kMd := (yX7_pass, cX7_pass, 3, (some .int))
theorem q_X7_pass : k_qV M_X7_pass 1 := ⟨⟨co_X7_pass, in_X7, by decide +kernel, by decide +kernel, by decide⟩, im_X7_pass, se_X7_pass⟩
abbrev M_X7_hook : kMd := (yX7_hook, cX7_hook, 4, (some .int))
theorem q_X7_hook : k_qV M_X7_hook 2 := ⟨⟨co_X7_hook, in_X7, by decide +kernel, by decide +kernel, by decide⟩, im_X7_hook, se_X7_hook⟩
abbrev M_X7_ring : kMd := (yX7_ring, cX7_ring, 3, (some .int))
theorem q_X7_ring : k_qV M_X7_ring 1 := ⟨⟨co_X7_ring, in_X7, by decide +kernel, by decide +kernel, by decide⟩, im_X7_ring, se_X7_ring⟩
abbrev M_X7_undo : kMd := (yX7_undo, cX7_undo, 2, (some .int))
theorem q_X7_undo : k_qV M_X7_undo 0 := ⟨⟨co_X7_undo, in_X7, by decide +kernel, by decide +kernel, by decide⟩, im_X7_undo, se_X7_undo⟩
abbrev M_X7_holds : kMd := (yX7_holds, cX7_holds, 2, none)
theorem q_X7_holds : k_qV M_X7_holds 0 := ⟨⟨co_X7_holds, in_X7, by decide +kernel, by decide +kernel, by decide⟩, im_X7_holds, se_X7_holds⟩
abbrev M_X7_lets : kMd := (yX7_lets, cX7_lets, 2, none)
theorem q_X7_lets : k_qV M_X7_lets 0 := ⟨⟨co_X7_lets, in_X7, by decide +kernel, by decide +kernel, by decide⟩, im_X7_lets, se_X7_lets⟩
abbrev M_X7_eachTakes : kMd := (yX7_eachTakes, cX7_eachTakes, 3, none)
theorem q_X7_eachTakes : k_qV M_X7_eachTakes 0 := ⟨⟨co_X7_eachTakes, in_X7, by decide +kernel, by decide +kernel, by decide⟩, im_X7_eachTakes, se_X7_eachTakes⟩
abbrev M_X7_warm : kMd := (yX7_warm, cX7_warm, 3, (some .int))
theorem q_X7_warm : k_qV M_X7_warm 0 := ⟨⟨co_X7_warm, in_X7, by decide +kernel, by decide +kernel, by decide⟩, im_X7_warm, se_X7_warm⟩
abbrev M_X7_warmAt : kMd := (yX7_warmAt, cX7_warmAt, 2, (some .int))
theorem q_X7_warmAt : k_qV M_X7_warmAt 1 := ⟨⟨co_X7_warmAt, in_X7, by decide +kernel, by decide +kernel, by decide⟩, im_X7_warmAt, se_X7_warmAt⟩
abbrev M_X7_warmBy : kMd := (yX7_warmBy, cX7_warmBy, 3, (some .int))
theorem q_X7_warmBy : k_qV M_X7_warmBy 1 := ⟨⟨co_X7_warmBy, in_X7, by decide +kernel, by decide +kernel, by decide⟩, im_X7_warmBy, se_X7_warmBy⟩
abbrev M_X7_allWarm : kMd := (yX7_allWarm, cX7_allWarm, 2, (some .int))
theorem q_X7_allWarm : k_qV M_X7_allWarm 0 := ⟨⟨co_X7_allWarm, in_X7, by decide +kernel, by decide +kernel, by decide⟩, im_X7_allWarm, se_X7_allWarm⟩
abbrev M_X7_share : kMd := (yX7_share, cX7_share, 13, (some .int))
theorem q_X7_share : k_qV M_X7_share 1 := ⟨⟨co_X7_share, in_X7, by decide +kernel, by decide +kernel, by decide⟩, im_X7_share, se_X7_share⟩
abbrev M_X7_leastHook : kMd := (yX7_leastHook, cX7_leastHook, 4, (some .int))
theorem q_X7_leastHook : k_qV M_X7_leastHook 1 := ⟨⟨co_X7_leastHook, in_X7, by decide +kernel, by decide +kernel, by decide⟩, im_X7_leastHook, se_X7_leastHook⟩
abbrev M_X7_pole : kMd := (yX7_pole, cX7_pole, 4, (some .int))
theorem q_X7_pole : k_qV M_X7_pole 0 := ⟨⟨co_X7_pole, in_X7, by decide +kernel, by decide +kernel, by decide⟩, im_X7_pole, se_X7_pole⟩
abbrev M_X7_firstOf : kMd := (yX7_firstOf, cX7_firstOf, 5, (some .int))
theorem q_X7_firstOf : k_qV M_X7_firstOf 2 := ⟨⟨co_X7_firstOf, in_X7, by decide +kernel, by decide +kernel, by decide⟩, im_X7_firstOf, se_X7_firstOf⟩
abbrev M_X7_firstDay : kMd := (yX7_firstDay, cX7_firstDay, 3, (some .int))
theorem q_X7_firstDay : k_qV M_X7_firstDay 2 := ⟨⟨co_X7_firstDay, in_X7, by decide +kernel, by decide +kernel, by decide⟩, im_X7_firstDay, se_X7_firstDay⟩
abbrev M_X7_sticks : kMd := (yX7_sticks, cX7_sticks, 10, (some .int))
theorem q_X7_sticks : k_qV M_X7_sticks 2 := ⟨⟨co_X7_sticks, in_X7, by decide +kernel, by decide +kernel, by decide⟩, im_X7_sticks, se_X7_sticks⟩
abbrev M_X7_whose : kMd := (yX7_whose, cX7_whose, 5, (some .int))
theorem q_X7_whose : k_qV M_X7_whose 2 := ⟨⟨co_X7_whose, in_X7, by decide +kernel, by decide +kernel, by decide⟩, im_X7_whose, se_X7_whose⟩
abbrev M_X7_sure : kMd := (yX7_sure, cX7_sure, 10, (some .int))
theorem q_X7_sure : k_qV M_X7_sure 4 := ⟨⟨co_X7_sure, in_X7, by decide +kernel, by decide +kernel, by decide⟩, im_X7_sure, se_X7_sure⟩
abbrev M_X7_waste : kMd := (yX7_waste, cX7_waste, 5, (some .int))
theorem q_X7_waste : k_qV M_X7_waste 0 := ⟨⟨co_X7_waste, in_X7, by decide +kernel, by decide +kernel, by decide⟩, im_X7_waste, se_X7_waste⟩
abbrev M_X7_needs : kMd := (yX7_needs, cX7_needs, 3, (some .int))
theorem q_X7_needs : k_qV M_X7_needs 0 := ⟨⟨co_X7_needs, in_X7, by decide +kernel, by decide +kernel, by decide⟩, im_X7_needs, se_X7_needs⟩
abbrev M_X7_weighs : kMd := (yX7_weighs, cX7_weighs, 3, (some .int))
theorem q_X7_weighs : k_qV M_X7_weighs 0 := ⟨⟨co_X7_weighs, in_X7, by decide +kernel, by decide +kernel, by decide⟩, im_X7_weighs, se_X7_weighs⟩
abbrev M_X7_storm : kMd := (yX7_storm, cX7_storm, 11, (some .int))
theorem q_X7_storm : k_qV M_X7_storm 3 := ⟨⟨co_X7_storm, in_X7, by decide +kernel, by decide +kernel, by decide⟩, im_X7_storm, se_X7_storm⟩
abbrev M_X7_keep : kMd := (yX7_keep, cX7_keep, 2, (some .int))
theorem q_X7_keep : k_qV M_X7_keep 0 := ⟨⟨co_X7_keep, in_X7, by decide +kernel, by decide +kernel, by decide⟩, im_X7_keep, se_X7_keep⟩
abbrev M_X7_back : kMd := (yX7_back, cX7_back, 2, (some .int))
theorem q_X7_back : k_qV M_X7_back 0 := ⟨⟨co_X7_back, in_X7, by decide +kernel, by decide +kernel, by decide⟩, im_X7_back, se_X7_back⟩
abbrev M_X7_count : kMd := (yX7_count, cX7_count, 4, (some .int))
theorem q_X7_count : k_qV M_X7_count 1 := ⟨⟨co_X7_count, in_X7, by decide +kernel, by decide +kernel, by decide⟩, im_X7_count, se_X7_count⟩
abbrev M_J6_bitCount_0f7a4 : kMd := (yJ6_bitCount_0f7a4, cJ6_bitCount_0f7a4, 1, (some .int))
theorem q_J6_bitCount_0f7a4 : k_qS M_J6_bitCount_0f7a4 1 := ⟨⟨co_J6_bitCount_0f7a4, in_J6, by decide +kernel, by decide +kernel, by decide⟩, st_J6_bitCount_0f7a4⟩
abbrev M_J0_length_8abf5 : kMd := (yJ0_length_8abf5, cJ0_length_8abf5, 1, (some .int))
theorem q_J0_length_8abf5 : k_qV M_J0_length_8abf5 0 := ⟨⟨co_J0_length_8abf5, in_J0, by decide +kernel, by decide +kernel, by decide⟩, im_J0_length_8abf5, se_J0_length_8abf5⟩
abbrev M_J0_charAt_5068e : kMd := (yJ0_charAt_5068e, cJ0_charAt_5068e, 2, (some .char))
theorem q_J0_charAt_5068e : k_qV M_J0_charAt_5068e 1 := ⟨⟨co_J0_charAt_5068e, in_J0, by decide +kernel, by decide +kernel, by decide⟩, im_J0_charAt_5068e, se_J0_charAt_5068e⟩
abbrev M_J0_coder_7d493 : kMd := (yJ0_coder_7d493, cJ0_coder_7d493, 1, (some .byte))
theorem q_J0_coder_7d493 : k_qV M_J0_coder_7d493 0 := ⟨⟨co_J0_coder_7d493, in_J0, by decide +kernel, by decide +kernel, by decide⟩, im_J0_coder_7d493, se_J0_coder_7d493⟩
abbrev M_J0_isLatin1_aae02 : kMd := (yJ0_isLatin1_aae02, cJ0_isLatin1_aae02, 1, (some .boolean))
theorem q_J0_isLatin1_aae02 : k_qV M_J0_isLatin1_aae02 0 := ⟨⟨co_J0_isLatin1_aae02, in_J0, by decide +kernel, by decide +kernel, by decide⟩, im_J0_isLatin1_aae02, se_J0_isLatin1_aae02⟩
abbrev M_J0_checkIndex_df160 : kMd := (yJ0_checkIndex_df160, cJ0_checkIndex_df160, 2, none)
theorem q_J0_checkIndex_df160 : k_qS M_J0_checkIndex_df160 2 := ⟨⟨co_J0_checkIndex_df160, in_J0, by decide +kernel, by decide +kernel, by decide⟩, st_J0_checkIndex_df160⟩
abbrev M_J1_charAt_3b067 : kMd := (yJ1_charAt_3b067, cJ1_charAt_3b067, 2, (some .char))
theorem q_J1_charAt_3b067 : k_qS M_J1_charAt_3b067 2 := ⟨⟨co_J1_charAt_3b067, in_J1, by decide +kernel, by decide +kernel, by decide⟩, st_J1_charAt_3b067⟩
abbrev M_J2_getChar_3b067 : kMd := (yJ2_getChar_3b067, cJ2_getChar_3b067, 2, (some .char))
theorem q_J2_getChar_3b067 : k_qS M_J2_getChar_3b067 2 := ⟨⟨co_J2_getChar_3b067, in_J2, by decide +kernel, by decide +kernel, by decide⟩, st_J2_getChar_3b067⟩
abbrev M_J2_length_9d52b : kMd := (yJ2_length_9d52b, cJ2_length_9d52b, 1, (some .int))
theorem q_J2_length_9d52b : k_qS M_J2_length_9d52b 1 := ⟨⟨co_J2_length_9d52b, in_J2, by decide +kernel, by decide +kernel, by decide⟩, st_J2_length_9d52b⟩
abbrev M_J2_charAt_3b067 : kMd := (yJ2_charAt_3b067, cJ2_charAt_3b067, 2, (some .char))
theorem q_J2_charAt_3b067 : k_qS M_J2_charAt_3b067 2 := ⟨⟨co_J2_charAt_3b067, in_J2, by decide +kernel, by decide +kernel, by decide⟩, st_J2_charAt_3b067⟩
abbrev M_J2_checkIndex_2214a : kMd := (yJ2_checkIndex_2214a, cJ2_checkIndex_2214a, 2, none)
theorem q_J2_checkIndex_2214a : k_qS M_J2_checkIndex_2214a 2 := ⟨⟨co_J2_checkIndex_2214a, in_J2, by decide +kernel, by decide +kernel, by decide⟩, st_J2_checkIndex_2214a⟩
abbrev M_J3_checkIndex_8e157 : kMd := (yJ3_checkIndex_8e157, cJ3_checkIndex_8e157, 3, (some .int))
theorem q_J3_checkIndex_8e157 : k_qS M_J3_checkIndex_8e157 3 := ⟨⟨co_J3_checkIndex_8e157, in_J3, by decide +kernel, by decide +kernel, by decide⟩, st_J3_checkIndex_8e157⟩
abbrev M_L_law : kMd := (x, code, 4, some .boolean)
theorem kp_X5_11 : k_fld RX5 11 5 0 3 true := ⟨RX5, TX5, tyX5, rfl, inK5, by decide, fl_X5_11, tyX5_ok, nmX5, (fun h => by cases h), (fun _ v hv => by rcases hv with rfl | ⟨a, rfl⟩ <;> exact ⟨rfl, rfl⟩), rfl, (fun _ => rfl)⟩
theorem kf_X5_11 : k_fldr RX5 11 5 0 3 := ⟨RX5, TX5, rfl, inK5, by decide, fl_X5_11⟩
theorem kp_X5_15 : k_fld RX5 15 5 1 3 true := ⟨RX5, TX5, tyX5, rfl, inK5, by decide, fl_X5_15, tyX5_ok, nmX5, (fun h => by cases h), (fun _ v hv => by rcases hv with rfl | ⟨a, rfl⟩ <;> exact ⟨rfl, rfl⟩), rfl, (fun _ => rfl)⟩
theorem kf_X5_15 : k_fldr RX5 15 5 1 3 := ⟨RX5, TX5, rfl, inK5, by decide, fl_X5_15⟩
theorem kp_X6_68 : k_fld RX6 68 5 2 3 false := ⟨RX5, TX5, tyX5, rfl, inK5, by decide, fl_X6_68, tyX5_ok, nmX5, (fun _ => rfl), (fun h => by cases h), rfl, (fun h => by cases h)⟩
theorem kf_X6_68 : k_fldr RX6 68 5 2 3 := ⟨RX5, TX5, rfl, inK5, by decide, fl_X6_68⟩
theorem kp_X5_19 : k_fld RX5 19 5 2 3 false := ⟨RX5, TX5, tyX5, rfl, inK5, by decide, fl_X5_19, tyX5_ok, nmX5, (fun _ => rfl), (fun h => by cases h), rfl, (fun h => by cases h)⟩
theorem kf_X5_19 : k_fldr RX5 19 5 2 3 := ⟨RX5, TX5, rfl, inK5, by decide, fl_X5_19⟩
theorem kp_X2_50 : k_fld RX2 50 5 2 3 false := ⟨RX5, TX5, tyX5, rfl, inK5, by decide, fl_X2_50, tyX5_ok, nmX5, (fun _ => rfl), (fun h => by cases h), rfl, (fun h => by cases h)⟩
theorem kf_X2_50 : k_fldr RX2 50 5 2 3 := ⟨RX5, TX5, rfl, inK5, by decide, fl_X2_50⟩
theorem kp_X2_9 : k_fld RX2 9 2 0 10 true := ⟨RX2, TX2, tyX2, rfl, inK2, by decide, fl_X2_9, tyX2_ok, nmX2, (fun h => by cases h), (fun _ v hv => by rcases hv with rfl | ⟨a, rfl⟩ <;> exact ⟨rfl, rfl⟩), rfl, (fun _ => rfl)⟩
theorem kf_X2_9 : k_fldr RX2 9 2 0 10 := ⟨RX2, TX2, rfl, inK2, by decide, fl_X2_9⟩
theorem kp_X2_15 : k_fld RX2 15 2 1 10 true := ⟨RX2, TX2, tyX2, rfl, inK2, by decide, fl_X2_15, tyX2_ok, nmX2, (fun h => by cases h), (fun _ v hv => by rcases hv with rfl | ⟨a, rfl⟩ <;> exact ⟨rfl, rfl⟩), rfl, (fun _ => rfl)⟩
theorem kf_X2_15 : k_fldr RX2 15 2 1 10 := ⟨RX2, TX2, rfl, inK2, by decide, fl_X2_15⟩
theorem kp_X2_18 : k_fld RX2 18 2 2 10 true := ⟨RX2, TX2, tyX2, rfl, inK2, by decide, fl_X2_18, tyX2_ok, nmX2, (fun h => by cases h), (fun _ v hv => by rcases hv with rfl | ⟨a, rfl⟩ <;> exact ⟨rfl, rfl⟩), rfl, (fun _ => rfl)⟩
theorem kf_X2_18 : k_fldr RX2 18 2 2 10 := ⟨RX2, TX2, rfl, inK2, by decide, fl_X2_18⟩
theorem kp_X2_21 : k_fld RX2 21 2 3 10 true := ⟨RX2, TX2, tyX2, rfl, inK2, by decide, fl_X2_21, tyX2_ok, nmX2, (fun h => by cases h), (fun _ v hv => by rcases hv with rfl | ⟨a, rfl⟩ <;> exact ⟨rfl, rfl⟩), rfl, (fun _ => rfl)⟩
theorem kf_X2_21 : k_fldr RX2 21 2 3 10 := ⟨RX2, TX2, rfl, inK2, by decide, fl_X2_21⟩
theorem kp_X2_24 : k_fld RX2 24 2 4 10 true := ⟨RX2, TX2, tyX2, rfl, inK2, by decide, fl_X2_24, tyX2_ok, nmX2, (fun h => by cases h), (fun _ v hv => by rcases hv with rfl | ⟨a, rfl⟩ <;> exact ⟨rfl, rfl⟩), rfl, (fun _ => rfl)⟩
theorem kf_X2_24 : k_fldr RX2 24 2 4 10 := ⟨RX2, TX2, rfl, inK2, by decide, fl_X2_24⟩
theorem kp_X2_27 : k_fld RX2 27 2 5 10 false := ⟨RX2, TX2, tyX2, rfl, inK2, by decide, fl_X2_27, tyX2_ok, nmX2, (fun _ => rfl), (fun h => by cases h), rfl, (fun h => by cases h)⟩
theorem kf_X2_27 : k_fldr RX2 27 2 5 10 := ⟨RX2, TX2, rfl, inK2, by decide, fl_X2_27⟩
theorem kp_X0_63 : k_fld RX0 63 2 5 10 false := ⟨RX2, TX2, tyX2, rfl, inK2, by decide, fl_X0_63, tyX2_ok, nmX2, (fun _ => rfl), (fun h => by cases h), rfl, (fun h => by cases h)⟩
theorem kf_X0_63 : k_fldr RX0 63 2 5 10 := ⟨RX2, TX2, rfl, inK2, by decide, fl_X0_63⟩
theorem kp_X6_94 : k_fld RX6 94 2 5 10 false := ⟨RX2, TX2, tyX2, rfl, inK2, by decide, fl_X6_94, tyX2_ok, nmX2, (fun _ => rfl), (fun h => by cases h), rfl, (fun h => by cases h)⟩
theorem kf_X6_94 : k_fldr RX6 94 2 5 10 := ⟨RX2, TX2, rfl, inK2, by decide, fl_X6_94⟩
theorem kp_X2_31 : k_fld RX2 31 2 6 10 false := ⟨RX2, TX2, tyX2, rfl, inK2, by decide, fl_X2_31, tyX2_ok, nmX2, (fun _ => rfl), (fun h => by cases h), rfl, (fun h => by cases h)⟩
theorem kf_X2_31 : k_fldr RX2 31 2 6 10 := ⟨RX2, TX2, rfl, inK2, by decide, fl_X2_31⟩
theorem kp_X0_26 : k_fld RX0 26 2 6 10 false := ⟨RX2, TX2, tyX2, rfl, inK2, by decide, fl_X0_26, tyX2_ok, nmX2, (fun _ => rfl), (fun h => by cases h), rfl, (fun h => by cases h)⟩
theorem kf_X0_26 : k_fldr RX0 26 2 6 10 := ⟨RX2, TX2, rfl, inK2, by decide, fl_X0_26⟩
theorem kp_X1_64 : k_fld RX1 64 2 6 10 false := ⟨RX2, TX2, tyX2, rfl, inK2, by decide, fl_X1_64, tyX2_ok, nmX2, (fun _ => rfl), (fun h => by cases h), rfl, (fun h => by cases h)⟩
theorem kf_X1_64 : k_fldr RX1 64 2 6 10 := ⟨RX2, TX2, rfl, inK2, by decide, fl_X1_64⟩
theorem kp_X6_227 : k_fld RX6 227 2 6 10 false := ⟨RX2, TX2, tyX2, rfl, inK2, by decide, fl_X6_227, tyX2_ok, nmX2, (fun _ => rfl), (fun h => by cases h), rfl, (fun h => by cases h)⟩
theorem kf_X6_227 : k_fldr RX6 227 2 6 10 := ⟨RX2, TX2, rfl, inK2, by decide, fl_X6_227⟩
theorem kp_X2_34 : k_fld RX2 34 2 7 10 false := ⟨RX2, TX2, tyX2, rfl, inK2, by decide, fl_X2_34, tyX2_ok, nmX2, (fun _ => rfl), (fun h => by cases h), rfl, (fun h => by cases h)⟩
theorem kf_X2_34 : k_fldr RX2 34 2 7 10 := ⟨RX2, TX2, rfl, inK2, by decide, fl_X2_34⟩
theorem kp_X6_234 : k_fld RX6 234 2 7 10 false := ⟨RX2, TX2, tyX2, rfl, inK2, by decide, fl_X6_234, tyX2_ok, nmX2, (fun _ => rfl), (fun h => by cases h), rfl, (fun h => by cases h)⟩
theorem kf_X6_234 : k_fldr RX6 234 2 7 10 := ⟨RX2, TX2, rfl, inK2, by decide, fl_X6_234⟩
theorem kp_X2_37 : k_fld RX2 37 2 8 10 false := ⟨RX2, TX2, tyX2, rfl, inK2, by decide, fl_X2_37, tyX2_ok, nmX2, (fun _ => rfl), (fun h => by cases h), rfl, (fun h => by cases h)⟩
theorem kf_X2_37 : k_fldr RX2 37 2 8 10 := ⟨RX2, TX2, rfl, inK2, by decide, fl_X2_37⟩
theorem kp_X6_253 : k_fld RX6 253 2 8 10 false := ⟨RX2, TX2, tyX2, rfl, inK2, by decide, fl_X6_253, tyX2_ok, nmX2, (fun _ => rfl), (fun h => by cases h), rfl, (fun h => by cases h)⟩
theorem kf_X6_253 : k_fldr RX6 253 2 8 10 := ⟨RX2, TX2, rfl, inK2, by decide, fl_X6_253⟩
theorem kp_X2_40 : k_fld RX2 40 2 9 10 false := ⟨RX2, TX2, tyX2, rfl, inK2, by decide, fl_X2_40, tyX2_ok, nmX2, (fun _ => rfl), (fun h => by cases h), rfl, (fun h => by cases h)⟩
theorem kf_X2_40 : k_fldr RX2 40 2 9 10 := ⟨RX2, TX2, rfl, inK2, by decide, fl_X2_40⟩
theorem kp_X0_87 : k_fld RX0 87 2 9 10 false := ⟨RX2, TX2, tyX2, rfl, inK2, by decide, fl_X0_87, tyX2_ok, nmX2, (fun _ => rfl), (fun h => by cases h), rfl, (fun h => by cases h)⟩
theorem kf_X0_87 : k_fldr RX0 87 2 9 10 := ⟨RX2, TX2, rfl, inK2, by decide, fl_X0_87⟩
theorem kp_X6_256 : k_fld RX6 256 2 9 10 false := ⟨RX2, TX2, tyX2, rfl, inK2, by decide, fl_X6_256, tyX2_ok, nmX2, (fun _ => rfl), (fun h => by cases h), rfl, (fun h => by cases h)⟩
theorem kf_X6_256 : k_fldr RX6 256 2 9 10 := ⟨RX2, TX2, rfl, inK2, by decide, fl_X6_256⟩
theorem kp_X4_11 : k_fld RX4 11 4 0 3 true := ⟨RX4, TX4, tyX4, rfl, inK4, by decide, fl_X4_11, tyX4_ok, nmX4, (fun h => by cases h), (fun _ v hv => by rcases hv with rfl | ⟨a, rfl⟩ <;> exact ⟨rfl, rfl⟩), rfl, (fun _ => rfl)⟩
theorem kf_X4_11 : k_fldr RX4 11 4 0 3 := ⟨RX4, TX4, rfl, inK4, by decide, fl_X4_11⟩
theorem kp_X4_15 : k_fld RX4 15 4 1 3 false := ⟨RX4, TX4, tyX4, rfl, inK4, by decide, fl_X4_15, tyX4_ok, nmX4, (fun _ => rfl), (fun h => by cases h), rfl, (fun h => by cases h)⟩
theorem kf_X4_15 : k_fldr RX4 15 4 1 3 := ⟨RX4, TX4, rfl, inK4, by decide, fl_X4_15⟩
theorem kp_X0_53 : k_fld RX0 53 4 1 3 false := ⟨RX4, TX4, tyX4, rfl, inK4, by decide, fl_X0_53, tyX4_ok, nmX4, (fun _ => rfl), (fun h => by cases h), rfl, (fun h => by cases h)⟩
theorem kf_X0_53 : k_fldr RX0 53 4 1 3 := ⟨RX4, TX4, rfl, inK4, by decide, fl_X0_53⟩
theorem kp_X6_114 : k_fld RX6 114 4 1 3 false := ⟨RX4, TX4, tyX4, rfl, inK4, by decide, fl_X6_114, tyX4_ok, nmX4, (fun _ => rfl), (fun h => by cases h), rfl, (fun h => by cases h)⟩
theorem kf_X6_114 : k_fldr RX6 114 4 1 3 := ⟨RX4, TX4, rfl, inK4, by decide, fl_X6_114⟩
theorem kp_X2_114 : k_fld RX2 114 4 1 3 false := ⟨RX4, TX4, tyX4, rfl, inK4, by decide, fl_X2_114, tyX4_ok, nmX4, (fun _ => rfl), (fun h => by cases h), rfl, (fun h => by cases h)⟩
theorem kf_X2_114 : k_fldr RX2 114 4 1 3 := ⟨RX4, TX4, rfl, inK4, by decide, fl_X2_114⟩
theorem kp_X4_19 : k_fld RX4 19 4 2 3 false := ⟨RX4, TX4, tyX4, rfl, inK4, by decide, fl_X4_19, tyX4_ok, nmX4, (fun _ => rfl), (fun h => by cases h), rfl, (fun h => by cases h)⟩
theorem kf_X4_19 : k_fldr RX4 19 4 2 3 := ⟨RX4, TX4, rfl, inK4, by decide, fl_X4_19⟩
theorem kp_X0_60 : k_fld RX0 60 4 2 3 false := ⟨RX4, TX4, tyX4, rfl, inK4, by decide, fl_X0_60, tyX4_ok, nmX4, (fun _ => rfl), (fun h => by cases h), rfl, (fun h => by cases h)⟩
theorem kf_X0_60 : k_fldr RX0 60 4 2 3 := ⟨RX4, TX4, rfl, inK4, by decide, fl_X0_60⟩
theorem kp_X6_221 : k_fld RX6 221 4 2 3 false := ⟨RX4, TX4, tyX4, rfl, inK4, by decide, fl_X6_221, tyX4_ok, nmX4, (fun _ => rfl), (fun h => by cases h), rfl, (fun h => by cases h)⟩
theorem kf_X6_221 : k_fldr RX6 221 4 2 3 := ⟨RX4, TX4, rfl, inK4, by decide, fl_X6_221⟩
theorem kp_X3_15 : k_fld RX3 15 3 0 2 true := ⟨RX3, TX3, tyX3, rfl, inK3, by decide, fl_X3_15, tyX3_ok, nmX3, (fun h => by cases h), (fun _ v hv => by rcases hv with rfl | ⟨a, rfl⟩ <;> exact ⟨rfl, rfl⟩), rfl, (fun _ => rfl)⟩
theorem kf_X3_15 : k_fldr RX3 15 3 0 2 := ⟨RX3, TX3, rfl, inK3, by decide, fl_X3_15⟩
theorem kp_X3_22 : k_fld RX3 22 3 1 2 false := ⟨RX3, TX3, tyX3, rfl, inK3, by decide, fl_X3_22, tyX3_ok, nmX3, (fun _ => rfl), (fun h => by cases h), rfl, (fun h => by cases h)⟩
theorem kf_X3_22 : k_fldr RX3 22 3 1 2 := ⟨RX3, TX3, rfl, inK3, by decide, fl_X3_22⟩
theorem kp_X6_179 : k_fld RX6 179 3 1 2 false := ⟨RX3, TX3, tyX3, rfl, inK3, by decide, fl_X6_179, tyX3_ok, nmX3, (fun _ => rfl), (fun h => by cases h), rfl, (fun h => by cases h)⟩
theorem kf_X6_179 : k_fldr RX6 179 3 1 2 := ⟨RX3, TX3, rfl, inK3, by decide, fl_X6_179⟩
theorem kp_X0_18 : k_fld RX0 18 0 0 2 true := ⟨RX0, TX0, tyX0, rfl, inK0, by decide, fl_X0_18, tyX0_ok, nmX0, (fun h => by cases h), (fun _ v hv => by rcases hv with rfl | ⟨a, rfl⟩ <;> exact ⟨rfl, rfl⟩), rfl, (fun _ => rfl)⟩
theorem kf_X0_18 : k_fldr RX0 18 0 0 2 := ⟨RX0, TX0, rfl, inK0, by decide, fl_X0_18⟩
theorem kp_X0_12 : k_fld RX0 12 0 1 2 true := ⟨RX0, TX0, tyX0, rfl, inK0, by decide, fl_X0_12, tyX0_ok, nmX0, (fun h => by cases h), (fun _ v hv => by rcases hv with rfl | ⟨a, rfl⟩ <;> exact ⟨rfl, rfl⟩), rfl, (fun _ => rfl)⟩
theorem kf_X0_12 : k_fldr RX0 12 0 1 2 := ⟨RX0, TX0, rfl, inK0, by decide, fl_X0_12⟩
theorem kf_X6_191 : k_fldr RX6 191 0 1 2 := ⟨RX0, TX0, rfl, inK0, by decide, fl_X6_191⟩
theorem kp_X1_27 : k_fld RX1 27 1 0 7 true := ⟨RX1, TX1, tyX1, rfl, inK1, by decide, fl_X1_27, tyX1_ok, nmX1, (fun h => by cases h), (fun _ v hv => by rcases hv with rfl | ⟨a, rfl⟩ <;> exact ⟨rfl, rfl⟩), rfl, (fun _ => rfl)⟩
theorem kf_X1_27 : k_fldr RX1 27 1 0 7 := ⟨RX1, TX1, rfl, inK1, by decide, fl_X1_27⟩
theorem kp_X1_9 : k_fld RX1 9 1 1 7 true := ⟨RX1, TX1, tyX1, rfl, inK1, by decide, fl_X1_9, tyX1_ok, nmX1, (fun h => by cases h), (fun _ v hv => by rcases hv with rfl | ⟨a, rfl⟩ <;> exact ⟨rfl, rfl⟩), rfl, (fun _ => rfl)⟩
theorem kf_X1_9 : k_fldr RX1 9 1 1 7 := ⟨RX1, TX1, rfl, inK1, by decide, fl_X1_9⟩
theorem kp_X1_15 : k_fld RX1 15 1 2 7 true := ⟨RX1, TX1, tyX1, rfl, inK1, by decide, fl_X1_15, tyX1_ok, nmX1, (fun h => by cases h), (fun _ v hv => by rcases hv with rfl | ⟨a, rfl⟩ <;> exact ⟨rfl, rfl⟩), rfl, (fun _ => rfl)⟩
theorem kf_X1_15 : k_fldr RX1 15 1 2 7 := ⟨RX1, TX1, rfl, inK1, by decide, fl_X1_15⟩
theorem kp_X1_18 : k_fld RX1 18 1 3 7 true := ⟨RX1, TX1, tyX1, rfl, inK1, by decide, fl_X1_18, tyX1_ok, nmX1, (fun h => by cases h), (fun _ v hv => by rcases hv with rfl | ⟨a, rfl⟩ <;> exact ⟨rfl, rfl⟩), rfl, (fun _ => rfl)⟩
theorem kf_X1_18 : k_fldr RX1 18 1 3 7 := ⟨RX1, TX1, rfl, inK1, by decide, fl_X1_18⟩
theorem kp_X1_21 : k_fld RX1 21 1 4 7 true := ⟨RX1, TX1, tyX1, rfl, inK1, by decide, fl_X1_21, tyX1_ok, nmX1, (fun h => by cases h), (fun _ v hv => by rcases hv with rfl | ⟨a, rfl⟩ <;> exact ⟨rfl, rfl⟩), rfl, (fun _ => rfl)⟩
theorem kf_X1_21 : k_fldr RX1 21 1 4 7 := ⟨RX1, TX1, rfl, inK1, by decide, fl_X1_21⟩
theorem kp_X1_24 : k_fld RX1 24 1 5 7 true := ⟨RX1, TX1, tyX1, rfl, inK1, by decide, fl_X1_24, tyX1_ok, nmX1, (fun h => by cases h), (fun _ v hv => by rcases hv with rfl | ⟨a, rfl⟩ <;> exact ⟨rfl, rfl⟩), rfl, (fun _ => rfl)⟩
theorem kf_X1_24 : k_fldr RX1 24 1 5 7 := ⟨RX1, TX1, rfl, inK1, by decide, fl_X1_24⟩
theorem kp_X1_56 : k_fld RX1 56 1 6 7 false := ⟨RX1, TX1, tyX1, rfl, inK1, by decide, fl_X1_56, tyX1_ok, nmX1, (fun _ => rfl), (fun h => by cases h), rfl, (fun h => by cases h)⟩
theorem kf_X1_56 : k_fldr RX1 56 1 6 7 := ⟨RX1, TX1, rfl, inK1, by decide, fl_X1_56⟩
theorem kp_X6_204 : k_fld RX6 204 1 6 7 false := ⟨RX1, TX1, tyX1, rfl, inK1, by decide, fl_X6_204, tyX1_ok, nmX1, (fun _ => rfl), (fun h => by cases h), rfl, (fun h => by cases h)⟩
theorem kf_X6_204 : k_fldr RX6 204 1 6 7 := ⟨RX1, TX1, rfl, inK1, by decide, fl_X6_204⟩
theorem kp_X6_10 : k_fld RX6 10 6 0 7 true := ⟨RX6, TX6, tyX6, rfl, inK6, by decide, fl_X6_10, tyX6_ok, nmX6, (fun h => by cases h), (fun _ v hv => by rcases hv with rfl | ⟨a, rfl⟩ <;> exact ⟨rfl, rfl⟩), rfl, (fun _ => rfl)⟩
theorem kf_X6_10 : k_fldr RX6 10 6 0 7 := ⟨RX6, TX6, rfl, inK6, by decide, fl_X6_10⟩
theorem kp_X6_19 : k_fld RX6 19 6 1 7 true := ⟨RX6, TX6, tyX6, rfl, inK6, by decide, fl_X6_19, tyX6_ok, nmX6, (fun h => by cases h), (fun _ v hv => by rcases hv with rfl | ⟨a, rfl⟩ <;> exact ⟨rfl, rfl⟩), rfl, (fun _ => rfl)⟩
theorem kf_X6_19 : k_fldr RX6 19 6 1 7 := ⟨RX6, TX6, rfl, inK6, by decide, fl_X6_19⟩
theorem kp_X6_26 : k_fld RX6 26 6 2 7 true := ⟨RX6, TX6, tyX6, rfl, inK6, by decide, fl_X6_26, tyX6_ok, nmX6, (fun h => by cases h), (fun _ v hv => by rcases hv with rfl | ⟨a, rfl⟩ <;> exact ⟨rfl, rfl⟩), rfl, (fun _ => rfl)⟩
theorem kf_X6_26 : k_fldr RX6 26 6 2 7 := ⟨RX6, TX6, rfl, inK6, by decide, fl_X6_26⟩
theorem kp_X6_35 : k_fld RX6 35 6 3 7 true := ⟨RX6, TX6, tyX6, rfl, inK6, by decide, fl_X6_35, tyX6_ok, nmX6, (fun h => by cases h), (fun _ v hv => by rcases hv with rfl | ⟨a, rfl⟩ <;> exact ⟨rfl, rfl⟩), rfl, (fun _ => rfl)⟩
theorem kf_X6_35 : k_fldr RX6 35 6 3 7 := ⟨RX6, TX6, rfl, inK6, by decide, fl_X6_35⟩
theorem kp_X6_39 : k_fld RX6 39 6 4 7 true := ⟨RX6, TX6, tyX6, rfl, inK6, by decide, fl_X6_39, tyX6_ok, nmX6, (fun h => by cases h), (fun _ v hv => by rcases hv with rfl | ⟨a, rfl⟩ <;> exact ⟨rfl, rfl⟩), rfl, (fun _ => rfl)⟩
theorem kf_X6_39 : k_fldr RX6 39 6 4 7 := ⟨RX6, TX6, rfl, inK6, by decide, fl_X6_39⟩
theorem kp_X6_47 : k_fld RX6 47 6 5 7 true := ⟨RX6, TX6, tyX6, rfl, inK6, by decide, fl_X6_47, tyX6_ok, nmX6, (fun h => by cases h), (fun _ v hv => by rcases hv with rfl | ⟨a, rfl⟩ <;> exact ⟨rfl, rfl⟩), rfl, (fun _ => rfl)⟩
theorem kf_X6_47 : k_fldr RX6 47 6 5 7 := ⟨RX6, TX6, rfl, inK6, by decide, fl_X6_47⟩
theorem kp_X6_54 : k_fld RX6 54 6 6 7 true := ⟨RX6, TX6, tyX6, rfl, inK6, by decide, fl_X6_54, tyX6_ok, nmX6, (fun h => by cases h), (fun _ v hv => by rcases hv with rfl | ⟨a, rfl⟩ <;> exact ⟨rfl, rfl⟩), rfl, (fun _ => rfl)⟩
theorem kf_X6_54 : k_fldr RX6 54 6 6 7 := ⟨RX6, TX6, rfl, inK6, by decide, fl_X6_54⟩
theorem kp_X7_7 : k_fld RX7 7 7 0 14 true := ⟨RX7, TX7, tyX7, rfl, inK7, by decide, fl_X7_7, tyX7_ok, nmX7, (fun h => by cases h), (fun _ v hv => by rcases hv with rfl | ⟨a, rfl⟩ <;> exact ⟨rfl, rfl⟩), rfl, (fun _ => rfl)⟩
theorem kf_X7_7 : k_fldr RX7 7 7 0 14 := ⟨RX7, TX7, rfl, inK7, by decide, fl_X7_7⟩
theorem kp_X7_58 : k_fld RX7 58 7 1 14 false := ⟨RX7, TX7, tyX7, rfl, inK7, by decide, fl_X7_58, tyX7_ok, nmX7, (fun _ => rfl), (fun h => by cases h), rfl, (fun h => by cases h)⟩
theorem kf_X7_58 : k_fldr RX7 58 7 1 14 := ⟨RX7, TX7, rfl, inK7, by decide, fl_X7_58⟩
theorem kp_X7_13 : k_fld RX7 13 7 2 14 true := ⟨RX7, TX7, tyX7, rfl, inK7, by decide, fl_X7_13, tyX7_ok, nmX7, (fun h => by cases h), (fun _ v hv => by rcases hv with rfl | ⟨a, rfl⟩ <;> exact ⟨rfl, rfl⟩), rfl, (fun _ => rfl)⟩
theorem kf_X7_13 : k_fldr RX7 13 7 2 14 := ⟨RX7, TX7, rfl, inK7, by decide, fl_X7_13⟩
theorem kp_X7_16 : k_fld RX7 16 7 3 14 true := ⟨RX7, TX7, tyX7, rfl, inK7, by decide, fl_X7_16, tyX7_ok, nmX7, (fun h => by cases h), (fun _ v hv => by rcases hv with rfl | ⟨a, rfl⟩ <;> exact ⟨rfl, rfl⟩), rfl, (fun _ => rfl)⟩
theorem kf_X7_16 : k_fldr RX7 16 7 3 14 := ⟨RX7, TX7, rfl, inK7, by decide, fl_X7_16⟩
theorem kp_X7_19 : k_fld RX7 19 7 4 14 true := ⟨RX7, TX7, tyX7, rfl, inK7, by decide, fl_X7_19, tyX7_ok, nmX7, (fun h => by cases h), (fun _ v hv => by rcases hv with rfl | ⟨a, rfl⟩ <;> exact ⟨rfl, rfl⟩), rfl, (fun _ => rfl)⟩
theorem kf_X7_19 : k_fldr RX7 19 7 4 14 := ⟨RX7, TX7, rfl, inK7, by decide, fl_X7_19⟩
theorem kp_X7_22 : k_fld RX7 22 7 5 14 true := ⟨RX7, TX7, tyX7, rfl, inK7, by decide, fl_X7_22, tyX7_ok, nmX7, (fun h => by cases h), (fun _ v hv => by rcases hv with rfl | ⟨a, rfl⟩ <;> exact ⟨rfl, rfl⟩), rfl, (fun _ => rfl)⟩
theorem kf_X7_22 : k_fldr RX7 22 7 5 14 := ⟨RX7, TX7, rfl, inK7, by decide, fl_X7_22⟩
theorem kp_X7_25 : k_fld RX7 25 7 6 14 true := ⟨RX7, TX7, tyX7, rfl, inK7, by decide, fl_X7_25, tyX7_ok, nmX7, (fun h => by cases h), (fun _ v hv => by rcases hv with rfl | ⟨a, rfl⟩ <;> exact ⟨rfl, rfl⟩), rfl, (fun _ => rfl)⟩
theorem kf_X7_25 : k_fldr RX7 25 7 6 14 := ⟨RX7, TX7, rfl, inK7, by decide, fl_X7_25⟩
theorem kp_X7_84 : k_fld RX7 84 7 7 14 false := ⟨RX7, TX7, tyX7, rfl, inK7, by decide, fl_X7_84, tyX7_ok, nmX7, (fun _ => rfl), (fun h => by cases h), rfl, (fun h => by cases h)⟩
theorem kf_X7_84 : k_fldr RX7 84 7 7 14 := ⟨RX7, TX7, rfl, inK7, by decide, fl_X7_84⟩
theorem kp_X7_28 : k_fld RX7 28 7 8 14 true := ⟨RX7, TX7, tyX7, rfl, inK7, by decide, fl_X7_28, tyX7_ok, nmX7, (fun h => by cases h), (fun _ v hv => by rcases hv with rfl | ⟨a, rfl⟩ <;> exact ⟨rfl, rfl⟩), rfl, (fun _ => rfl)⟩
theorem kf_X7_28 : k_fldr RX7 28 7 8 14 := ⟨RX7, TX7, rfl, inK7, by decide, fl_X7_28⟩
theorem kp_X7_87 : k_fld RX7 87 7 9 14 false := ⟨RX7, TX7, tyX7, rfl, inK7, by decide, fl_X7_87, tyX7_ok, nmX7, (fun _ => rfl), (fun h => by cases h), rfl, (fun h => by cases h)⟩
theorem kf_X7_87 : k_fldr RX7 87 7 9 14 := ⟨RX7, TX7, rfl, inK7, by decide, fl_X7_87⟩
theorem kp_X7_62 : k_fld RX7 62 7 10 14 false := ⟨RX7, TX7, tyX7, rfl, inK7, by decide, fl_X7_62, tyX7_ok, nmX7, (fun _ => rfl), (fun h => by cases h), rfl, (fun h => by cases h)⟩
theorem kf_X7_62 : k_fldr RX7 62 7 10 14 := ⟨RX7, TX7, rfl, inK7, by decide, fl_X7_62⟩
theorem kp_X7_31 : k_fld RX7 31 7 11 14 true := ⟨RX7, TX7, tyX7, rfl, inK7, by decide, fl_X7_31, tyX7_ok, nmX7, (fun h => by cases h), (fun _ v hv => by rcases hv with rfl | ⟨a, rfl⟩ <;> exact ⟨rfl, rfl⟩), rfl, (fun _ => rfl)⟩
theorem kf_X7_31 : k_fldr RX7 31 7 11 14 := ⟨RX7, TX7, rfl, inK7, by decide, fl_X7_31⟩
theorem kp_X7_34 : k_fld RX7 34 7 12 14 true := ⟨RX7, TX7, tyX7, rfl, inK7, by decide, fl_X7_34, tyX7_ok, nmX7, (fun h => by cases h), (fun _ v hv => by rcases hv with rfl | ⟨a, rfl⟩ <;> exact ⟨rfl, rfl⟩), rfl, (fun _ => rfl)⟩
theorem kf_X7_34 : k_fldr RX7 34 7 12 14 := ⟨RX7, TX7, rfl, inK7, by decide, fl_X7_34⟩
theorem kp_X7_37 : k_fld RX7 37 7 13 14 true := ⟨RX7, TX7, tyX7, rfl, inK7, by decide, fl_X7_37, tyX7_ok, nmX7, (fun h => by cases h), (fun _ v hv => by rcases hv with rfl | ⟨a, rfl⟩ <;> exact ⟨rfl, rfl⟩), rfl, (fun _ => rfl)⟩
theorem kf_X7_37 : k_fldr RX7 37 7 13 14 := ⟨RX7, TX7, rfl, inK7, by decide, fl_X7_37⟩
theorem km_L_7 : k_mk RL 7 6 7 := ⟨RX6, TX6, tyX6, rfl, inK6, cl_L_7, is_X6, in_X6, tyX6_ok, by decide +kernel, by decide⟩
theorem km_X6_7 : k_mk RX6 7 5 3 := ⟨RX5, TX5, tyX5, rfl, inK5, cl_X6_7, is_X5, in_X5, tyX5_ok, by decide +kernel, by decide⟩
theorem km_X6_16 : k_mk RX6 16 2 10 := ⟨RX2, TX2, tyX2, rfl, inK2, cl_X6_16, is_X2, in_X2, tyX2_ok, by decide +kernel, by decide⟩
theorem km_X6_23 : k_mk RX6 23 4 3 := ⟨RX4, TX4, tyX4, rfl, inK4, cl_X6_23, is_X4, in_X4, tyX4_ok, by decide +kernel, by decide⟩
theorem km_X6_30 : k_mk RX6 30 3 2 := ⟨RX3, TX3, tyX3, rfl, inK3, cl_X6_30, is_X3, in_X3, tyX3_ok, by decide +kernel, by decide⟩
theorem km_X3_13 : k_mk RX3 13 4 3 := ⟨RX4, TX4, tyX4, rfl, inK4, cl_X3_13, is_X4, in_X4, tyX4_ok, by decide +kernel, by decide⟩
theorem km_X6_42 : k_mk RX6 42 0 2 := ⟨RX0, TX0, tyX0, rfl, inK0, cl_X6_42, is_X0, in_X0, tyX0_ok, by decide +kernel, by decide⟩
theorem km_X0_9 : k_mk RX0 9 4 3 := ⟨RX4, TX4, tyX4, rfl, inK4, cl_X0_9, is_X4, in_X4, tyX4_ok, by decide +kernel, by decide⟩
theorem km_X6_51 : k_mk RX6 51 1 7 := ⟨RX1, TX1, tyX1, rfl, inK1, cl_X6_51, is_X1, in_X1, tyX1_ok, by decide +kernel, by decide⟩
theorem km_L_10 : k_mk RL 10 7 14 := ⟨RX7, TX7, tyX7, rfl, inK7, cl_L_10, is_X7, in_X7, tyX7_ok, by decide +kernel, by decide⟩
end
section
/-! the rules again, over cells given as (kinds, numbers, references); contracts of a known answer -/
/-- called with As over h, it returns v with the cells h2; makes nothing -/
def kF (E : kEnv) (d : Nat) (M : kMd) (As : List kV) (h : kH) (v : Option kV) (h2 : kH) : Prop := kC E d 0 0 M As h (fun r h' => r = v ∧ h' = h2)
section KW8
variable {E : kEnv} {d mc ms d2 : Nat} {M M2 : kMd} {pc idx : Nat} {L : kLs} {S S0 As : List kV} {m : List (Nat × Nat)} {f : Nat → Int → Int} {g : Nat → Int → Option Nat} {h h2 : kH} {Q : Option kV → kH → Prop}
theorem kv_getI {ci k0 N a : Nat} {kz : Int} (hd : decode M.2.1 pc = .ok (.getfield idx, 3)) (q : k_fldr M.1.cls idx ci k0 N) (hm : m[a]? = some (ci, N)) (hf : k_fr ci k0 = false) (hz : (k0 : Int) = kz) (k : kW E d mc ms M (pc + 3) L (kI (f a kz) :: S) (m, f, g) Q) : kW E d mc ms M pc L (kA a :: S) (m, f, g) Q := kw_getI hd q hm hf hz k
theorem kv_getR {ci k0 N a b : Nat} (hd : decode M.2.1 pc = .ok (.getfield idx, 3)) (q : k_fldr M.1.cls idx ci k0 N) (hm : m[a]? = some (ci, N)) (hf : k_fr ci k0 = true) {kz : Int} (hz : (k0 : Int) = kz) (hr : g a kz = some b) (k : kW E d mc ms M (pc + 3) L (kA b :: S) (m, f, g) Q) : kW E d mc ms M pc L (kA a :: S) (m, f, g) Q := kw_getR hd q hm hf hz hr k
theorem kv_putI {ci k0 N a : Nat} {fin : Bool} {kz z : Int} (hd : decode M.2.1 pc = .ok (.putfield idx, 3)) (q : k_fld M.1.cls idx ci k0 N fin) (hm : m[a]? = some (ci, N)) (hf : k_fr ci k0 = false) (hn : fin = true → M.1.name = "<init>") (hz : (k0 : Int) = kz) (k : kW E d mc ms M (pc + 3) L S (m, k_u f a kz z, g) Q) : kW E d mc ms M pc L (kI z :: kA a :: S) (m, f, g) Q := kw_putI hd q hm hf hn hz k
theorem kv_putR {ci k0 N a : Nat} {fin : Bool} {kz : Int} {b : Nat} (hd : decode M.2.1 pc = .ok (.putfield idx, 3)) (q : k_fld M.1.cls idx ci k0 N fin) (hm : m[a]? = some (ci, N)) (hf : k_fr ci k0 = true) (hb : b < 1000000) (hn : fin = true → M.1.name = "<init>") (hz : (k0 : Int) = kz) (k : kW E d mc ms M (pc + 3) L S (m, f, k_u g a kz (some b)) Q) : kW E d mc ms M pc L (kA b :: kA a :: S) (m, f, g) Q := kw_putR hd q hm hf hb hn hz k
theorem kv_iald {a n : Nat} {i : Int} (hd : decode M.2.1 pc = .ok (.iaload, 1)) (hm : m[a]? = some (100, n)) (h0 : 0 ≤ i) (h1 : i < n) (k : kW E d mc ms M (pc + 1) L (kI (f a i) :: S) (m, f, g) Q) : kW E d mc ms M pc L (kI i :: kA a :: S) (m, f, g) Q := kw_iald hd hm h0 h1 k
theorem kv_cald {a n : Nat} {i : Int} (hd : decode M.2.1 pc = .ok (.caload, 1)) (hm : m[a]? = some (101, n)) (h0 : 0 ≤ i) (h1 : i < n) (k : kW E d mc ms M (pc + 1) L (kI (f a i) :: S) (m, f, g) Q) : kW E d mc ms M pc L (kI i :: kA a :: S) (m, f, g) Q := kw_cald hd hm h0 h1 k
theorem kv_aald {a n b : Nat} {i : Int} (hd : decode M.2.1 pc = .ok (.aaload, 1)) (hm : m[a]? = some (102, n)) (h0 : 0 ≤ i) (h1 : i < n) (hr : g a i = some b) (k : kW E d mc ms M (pc + 1) L (kA b :: S) (m, f, g) Q) : kW E d mc ms M pc L (kI i :: kA a :: S) (m, f, g) Q := kw_aald hd hm h0 h1 hr k
theorem kv_alen {a t n : Nat} (hd : decode M.2.1 pc = .ok (.arraylength, 1)) (hm : m[a]? = some (t, n)) (ht : t = 100 ∨ t = 101 ∨ t = 102) (k : kW E d mc ms M (pc + 1) L (kI n :: S) (m, f, g) Q) : kW E d mc ms M pc L (kA a :: S) (m, f, g) Q := kw_alen hd hm ht k
theorem kv_iast {a n : Nat} {i x : Int} (hd : decode M.2.1 pc = .ok (.iastore, 1)) (hm : m[a]? = some (100, n)) (h0 : 0 ≤ i) (h1 : i < n) (k : kW E d mc ms M (pc + 1) L S (m, k_u f a i x, g) Q) : kW E d mc ms M pc L (kI x :: kI i :: kA a :: S) (m, f, g) Q := kw_iast hd hm h0 h1 k
theorem kv_cast {a n : Nat} {i x : Int} (hd : decode M.2.1 pc = .ok (.castore, 1)) (hm : m[a]? = some (101, n)) (h0 : 0 ≤ i) (h1 : i < n) (hx0 : 0 ≤ x) (hx1 : x < 65536) (k : kW E d mc ms M (pc + 1) L S (m, k_u f a i x, g) Q) : kW E d mc ms M pc L (kI x :: kI i :: kA a :: S) (m, f, g) Q := kw_cast hd hm h0 h1 hx0 hx1 k
theorem kv_aast {a n b : Nat} {i : Int} (hd : decode M.2.1 pc = .ok (.aastore, 1)) (hm : m[a]? = some (102, n)) (hb : m[b]? = some (4, 3)) (h0 : 0 ≤ i) (h1 : i < n) (k : kW E d mc ms M (pc + 1) L S (m, f, k_u g a i (some b)) Q) : kW E d mc ms M pc L (kA b :: kI i :: kA a :: S) (m, f, g) Q := kw_aast hd hm hb h0 h1 k
theorem kv_copy {a0 a1 n0 n1 : Nat} {sp dp n : Int} (hd : decode M.2.1 pc = .ok (.invokestatic idx, 3)) (hw : Cond.methodLink M.1.cls idx arraycopyName ∈ k_KT) (hm0 : m[a0]? = some (100, n0)) (hm1 : m[a1]? = some (100, n1)) (h1 : 0 ≤ sp) (h2 : 0 ≤ dp) (h3 : 0 ≤ n) (h4 : sp + n ≤ n0) (h5 : dp + n ≤ n1) (hwd : (S.map k_wd).sum ≤ 8) (hd1 : 1 ≤ d)
    (k : kW E d mc ms M (pc + 3) L S (m, k_cp f a0 a1 sp dp n, g) Q) : kW E d mc ms M pc L (kI n :: kI dp :: kA a1 :: kI sp :: kA a0 :: S) (m, f, g) Q := kw_copy hd hw hm0 hm1 h1 h2 h3 h4 h5 hwd hd1 k
theorem kv_alenT0 (hd : decode M.2.1 pc = .ok (.arraylength, 1)) (k : kW E d mc ms M (pc + 1) L (kI 10 :: S) h Q) : kW E d mc ms M pc L (kA 1000000 :: S) h Q := kw_alenS (j := 0) hd (by decide) (by show (10 : Nat) < _; decide) k
theorem kv_alenT1 (hd : decode M.2.1 pc = .ok (.arraylength, 1)) (k : kW E d mc ms M (pc + 1) L (kI 10 :: S) h Q) : kW E d mc ms M pc L (kA 1000001 :: S) h Q := kw_alenS (j := 1) hd (by decide) (by show (10 : Nat) < _; decide) k
theorem k_T10 {l : List Int} (hl : ∀ z ∈ l, k_in z) (i : Nat) : k_in (l.getD i 0) := by
  by_cases hi : i < l.length
  · have e : l.getD i 0 = l[i] := by simp [List.getD_eq_getElem?_getD, hi]
    rw [e]
    exact hl _ (List.getElem_mem hi)
  · have e : l.getD i 0 = 0 := by simp [List.getD_eq_getElem?_getD, Nat.not_lt.mp hi]
    rw [e]
    exact k_in0
theorem kv_ialdT0 {i : Int} (hd : decode M.2.1 pc = .ok (.iaload, 1)) (h0 : 0 ≤ i) (h1 : i < 10) (k : kW E d mc ms M (pc + 1) L (kI (k_LEAST.getD i.toNat 0) :: S) h Q) : kW E d mc ms M pc L (kI i :: kA 1000000 :: S) h Q := kw_ialdS (j := 0) hd (by decide) h0 h1 (k_T10 (by unfold k_LEAST k_in; decide) _) k
theorem kv_ialdT1 {i : Int} (hd : decode M.2.1 pc = .ok (.iaload, 1)) (h0 : 0 ≤ i) (h1 : i < 10) (k : kW E d mc ms M (pc + 1) L (kI (k_MOST.getD i.toNat 0) :: S) h Q) : kW E d mc ms M pc L (kI i :: kA 1000001 :: S) h Q := kw_ialdS (j := 1) hd (by decide) h0 h1 (k_T10 (by unfold k_MOST k_in; decide) _) k
theorem kv_callV1 {b ci N : Nat} {T : u_T} {v : kV} (hd : decode M.2.1 pc = .ok (.invokevirtual idx, 3)) (hlk : Cond.methodLink M.1.cls idx M2.1 ∈ k_KT) (q : k_qV M2 As.length) (hcl : vwCl[ci]? = some (M2.1.cls, T, N)) (hb : h.1[b]? = some (ci, N)) (hs0 : S0 = As.reverse ++ kA b :: S) (hwd : (S.map k_wd).sum ≤ 8) (hc : kF E d2 M2 (kA b :: As) h (some v) h2) (hd2 : d2 + 1 ≤ d)
    (k : kW E d mc ms M (pc + 3) L (v :: S) h2 Q) : kW E d mc ms M pc L S0 h Q := kw_callV hd hlk q hcl hb hs0 hwd hc hd2 (Nat.le_refl _) (Nat.le_refl _) (fun r h' z => by obtain ⟨rfl, rfl⟩ := z; exact k)
theorem kv_callV0 {b ci N : Nat} {T : u_T} (hd : decode M.2.1 pc = .ok (.invokevirtual idx, 3)) (hlk : Cond.methodLink M.1.cls idx M2.1 ∈ k_KT) (q : k_qV M2 As.length) (hcl : vwCl[ci]? = some (M2.1.cls, T, N)) (hb : h.1[b]? = some (ci, N)) (hs0 : S0 = As.reverse ++ kA b :: S) (hwd : (S.map k_wd).sum ≤ 8) (hc : kF E d2 M2 (kA b :: As) h none h2) (hd2 : d2 + 1 ≤ d)
    (k : kW E d mc ms M (pc + 3) L S h2 Q) : kW E d mc ms M pc L S0 h Q := kw_callV hd hlk q hcl hb hs0 hwd hc hd2 (Nat.le_refl _) (Nat.le_refl _) (fun r h' z => by obtain ⟨rfl, rfl⟩ := z; exact k)
theorem kv_callS1 {v : kV} (hd : decode M.2.1 pc = .ok (.invokestatic idx, 3)) (hlk : Cond.methodLink M.1.cls idx M2.1 ∈ k_KT) (q : k_qS M2 As.length) (hs0 : S0 = As.reverse ++ S) (hwd : (S.map k_wd).sum ≤ 8) (hc : kF E d2 M2 As h (some v) h2) (hd2 : d2 + 1 ≤ d)
    (k : kW E d mc ms M (pc + 3) L (v :: S) h2 Q) : kW E d mc ms M pc L S0 h Q := kw_callS hd hlk q hs0 hwd hc hd2 (Nat.le_refl _) (Nat.le_refl _) (fun r h' z => by obtain ⟨rfl, rfl⟩ := z; exact k)
theorem kv_callS0 (hd : decode M.2.1 pc = .ok (.invokestatic idx, 3)) (hlk : Cond.methodLink M.1.cls idx M2.1 ∈ k_KT) (q : k_qS M2 As.length) (hs0 : S0 = As.reverse ++ S) (hwd : (S.map k_wd).sum ≤ 8) (hc : kF E d2 M2 As h none h2) (hd2 : d2 + 1 ≤ d)
    (k : kW E d mc ms M (pc + 3) L S h2 Q) : kW E d mc ms M pc L S0 h Q := kw_callS hd hlk q hs0 hwd hc hd2 (Nat.le_refl _) (Nat.le_refl _) (fun r h' z => by obtain ⟨rfl, rfl⟩ := z; exact k)
theorem kv_callN1 {v : kV} (hd : decode M.2.1 pc = .ok (.invokestatic idx, 3)) (hlk : (idx, M.1.cls, M2.1) ∈ k_nest) (q : k_qS M2 As.length) (hs0 : S0 = As.reverse ++ S) (hwd : (S.map k_wd).sum ≤ 8) (hc : kF E d2 M2 As h (some v) h2) (hd2 : d2 + 1 ≤ d)
    (k : kW E d mc ms M (pc + 3) L (v :: S) h2 Q) : kW E d mc ms M pc L S0 h Q := kw_callSN hd hlk q hs0 hwd hc hd2 (Nat.le_refl _) (Nat.le_refl _) (fun r h' z => by obtain ⟨rfl, rfl⟩ := z; exact k)
theorem kv_ifeqB {P : Prop} [Decidable P] {off : Int} {tgt : Nat} (hd : decode M.2.1 pc = .ok (.ifCond .eq off, 3)) (ht : (pc : Int) + off = (tgt : Int)) (kt : ¬ P → kW E d mc ms M tgt L S h Q) (kf : P → kW E d mc ms M (pc + 3) L S h Q) : kW E d mc ms M pc L (kI (if P then 1 else 0) :: S) h Q :=
  kw_if_eq hd ht (fun z => kt (fun p => by rw [if_pos p] at z; cases z)) (fun z => kf (Decidable.byContradiction (fun p => z (if_neg p))))
theorem kv_ifneB {P : Prop} [Decidable P] {off : Int} {tgt : Nat} (hd : decode M.2.1 pc = .ok (.ifCond .ne off, 3)) (ht : (pc : Int) + off = (tgt : Int)) (kt : P → kW E d mc ms M tgt L S h Q) (kf : ¬ P → kW E d mc ms M (pc + 3) L S h Q) : kW E d mc ms M pc L (kI (if P then 1 else 0) :: S) h Q :=
  kw_if_ne hd ht (fun z => kt (Decidable.byContradiction (fun p => z (if_neg p)))) (fun z => kf (fun p => by rw [if_pos p] at z; exact z (by decide)))
theorem kv_ri {z v : Int} (hd : decode M.2.1 pc = .ok (.ireturn, 1)) (hr : M.2.2.2 = some .int) (he : z = v) (hh : h = h2) : kW E d mc ms M pc L [kI z] h (fun r h' => r = some (kI v) ∧ h' = h2) := kw_iret hd hr rfl ⟨by rw [he], hh⟩
theorem k_nz {z : Int} (h : z = 0 ∨ z = 1) : narrow .boolean (.int (Int32.ofInt z)) = .int (Int32.ofInt z) := by
  rcases h with rfl | rfl <;> rfl
theorem k_nc {z : Int} (h0 : 0 ≤ z) (h1 : z < 65536) : narrow .char (.int (Int32.ofInt z)) = .int (Int32.ofInt z) := by
  obtain ⟨m, rfl⟩ := Int.eq_ofNat_of_zero_le h0
  rw [Int32.ofInt_eq_ofNat]
  exact (pk_charN (q := m) (by omega)).1
theorem kv_rb {z : Int} {P : Prop} [Decidable P] (hd : decode M.2.1 pc = .ok (.ireturn, 1)) (hr : M.2.2.2 = some .boolean) (he : z = if P then 1 else 0) (hh : h = h2) : kW E d mc ms M pc L [kI z] h (fun r h' => r = some (kI (if P then 1 else 0)) ∧ h' = h2) := kw_iret hd hr (k_nz (by rw [he]; split <;> simp)) ⟨by rw [he], hh⟩
theorem kv_rc {z v : Int} (hd : decode M.2.1 pc = .ok (.ireturn, 1)) (hr : M.2.2.2 = some .char) (h0 : 0 ≤ z) (h1 : z < 65536) (he : z = v) (hh : h = h2) : kW E d mc ms M pc L [kI z] h (fun r h' => r = some (kI v) ∧ h' = h2) := kw_iret hd hr (k_nc h0 h1) ⟨by rw [he], hh⟩
theorem kv_rv (hd : decode M.2.1 pc = .ok (.return_, 1)) (hr : M.2.2.2 = none) (hh : h = h2) : kW E d mc ms M pc L [] h (fun r h' => r = none ∧ h' = h2) := kw_ret hd hr ⟨rfl, hh⟩
theorem kF_of {v : Option kV} (hy : plainName M.1.cls = true) (hone : ∀ v ∈ As, k_one v) (hlen : As.length ≤ M.2.2.1) {L : kLs} (hL : As.map some ++ List.replicate (M.2.2.1 - As.length) none = L) (k : kW E d 0 0 M 0 L [] h (fun r h' => r = v ∧ h' = h2)) : kF E d M As h v h2 := by
  subst hL
  exact kC_of hy hone hlen k
end KW8
/-! the law's world: kinds and lengths of the class's cells and of the model's, the references that never change -/
def kMC : List (Nat × Nat) := [(6, 7), (5, 3), (101, 200), (100, 4), (2, 10), (100, 8), (100, 8), (100, 8), (100, 4), (100, 4), (4, 3), (100, 20), (3, 2), (102, 8), (4, 3), (100, 20), (4, 3), (100, 20), (4, 3), (100, 20), (4, 3), (100, 20), (4, 3), (100, 20), (4, 3), (100, 20), (4, 3), (100, 20), (4, 3), (100, 20), (3, 2), (102, 2), (4, 3), (100, 20), (4, 3), (100, 20), (0, 2), (4, 3), (100, 20), (1, 7), (100, 8), (100, 9), (100, 4), (100, 8), (100, 8)]
def kMM : List (Nat × Nat) := [(7, 14), (100, 200), (100, 37), (100, 37), (100, 29), (100, 29), (100, 232), (100, 58), (100, 29), (100, 4), (100, 8)]
/-- where a State lies -/
def kSA (a : Nat) : Prop := a = 10 ∨ a = 14 ∨ a = 16 ∨ a = 18 ∨ a = 20 ∨ a = 22 ∨ a = 24 ∨ a = 26 ∨ a = 28 ∨ a = 32 ∨ a = 34 ∨ a = 37
def kGL : List (Nat × Nat × Nat) := [(0, 0, 1), (0, 1, 4), (0, 2, 10), (0, 3, 12), (0, 4, 30), (0, 5, 36), (0, 6, 39), (1, 0, 2), (1, 1, 3), (4, 0, 5), (4, 1, 6), (4, 2, 7), (4, 3, 8), (4, 4, 9), (10, 0, 11), (12, 0, 13), (14, 0, 15), (16, 0, 17), (18, 0, 19), (20, 0, 21), (22, 0, 23), (24, 0, 25), (26, 0, 27), (28, 0, 29), (30, 0, 31), (32, 0, 33), (34, 0, 35), (36, 0, 4), (36, 1, 37), (37, 0, 38), (39, 0, 4), (39, 1, 40), (39, 2, 41), (39, 3, 42), (39, 4, 43), (39, 5, 44)]
/-- the class's references -/
def kG (g : Nat → Int → Option Nat) : Prop := ∀ q ∈ kGL, g q.1 (q.2.1 : Int) = some q.2.2
theorem kSA_m {a : Nat} (h : kSA a) (w : List (Nat × Nat)) : (kMC ++ w)[a]? = some (4, 3) := by
  rcases h with rfl | rfl | rfl | rfl | rfl | rfl | rfl | rfl | rfl | rfl | rfl | rfl <;> rfl
theorem kSA_c {a : Nat} (h : kSA a) (w : List (Nat × Nat)) : (kMC ++ w)[a + 1]? = some (100, 20) := by
  rcases h with rfl | rfl | rfl | rfl | rfl | rfl | rfl | rfl | rfl | rfl | rfl | rfl <;> rfl
theorem kSA_g {a : Nat} (h : kSA a) {g : Nat → Int → Option Nat} (hg : kG g) : g a 0 = some (a + 1) := by
  rcases h with rfl | rfl | rfl | rfl | rfl | rfl | rfl | rfl | rfl | rfl | rfl | rfl
  · exact hg (10, 0, 11) (by decide)
  · exact hg (14, 0, 15) (by decide)
  · exact hg (16, 0, 17) (by decide)
  · exact hg (18, 0, 19) (by decide)
  · exact hg (20, 0, 21) (by decide)
  · exact hg (22, 0, 23) (by decide)
  · exact hg (24, 0, 25) (by decide)
  · exact hg (26, 0, 27) (by decide)
  · exact hg (28, 0, 29) (by decide)
  · exact hg (32, 0, 33) (by decide)
  · exact hg (34, 0, 35) (by decide)
  · exact hg (37, 0, 38) (by decide)
end
section
theorem zz_look : True := trivial
end
