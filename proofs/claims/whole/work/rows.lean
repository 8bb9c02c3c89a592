section
-- ===== PART A: goes FIRST, ahead of the names: the tables' words, and 'selects' of the private methods out of them =====
/-- a private method of a class that the tables say can be made, by its rows of tables_1 -/
def lw_okq (q : MethodName × Nat) : Prop := (q.1.cls ≠ "java/lang/invoke/MethodHandle" ∧ q.1.cls ≠ "java/lang/invoke/VarHandle") ∧ Cond.instantiable q.1.cls q.2 ∈ tables_1 ∧ Cond.privateMethod q.1 ∈ tables_1 ∧ Cond.instanceMethod q.1 ∈ tables_1
theorem lw_p0 : lw_okq (⟨"HookOrCrook$Text", "figuresAt", "(I)I"⟩, 3) := ⟨⟨by decide +kernel, by decide +kernel⟩, List.mem_of_getElem? (i := 25) (by decide +kernel), List.mem_of_getElem? (i := 256) (by decide +kernel), List.mem_of_getElem? (i := 257) (by decide +kernel)⟩
theorem lw_p1 : lw_okq (⟨"HookOrCrook$Text", "readNumber", "(IIII)Z"⟩, 3) := ⟨⟨by decide +kernel, by decide +kernel⟩, List.mem_of_getElem? (i := 25) (by decide +kernel), List.mem_of_getElem? (i := 263) (by decide +kernel), List.mem_of_getElem? (i := 264) (by decide +kernel)⟩
theorem lw_p2 : lw_okq (⟨"HookOrCrook$Forest", "put", "(CLHookOrCrook$Text;LHookOrCrook$State;)V"⟩, 10) := ⟨⟨by decide +kernel, by decide +kernel⟩, List.mem_of_getElem? (i := 45) (by decide +kernel), List.mem_of_getElem? (i := 275) (by decide +kernel), List.mem_of_getElem? (i := 276) (by decide +kernel)⟩
theorem lw_p3 : lw_okq (⟨"HookOrCrook$Forest", "putBough", "(LHookOrCrook$Text;LHookOrCrook$State;)V"⟩, 10) := ⟨⟨by decide +kernel, by decide +kernel⟩, List.mem_of_getElem? (i := 45) (by decide +kernel), List.mem_of_getElem? (i := 279) (by decide +kernel), List.mem_of_getElem? (i := 280) (by decide +kernel)⟩
theorem lw_p4 : lw_okq (⟨"HookOrCrook$Forest", "putTenant", "(LHookOrCrook$Text;LHookOrCrook$State;)V"⟩, 10) := ⟨⟨by decide +kernel, by decide +kernel⟩, List.mem_of_getElem? (i := 45) (by decide +kernel), List.mem_of_getElem? (i := 291) (by decide +kernel), List.mem_of_getElem? (i := 292) (by decide +kernel)⟩
theorem lw_p5 : lw_okq (⟨"HookOrCrook$Text", "has", "(C)Z"⟩, 3) := ⟨⟨by decide +kernel, by decide +kernel⟩, List.mem_of_getElem? (i := 25) (by decide +kernel), List.mem_of_getElem? (i := 354) (by decide +kernel), List.mem_of_getElem? (i := 355) (by decide +kernel)⟩
theorem lw_p6 : lw_okq (⟨"HookOrCrook$Forest", "isInReach", "(LHookOrCrook$State;II)Z"⟩, 10) := ⟨⟨by decide +kernel, by decide +kernel⟩, List.mem_of_getElem? (i := 45) (by decide +kernel), List.mem_of_getElem? (i := 454) (by decide +kernel), List.mem_of_getElem? (i := 455) (by decide +kernel)⟩
theorem lw_p7 : lw_okq (⟨"HookOrCrook$Pile", "dropOldest", "()V"⟩, 2) := ⟨⟨by decide +kernel, by decide +kernel⟩, List.mem_of_getElem? (i := 112) (by decide +kernel), List.mem_of_getElem? (i := 477) (by decide +kernel), List.mem_of_getElem? (i := 478) (by decide +kernel)⟩
theorem lw_p8 : lw_okq (⟨"HookOrCrook$Course", "isOver", "()Z"⟩, 2) := ⟨⟨by decide +kernel, by decide +kernel⟩, List.mem_of_getElem? (i := 132) (by decide +kernel), List.mem_of_getElem? (i := 535) (by decide +kernel), List.mem_of_getElem? (i := 536) (by decide +kernel)⟩
theorem lw_p9 : lw_okq (⟨"HookOrCrook$Course", "gatherToday", "()V"⟩, 2) := ⟨⟨by decide +kernel, by decide +kernel⟩, List.mem_of_getElem? (i := 132) (by decide +kernel), List.mem_of_getElem? (i := 548) (by decide +kernel), List.mem_of_getElem? (i := 549) (by decide +kernel)⟩
theorem lw_p10 : lw_okq (⟨"HookOrCrook$Dealing", "takersOf", "(LHookOrCrook$State;I)I"⟩, 7) := ⟨⟨by decide +kernel, by decide +kernel⟩, List.mem_of_getElem? (i := 148) (by decide +kernel), List.mem_of_getElem? (i := 578) (by decide +kernel), List.mem_of_getElem? (i := 579) (by decide +kernel)⟩
theorem lw_p11 : lw_okq (⟨"HookOrCrook$Dealing", "keepIfBetter", "(I)V"⟩, 7) := ⟨⟨by decide +kernel, by decide +kernel⟩, List.mem_of_getElem? (i := 148) (by decide +kernel), List.mem_of_getElem? (i := 587) (by decide +kernel), List.mem_of_getElem? (i := 588) (by decide +kernel)⟩
theorem lw_p12 : lw_okq (⟨"HookOrCrook$Course", "blow", "(I)V"⟩, 2) := ⟨⟨by decide +kernel, by decide +kernel⟩, List.mem_of_getElem? (i := 132) (by decide +kernel), List.mem_of_getElem? (i := 672) (by decide +kernel), List.mem_of_getElem? (i := 673) (by decide +kernel)⟩
theorem lw_p13 : lw_okq (⟨"HookOrCrookModel", "begins", "()V"⟩, 14) := ⟨⟨by decide +kernel, by decide +kernel⟩, List.mem_of_getElem? (i := 697) (by decide +kernel), List.mem_of_getElem? (i := 703) (by decide +kernel), List.mem_of_getElem? (i := 704) (by decide +kernel)⟩
theorem lw_p14 : lw_okq (⟨"HookOrCrookModel", "boughOf", "(IIII)V"⟩, 14) := ⟨⟨by decide +kernel, by decide +kernel⟩, List.mem_of_getElem? (i := 697) (by decide +kernel), List.mem_of_getElem? (i := 707) (by decide +kernel), List.mem_of_getElem? (i := 708) (by decide +kernel)⟩
theorem lw_p15 : lw_okq (⟨"HookOrCrookModel", "tenantOf", "(III)V"⟩, 14) := ⟨⟨by decide +kernel, by decide +kernel⟩, List.mem_of_getElem? (i := 697) (by decide +kernel), List.mem_of_getElem? (i := 711) (by decide +kernel), List.mem_of_getElem? (i := 712) (by decide +kernel)⟩
def lw_privs_1 : List (MethodName × Nat) := [(⟨"HookOrCrook$Text", "figuresAt", "(I)I"⟩, 3), (⟨"HookOrCrook$Text", "readNumber", "(IIII)Z"⟩, 3), (⟨"HookOrCrook$Forest", "put", "(CLHookOrCrook$Text;LHookOrCrook$State;)V"⟩, 10), (⟨"HookOrCrook$Forest", "putBough", "(LHookOrCrook$Text;LHookOrCrook$State;)V"⟩, 10), (⟨"HookOrCrook$Forest", "putTenant", "(LHookOrCrook$Text;LHookOrCrook$State;)V"⟩, 10), (⟨"HookOrCrook$Text", "has", "(C)Z"⟩, 3), (⟨"HookOrCrook$Forest", "isInReach", "(LHookOrCrook$State;II)Z"⟩, 10), (⟨"HookOrCrook$Pile", "dropOldest", "()V"⟩, 2), (⟨"HookOrCrook$Course", "isOver", "()Z"⟩, 2), (⟨"HookOrCrook$Course", "gatherToday", "()V"⟩, 2), (⟨"HookOrCrook$Dealing", "takersOf", "(LHookOrCrook$State;I)I"⟩, 7), (⟨"HookOrCrook$Dealing", "keepIfBetter", "(I)V"⟩, 7), (⟨"HookOrCrook$Course", "blow", "(I)V"⟩, 2), (⟨"HookOrCrookModel", "begins", "()V"⟩, 14), (⟨"HookOrCrookModel", "boughOf", "(IIII)V"⟩, 14), (⟨"HookOrCrookModel", "tenantOf", "(III)V"⟩, 14)]
theorem lw_r1 : ∀ q ∈ lw_privs_1, lw_okq q := List.forall_mem_cons.mpr ⟨lw_p0, List.forall_mem_cons.mpr ⟨lw_p1, List.forall_mem_cons.mpr ⟨lw_p2, List.forall_mem_cons.mpr ⟨lw_p3, List.forall_mem_cons.mpr ⟨lw_p4, List.forall_mem_cons.mpr ⟨lw_p5, List.forall_mem_cons.mpr ⟨lw_p6, List.forall_mem_cons.mpr ⟨lw_p7, List.forall_mem_cons.mpr ⟨lw_p8, List.forall_mem_cons.mpr ⟨lw_p9, List.forall_mem_cons.mpr ⟨lw_p10, List.forall_mem_cons.mpr ⟨lw_p11, List.forall_mem_cons.mpr ⟨lw_p12, List.forall_mem_cons.mpr ⟨lw_p13, List.forall_mem_cons.mpr ⟨lw_p14, List.forall_mem_cons.mpr ⟨lw_p15, fun _ h => absurd h List.not_mem_nil⟩⟩⟩⟩⟩⟩⟩⟩⟩⟩⟩⟩⟩⟩⟩⟩
theorem lw_p16 : lw_okq (⟨"HookOrCrookModel", "lays", "()V"⟩, 14) := ⟨⟨by decide +kernel, by decide +kernel⟩, List.mem_of_getElem? (i := 697) (by decide +kernel), List.mem_of_getElem? (i := 715) (by decide +kernel), List.mem_of_getElem? (i := 716) (by decide +kernel)⟩
theorem lw_p17 : lw_okq (⟨"HookOrCrookModel", "readsAll", "()I"⟩, 14) := ⟨⟨by decide +kernel, by decide +kernel⟩, List.mem_of_getElem? (i := 697) (by decide +kernel), List.mem_of_getElem? (i := 777) (by decide +kernel), List.mem_of_getElem? (i := 778) (by decide +kernel)⟩
theorem lw_p18 : lw_okq (⟨"HookOrCrookModel", "readsItem", "(I)Z"⟩, 14) := ⟨⟨by decide +kernel, by decide +kernel⟩, List.mem_of_getElem? (i := 697) (by decide +kernel), List.mem_of_getElem? (i := 781) (by decide +kernel), List.mem_of_getElem? (i := 782) (by decide +kernel)⟩
theorem lw_p19 : lw_okq (⟨"HookOrCrookModel", "number", "(III)I"⟩, 14) := ⟨⟨by decide +kernel, by decide +kernel⟩, List.mem_of_getElem? (i := 697) (by decide +kernel), List.mem_of_getElem? (i := 785) (by decide +kernel), List.mem_of_getElem? (i := 786) (by decide +kernel)⟩
theorem lw_p20 : lw_okq (⟨"HookOrCrookModel", "letterAt", "(I)I"⟩, 14) := ⟨⟨by decide +kernel, by decide +kernel⟩, List.mem_of_getElem? (i := 697) (by decide +kernel), List.mem_of_getElem? (i := 789) (by decide +kernel), List.mem_of_getElem? (i := 790) (by decide +kernel)⟩
theorem lw_p21 : lw_okq (⟨"HookOrCrookModel", "isBough", "(I)Z"⟩, 14) := ⟨⟨by decide +kernel, by decide +kernel⟩, List.mem_of_getElem? (i := 697) (by decide +kernel), List.mem_of_getElem? (i := 804) (by decide +kernel), List.mem_of_getElem? (i := 805) (by decide +kernel)⟩
theorem lw_p22 : lw_okq (⟨"HookOrCrookModel", "isDead", "(II)Z"⟩, 14) := ⟨⟨by decide +kernel, by decide +kernel⟩, List.mem_of_getElem? (i := 697) (by decide +kernel), List.mem_of_getElem? (i := 808) (by decide +kernel), List.mem_of_getElem? (i := 809) (by decide +kernel)⟩
theorem lw_p23 : lw_okq (⟨"HookOrCrookModel", "isFallen", "(II)Z"⟩, 14) := ⟨⟨by decide +kernel, by decide +kernel⟩, List.mem_of_getElem? (i := 697) (by decide +kernel), List.mem_of_getElem? (i := 812) (by decide +kernel), List.mem_of_getElem? (i := 813) (by decide +kernel)⟩
theorem lw_p24 : lw_okq (⟨"HookOrCrookModel", "isTenant", "(I)Z"⟩, 14) := ⟨⟨by decide +kernel, by decide +kernel⟩, List.mem_of_getElem? (i := 697) (by decide +kernel), List.mem_of_getElem? (i := 820) (by decide +kernel), List.mem_of_getElem? (i := 821) (by decide +kernel)⟩
theorem lw_p25 : lw_okq (⟨"HookOrCrookModel", "isWarm", "(I)Z"⟩, 14) := ⟨⟨by decide +kernel, by decide +kernel⟩, List.mem_of_getElem? (i := 697) (by decide +kernel), List.mem_of_getElem? (i := 824) (by decide +kernel), List.mem_of_getElem? (i := 825) (by decide +kernel)⟩
theorem lw_p26 : lw_okq (⟨"HookOrCrookModel", "canNow", "(II)Z"⟩, 14) := ⟨⟨by decide +kernel, by decide +kernel⟩, List.mem_of_getElem? (i := 697) (by decide +kernel), List.mem_of_getElem? (i := 832) (by decide +kernel), List.mem_of_getElem? (i := 833) (by decide +kernel)⟩
theorem lw_p27 : lw_okq (⟨"HookOrCrookModel", "could", "(IIII)Z"⟩, 14) := ⟨⟨by decide +kernel, by decide +kernel⟩, List.mem_of_getElem? (i := 697) (by decide +kernel), List.mem_of_getElem? (i := 836) (by decide +kernel), List.mem_of_getElem? (i := 837) (by decide +kernel)⟩
theorem lw_p28 : lw_okq (⟨"HookOrCrookModel", "keeps", "()V"⟩, 14) := ⟨⟨by decide +kernel, by decide +kernel⟩, List.mem_of_getElem? (i := 697) (by decide +kernel), List.mem_of_getElem? (i := 844) (by decide +kernel), List.mem_of_getElem? (i := 845) (by decide +kernel)⟩
theorem lw_p29 : lw_okq (⟨"HookOrCrookModel", "takes", "(II)V"⟩, 14) := ⟨⟨by decide +kernel, by decide +kernel⟩, List.mem_of_getElem? (i := 697) (by decide +kernel), List.mem_of_getElem? (i := 848) (by decide +kernel), List.mem_of_getElem? (i := 849) (by decide +kernel)⟩
theorem lw_p30 : lw_okq (⟨"HookOrCrookModel", "passes", "()V"⟩, 14) := ⟨⟨by decide +kernel, by decide +kernel⟩, List.mem_of_getElem? (i := 697) (by decide +kernel), List.mem_of_getElem? (i := 856) (by decide +kernel), List.mem_of_getElem? (i := 857) (by decide +kernel)⟩
theorem lw_p31 : lw_okq (⟨"HookOrCrookModel", "holds", "()V"⟩, 14) := ⟨⟨by decide +kernel, by decide +kernel⟩, List.mem_of_getElem? (i := 697) (by decide +kernel), List.mem_of_getElem? (i := 876) (by decide +kernel), List.mem_of_getElem? (i := 877) (by decide +kernel)⟩
def lw_privs_2 : List (MethodName × Nat) := [(⟨"HookOrCrookModel", "lays", "()V"⟩, 14), (⟨"HookOrCrookModel", "readsAll", "()I"⟩, 14), (⟨"HookOrCrookModel", "readsItem", "(I)Z"⟩, 14), (⟨"HookOrCrookModel", "number", "(III)I"⟩, 14), (⟨"HookOrCrookModel", "letterAt", "(I)I"⟩, 14), (⟨"HookOrCrookModel", "isBough", "(I)Z"⟩, 14), (⟨"HookOrCrookModel", "isDead", "(II)Z"⟩, 14), (⟨"HookOrCrookModel", "isFallen", "(II)Z"⟩, 14), (⟨"HookOrCrookModel", "isTenant", "(I)Z"⟩, 14), (⟨"HookOrCrookModel", "isWarm", "(I)Z"⟩, 14), (⟨"HookOrCrookModel", "canNow", "(II)Z"⟩, 14), (⟨"HookOrCrookModel", "could", "(IIII)Z"⟩, 14), (⟨"HookOrCrookModel", "keeps", "()V"⟩, 14), (⟨"HookOrCrookModel", "takes", "(II)V"⟩, 14), (⟨"HookOrCrookModel", "passes", "()V"⟩, 14), (⟨"HookOrCrookModel", "holds", "()V"⟩, 14)]
theorem lw_r2 : ∀ q ∈ lw_privs_2, lw_okq q := List.forall_mem_cons.mpr ⟨lw_p16, List.forall_mem_cons.mpr ⟨lw_p17, List.forall_mem_cons.mpr ⟨lw_p18, List.forall_mem_cons.mpr ⟨lw_p19, List.forall_mem_cons.mpr ⟨lw_p20, List.forall_mem_cons.mpr ⟨lw_p21, List.forall_mem_cons.mpr ⟨lw_p22, List.forall_mem_cons.mpr ⟨lw_p23, List.forall_mem_cons.mpr ⟨lw_p24, List.forall_mem_cons.mpr ⟨lw_p25, List.forall_mem_cons.mpr ⟨lw_p26, List.forall_mem_cons.mpr ⟨lw_p27, List.forall_mem_cons.mpr ⟨lw_p28, List.forall_mem_cons.mpr ⟨lw_p29, List.forall_mem_cons.mpr ⟨lw_p30, List.forall_mem_cons.mpr ⟨lw_p31, fun _ h => absurd h List.not_mem_nil⟩⟩⟩⟩⟩⟩⟩⟩⟩⟩⟩⟩⟩⟩⟩⟩
theorem lw_p32 : lw_okq (⟨"HookOrCrookModel", "warmAt", "(I)I"⟩, 14) := ⟨⟨by decide +kernel, by decide +kernel⟩, List.mem_of_getElem? (i := 697) (by decide +kernel), List.mem_of_getElem? (i := 880) (by decide +kernel), List.mem_of_getElem? (i := 881) (by decide +kernel)⟩
theorem lw_p33 : lw_okq (⟨"HookOrCrookModel", "eachTakes", "()V"⟩, 14) := ⟨⟨by decide +kernel, by decide +kernel⟩, List.mem_of_getElem? (i := 697) (by decide +kernel), List.mem_of_getElem? (i := 884) (by decide +kernel), List.mem_of_getElem? (i := 885) (by decide +kernel)⟩
theorem lw_p34 : lw_okq (⟨"HookOrCrookModel", "warm", "()I"⟩, 14) := ⟨⟨by decide +kernel, by decide +kernel⟩, List.mem_of_getElem? (i := 697) (by decide +kernel), List.mem_of_getElem? (i := 888) (by decide +kernel), List.mem_of_getElem? (i := 889) (by decide +kernel)⟩
theorem lw_p35 : lw_okq (⟨"HookOrCrookModel", "lets", "()V"⟩, 14) := ⟨⟨by decide +kernel, by decide +kernel⟩, List.mem_of_getElem? (i := 697) (by decide +kernel), List.mem_of_getElem? (i := 892) (by decide +kernel), List.mem_of_getElem? (i := 893) (by decide +kernel)⟩
theorem lw_p36 : lw_okq (⟨"HookOrCrookModel", "firstOf", "(II)I"⟩, 14) := ⟨⟨by decide +kernel, by decide +kernel⟩, List.mem_of_getElem? (i := 697) (by decide +kernel), List.mem_of_getElem? (i := 916) (by decide +kernel), List.mem_of_getElem? (i := 917) (by decide +kernel)⟩
theorem lw_p37 : lw_okq (⟨"HookOrCrookModel", "weighs", "()I"⟩, 14) := ⟨⟨by decide +kernel, by decide +kernel⟩, List.mem_of_getElem? (i := 697) (by decide +kernel), List.mem_of_getElem? (i := 944) (by decide +kernel), List.mem_of_getElem? (i := 945) (by decide +kernel)⟩
def lw_privs_3 : List (MethodName × Nat) := [(⟨"HookOrCrookModel", "warmAt", "(I)I"⟩, 14), (⟨"HookOrCrookModel", "eachTakes", "()V"⟩, 14), (⟨"HookOrCrookModel", "warm", "()I"⟩, 14), (⟨"HookOrCrookModel", "lets", "()V"⟩, 14), (⟨"HookOrCrookModel", "firstOf", "(II)I"⟩, 14), (⟨"HookOrCrookModel", "weighs", "()I"⟩, 14)]
theorem lw_r3 : ∀ q ∈ lw_privs_3, lw_okq q := List.forall_mem_cons.mpr ⟨lw_p32, List.forall_mem_cons.mpr ⟨lw_p33, List.forall_mem_cons.mpr ⟨lw_p34, List.forall_mem_cons.mpr ⟨lw_p35, List.forall_mem_cons.mpr ⟨lw_p36, List.forall_mem_cons.mpr ⟨lw_p37, fun _ h => absurd h List.not_mem_nil⟩⟩⟩⟩⟩⟩
def lw_privs : List (MethodName × Nat) := lw_privs_1 ++ (lw_privs_2 ++ (lw_privs_3))
def lw_tbl : List Cond := k2_sels lw_privs ++ tables_1
theorem lw_privs_ok : ∀ q ∈ lw_privs, lw_okq q := by
  show ∀ q ∈ lw_privs_1 ++ (lw_privs_2 ++ (lw_privs_3)), lw_okq q
  exact List.forall_mem_append.mpr ⟨lw_r1, List.forall_mem_append.mpr ⟨lw_r2, lw_r3⟩⟩
def RX0 : String := "HookOrCrook$Course"
def TX0 : u_T := fun k => match k with
  | 0 => ("HookOrCrook$Course", "forest", "LHookOrCrook$Forest;", true)
  | _ => ("HookOrCrook$Course", "state", "LHookOrCrook$State;", true)
def tyX0 : Nat → FieldType := fun k => match k with
  | 0 => .object "HookOrCrook$Forest"
  | _ => .object "HookOrCrook$State"
abbrev wsX00 : List Cond := u_ws RX0 TX0 2
theorem nmX0 : ∀ a, a < 2 → ∀ b, b < 2 → a ≠ b → (TX0 a).2.1 ≠ (TX0 b).2.1 := by decide +kernel
theorem tyX0_ok : ∀ k, k < 2 → parseFieldDescriptor (TX0 k).2.2.1 = some (tyX0 k) := by decide +kernel
abbrev cX0_init : ByteArray := prog_2_method_1_code
def yX0_init : MethodName := ⟨RX0, "<init>", "(LHookOrCrook$Forest;)V"⟩
abbrev cX0_begin : ByteArray := prog_2_method_2_code
def yX0_begin : MethodName := ⟨RX0, "begin", "(LHookOrCrook$State;)V"⟩
abbrev cX0_shortenHooks : ByteArray := prog_2_method_3_code
def yX0_shortenHooks : MethodName := ⟨RX0, "shortenHooks", "(I)V"⟩
abbrev cX0_goTo : ByteArray := prog_2_method_4_code
def yX0_goTo : MethodName := ⟨RX0, "goTo", "(I)V"⟩
abbrev cX0_isOver : ByteArray := prog_2_method_5_code
def yX0_isOver : MethodName := ⟨RX0, "isOver", "()Z"⟩
abbrev cX0_firstDayAllWarm : ByteArray := prog_2_method_6_code
def yX0_firstDayAllWarm : MethodName := ⟨RX0, "firstDayAllWarm", "()I"⟩
abbrev cX0_goThroughStorm : ByteArray := prog_2_method_7_code
def yX0_goThroughStorm : MethodName := ⟨RX0, "goThroughStorm", "(II)V"⟩
abbrev cX0_draw : ByteArray := prog_2_method_8_code
def yX0_draw : MethodName := ⟨RX0, "draw", "(II)I"⟩
abbrev cX0_blow : ByteArray := prog_2_method_9_code
def yX0_blow : MethodName := ⟨RX0, "blow", "(I)V"⟩
abbrev cX0_gatherToday : ByteArray := prog_2_method_10_code
def yX0_gatherToday : MethodName := ⟨RX0, "gatherToday", "()V"⟩
def RX1 : String := "HookOrCrook$Dealing"
def TX1 : u_T := fun k => match k with
  | 0 => ("HookOrCrook$Dealing", "forest", "LHookOrCrook$Forest;", true)
  | 1 => ("HookOrCrook$Dealing", "takers", "[I", true)
  | 2 => ("HookOrCrook$Dealing", "rest", "[I", true)
  | 3 => ("HookOrCrook$Dealing", "free", "[I", true)
  | 4 => ("HookOrCrook$Dealing", "owners", "[I", true)
  | 5 => ("HookOrCrook$Dealing", "bestOwners", "[I", true)
  | _ => ("HookOrCrook$Dealing", "most", "I", false)
def tyX1 : Nat → FieldType := fun k => match k with
  | 0 => .object "HookOrCrook$Forest"
  | 1 => .array .int
  | 2 => .array .int
  | 3 => .array .int
  | 4 => .array .int
  | 5 => .array .int
  | _ => .int
abbrev wsX10 : List Cond := u_ws RX1 TX1 7
theorem nmX1 : ∀ a, a < 7 → ∀ b, b < 7 → a ≠ b → (TX1 a).2.1 ≠ (TX1 b).2.1 := by decide +kernel
theorem tyX1_ok : ∀ k, k < 7 → parseFieldDescriptor (TX1 k).2.2.1 = some (tyX1 k) := by decide +kernel
abbrev cX1_init : ByteArray := prog_3_method_1_code
def yX1_init : MethodName := ⟨RX1, "<init>", "(LHookOrCrook$Forest;)V"⟩
abbrev cX1_whoHas : ByteArray := prog_3_method_2_code
def yX1_whoHas : MethodName := ⟨RX1, "whoHas", "(I)I"⟩
abbrev cX1_find : ByteArray := prog_3_method_3_code
def yX1_find : MethodName := ⟨RX1, "find", "(LHookOrCrook$State;)V"⟩
abbrev cX1_takersOf : ByteArray := prog_3_method_4_code
def yX1_takersOf : MethodName := ⟨RX1, "takersOf", "(LHookOrCrook$State;I)I"⟩
abbrev cX1_deal : ByteArray := prog_3_method_5_code
def yX1_deal : MethodName := ⟨RX1, "deal", "(LHookOrCrook$Dealing;III)V"⟩
abbrev cX1_keepIfBetter : ByteArray := prog_3_method_6_code
def yX1_keepIfBetter : MethodName := ⟨RX1, "keepIfBetter", "(I)V"⟩
def RX2 : String := "HookOrCrook$Forest"
def TX2 : u_T := fun k => match k with
  | 0 => ("HookOrCrook$Forest", "kinds", "[I", true)
  | 1 => ("HookOrCrook$Forest", "heights", "[I", true)
  | 2 => ("HookOrCrook$Forest", "weights", "[I", true)
  | 3 => ("HookOrCrook$Forest", "strengths", "[I", true)
  | 4 => ("HookOrCrook$Forest", "hearths", "[I", true)
  | 5 => ("HookOrCrook$Forest", "boughs", "I", false)
  | 6 => ("HookOrCrook$Forest", "tenants", "I", false)
  | 7 => ("HookOrCrook$Forest", "longest", "I", false)
  | 8 => ("HookOrCrook$Forest", "round", "I", false)
  | _ => ("HookOrCrook$Forest", "falls", "I", false)
def tyX2 : Nat → FieldType := fun k => match k with
  | 0 => .array .int
  | 1 => .array .int
  | 2 => .array .int
  | 3 => .array .int
  | 4 => .array .int
  | 5 => .int
  | 6 => .int
  | 7 => .int
  | 8 => .int
  | _ => .int
abbrev wsX20 : List Cond := u_ws RX2 TX2 10
theorem nmX2 : ∀ a, a < 10 → ∀ b, b < 10 → a ≠ b → (TX2 a).2.1 ≠ (TX2 b).2.1 := by decide +kernel
theorem tyX2_ok : ∀ k, k < 10 → parseFieldDescriptor (TX2 k).2.2.1 = some (tyX2 k) := by decide +kernel
abbrev cX2_init : ByteArray := prog_4_method_1_code
def yX2_init : MethodName := ⟨RX2, "<init>", "()V"⟩
abbrev cX2_read : ByteArray := prog_4_method_2_code
def yX2_read : MethodName := ⟨RX2, "read", "(LHookOrCrook$Text;LHookOrCrook$State;)V"⟩
abbrev cX2_put : ByteArray := prog_4_method_3_code
def yX2_put : MethodName := ⟨RX2, "put", "(CLHookOrCrook$Text;LHookOrCrook$State;)V"⟩
abbrev cX2_putBough : ByteArray := prog_4_method_4_code
def yX2_putBough : MethodName := ⟨RX2, "putBough", "(LHookOrCrook$Text;LHookOrCrook$State;)V"⟩
abbrev cX2_putTenant : ByteArray := prog_4_method_5_code
def yX2_putTenant : MethodName := ⟨RX2, "putTenant", "(LHookOrCrook$Text;LHookOrCrook$State;)V"⟩
abbrev cX2_hasBough : ByteArray := prog_4_method_6_code
def yX2_hasBough : MethodName := ⟨RX2, "hasBough", "(I)Z"⟩
abbrev cX2_hasTenant : ByteArray := prog_4_method_7_code
def yX2_hasTenant : MethodName := ⟨RX2, "hasTenant", "(I)Z"⟩
abbrev cX2_kind : ByteArray := prog_4_method_8_code
def yX2_kind : MethodName := ⟨RX2, "kind", "(I)I"⟩
abbrev cX2_height : ByteArray := prog_4_method_9_code
def yX2_height : MethodName := ⟨RX2, "height", "(I)I"⟩
abbrev cX2_weight : ByteArray := prog_4_method_10_code
def yX2_weight : MethodName := ⟨RX2, "weight", "(I)I"⟩
abbrev cX2_strength : ByteArray := prog_4_method_11_code
def yX2_strength : MethodName := ⟨RX2, "strength", "(I)I"⟩
abbrev cX2_hearth : ByteArray := prog_4_method_12_code
def yX2_hearth : MethodName := ⟨RX2, "hearth", "(I)I"⟩
abbrev cX2_weightOf : ByteArray := prog_4_method_13_code
def yX2_weightOf : MethodName := ⟨RX2, "weightOf", "(I)I"⟩
abbrev cX2_isDead : ByteArray := prog_4_method_14_code
def yX2_isDead : MethodName := ⟨RX2, "isDead", "(LHookOrCrook$State;II)Z"⟩
abbrev cX2_hasFallen : ByteArray := prog_4_method_15_code
def yX2_hasFallen : MethodName := ⟨RX2, "hasFallen", "(LHookOrCrook$State;II)Z"⟩
abbrev cX2_isInReach : ByteArray := prog_4_method_16_code
def yX2_isInReach : MethodName := ⟨RX2, "isInReach", "(LHookOrCrook$State;II)Z"⟩
abbrev cX2_couldTake : ByteArray := prog_4_method_17_code
def yX2_couldTake : MethodName := ⟨RX2, "couldTake", "(LHookOrCrook$State;IIII)Z"⟩
abbrev cX2_canTake : ByteArray := prog_4_method_18_code
def yX2_canTake : MethodName := ⟨RX2, "canTake", "(LHookOrCrook$State;II)Z"⟩
abbrev cX2_isCaught : ByteArray := prog_4_method_19_code
def yX2_isCaught : MethodName := ⟨RX2, "isCaught", "(LHookOrCrook$State;II)Z"⟩
abbrev cX2_isWarm : ByteArray := prog_4_method_20_code
def yX2_isWarm : MethodName := ⟨RX2, "isWarm", "(LHookOrCrook$State;I)Z"⟩
abbrev cX2_warmOnes : ByteArray := prog_4_method_21_code
def yX2_warmOnes : MethodName := ⟨RX2, "warmOnes", "(LHookOrCrook$State;)I"⟩
abbrev cX2_areAllWarm : ByteArray := prog_4_method_22_code
def yX2_areAllWarm : MethodName := ⟨RX2, "areAllWarm", "(LHookOrCrook$State;)Z"⟩
abbrev cX2_firstDayFor : ByteArray := prog_4_method_23_code
def yX2_firstDayFor : MethodName := ⟨RX2, "firstDayFor", "(LHookOrCrook$State;II)I"⟩
abbrev cX2_nobodyEverTakes : ByteArray := prog_4_method_24_code
def yX2_nobodyEverTakes : MethodName := ⟨RX2, "nobodyEverTakes", "(LHookOrCrook$State;I)Z"⟩
def RX3 : String := "HookOrCrook$Pile"
def TX3 : u_T := fun k => match k with
  | 0 => ("HookOrCrook$Pile", "states", "[LHookOrCrook$State;", true)
  | _ => ("HookOrCrook$Pile", "many", "I", false)
def tyX3 : Nat → FieldType := fun k => match k with
  | 0 => .array (.object "HookOrCrook$State")
  | _ => .int
abbrev wsX30 : List Cond := u_ws RX3 TX3 2
theorem nmX3 : ∀ a, a < 2 → ∀ b, b < 2 → a ≠ b → (TX3 a).2.1 ≠ (TX3 b).2.1 := by decide +kernel
theorem tyX3_ok : ∀ k, k < 2 → parseFieldDescriptor (TX3 k).2.2.1 = some (tyX3 k) := by decide +kernel
abbrev cX3_init : ByteArray := prog_5_method_1_code
def yX3_init : MethodName := ⟨RX3, "<init>", "(I)V"⟩
abbrev cX3_isFull : ByteArray := prog_5_method_2_code
def yX3_isFull : MethodName := ⟨RX3, "isFull", "()Z"⟩
abbrev cX3_clear : ByteArray := prog_5_method_3_code
def yX3_clear : MethodName := ⟨RX3, "clear", "()V"⟩
abbrev cX3_add : ByteArray := prog_5_method_4_code
def yX3_add : MethodName := ⟨RX3, "add", "(LHookOrCrook$State;)V"⟩
abbrev cX3_moveLastTo : ByteArray := prog_5_method_5_code
def yX3_moveLastTo : MethodName := ⟨RX3, "moveLastTo", "(LHookOrCrook$State;)V"⟩
abbrev cX3_dropOldest : ByteArray := prog_5_method_6_code
def yX3_dropOldest : MethodName := ⟨RX3, "dropOldest", "()V"⟩
def RX4 : String := "HookOrCrook$State"
def TX4 : u_T := fun k => match k with
  | 0 => ("HookOrCrook$State", "cells", "[I", true)
  | 1 => ("HookOrCrook$State", "day", "I", false)
  | _ => ("HookOrCrook$State", "gone", "I", false)
def tyX4 : Nat → FieldType := fun k => match k with
  | 0 => .array .int
  | 1 => .int
  | _ => .int
abbrev wsX40 : List Cond := u_ws RX4 TX4 3
theorem nmX4 : ∀ a, a < 3 → ∀ b, b < 3 → a ≠ b → (TX4 a).2.1 ≠ (TX4 b).2.1 := by decide +kernel
theorem tyX4_ok : ∀ k, k < 3 → parseFieldDescriptor (TX4 k).2.2.1 = some (tyX4 k) := by decide +kernel
abbrev cX4_init : ByteArray := prog_6_method_1_code
def yX4_init : MethodName := ⟨RX4, "<init>", "()V"⟩
abbrev cX4_become : ByteArray := prog_6_method_2_code
def yX4_become : MethodName := ⟨RX4, "become", "(LHookOrCrook$State;)V"⟩
abbrev cX4_clear : ByteArray := prog_6_method_3_code
def yX4_clear : MethodName := ⟨RX4, "clear", "()V"⟩
abbrev cX4_deadFrom : ByteArray := prog_6_method_4_code
def yX4_deadFrom : MethodName := ⟨RX4, "deadFrom", "(I)I"⟩
abbrev cX4_setDeadFrom : ByteArray := prog_6_method_5_code
def yX4_setDeadFrom : MethodName := ⟨RX4, "setDeadFrom", "(II)V"⟩
abbrev cX4_isGone : ByteArray := prog_6_method_6_code
def yX4_isGone : MethodName := ⟨RX4, "isGone", "(I)Z"⟩
abbrev cX4_stack : ByteArray := prog_6_method_7_code
def yX4_stack : MethodName := ⟨RX4, "stack", "(I)I"⟩
abbrev cX4_reach : ByteArray := prog_6_method_8_code
def yX4_reach : MethodName := ⟨RX4, "reach", "(I)I"⟩
abbrev cX4_setReach : ByteArray := prog_6_method_9_code
def yX4_setReach : MethodName := ⟨RX4, "setReach", "(II)V"⟩
abbrev cX4_carried : ByteArray := prog_6_method_10_code
def yX4_carried : MethodName := ⟨RX4, "carried", "(I)I"⟩
abbrev cX4_pick : ByteArray := prog_6_method_11_code
def yX4_pick : MethodName := ⟨RX4, "pick", "(III)V"⟩
abbrev cX4_loseStack : ByteArray := prog_6_method_12_code
def yX4_loseStack : MethodName := ⟨RX4, "loseStack", "(I)V"⟩
abbrev cX4_goBy : ByteArray := prog_6_method_13_code
def yX4_goBy : MethodName := ⟨RX4, "goBy", "(I)V"⟩
def RX5 : String := "HookOrCrook$Text"
def TX5 : u_T := fun k => match k with
  | 0 => ("HookOrCrook$Text", "letters", "[C", true)
  | 1 => ("HookOrCrook$Text", "numbers", "[I", true)
  | _ => ("HookOrCrook$Text", "length", "I", false)
def tyX5 : Nat → FieldType := fun k => match k with
  | 0 => .array .char
  | 1 => .array .int
  | _ => .int
abbrev wsX50 : List Cond := u_ws RX5 TX5 3
theorem nmX5 : ∀ a, a < 3 → ∀ b, b < 3 → a ≠ b → (TX5 a).2.1 ≠ (TX5 b).2.1 := by decide +kernel
theorem tyX5_ok : ∀ k, k < 3 → parseFieldDescriptor (TX5 k).2.2.1 = some (tyX5 k) := by decide +kernel
abbrev cX5_init : ByteArray := prog_7_method_1_code
def yX5_init : MethodName := ⟨RX5, "<init>", "()V"⟩
abbrev cX5_isFull : ByteArray := prog_7_method_2_code
def yX5_isFull : MethodName := ⟨RX5, "isFull", "()Z"⟩
abbrev cX5_add : ByteArray := prog_7_method_3_code
def yX5_add : MethodName := ⟨RX5, "add", "(C)V"⟩
abbrev cX5_become : ByteArray := prog_7_method_4_code
def yX5_become : MethodName := ⟨RX5, "become", "(Ljava/lang/String;)V"⟩
abbrev cX5_letter : ByteArray := prog_7_method_5_code
def yX5_letter : MethodName := ⟨RX5, "letter", "(I)C"⟩
abbrev cX5_number : ByteArray := prog_7_method_6_code
def yX5_number : MethodName := ⟨RX5, "number", "(I)I"⟩
abbrev cX5_firstFault : ByteArray := prog_7_method_7_code
def yX5_firstFault : MethodName := ⟨RX5, "firstFault", "()I"⟩
abbrev cX5_canBeLaid : ByteArray := prog_7_method_8_code
def yX5_canBeLaid : MethodName := ⟨RX5, "canBeLaid", "()Z"⟩
abbrev cX5_has : ByteArray := prog_7_method_9_code
def yX5_has : MethodName := ⟨RX5, "has", "(C)Z"⟩
abbrev cX5_readItem : ByteArray := prog_7_method_10_code
def yX5_readItem : MethodName := ⟨RX5, "readItem", "(I)I"⟩
abbrev cX5_readNumber : ByteArray := prog_7_method_11_code
def yX5_readNumber : MethodName := ⟨RX5, "readNumber", "(IIII)Z"⟩
abbrev cX5_figuresAt : ByteArray := prog_7_method_12_code
def yX5_figuresAt : MethodName := ⟨RX5, "figuresAt", "(I)I"⟩
abbrev cX5_isFigure : ByteArray := prog_7_method_13_code
def yX5_isFigure : MethodName := ⟨RX5, "isFigure", "(C)Z"⟩
abbrev cX5_howManyNumbers : ByteArray := prog_7_method_14_code
def yX5_howManyNumbers : MethodName := ⟨RX5, "howManyNumbers", "(C)I"⟩
abbrev cX5_firstLimit : ByteArray := prog_7_method_15_code
def yX5_firstLimit : MethodName := ⟨RX5, "firstLimit", "(C)I"⟩
def RX6 : String := "HookOrCrook"
def TX6 : u_T := fun k => match k with
  | 0 => ("HookOrCrook", "text", "LHookOrCrook$Text;", true)
  | 1 => ("HookOrCrook", "forest", "LHookOrCrook$Forest;", true)
  | 2 => ("HookOrCrook", "now", "LHookOrCrook$State;", true)
  | 3 => ("HookOrCrook", "past", "LHookOrCrook$Pile;", true)
  | 4 => ("HookOrCrook", "kept", "LHookOrCrook$Pile;", true)
  | 5 => ("HookOrCrook", "course", "LHookOrCrook$Course;", true)
  | _ => ("HookOrCrook", "dealing", "LHookOrCrook$Dealing;", true)
def tyX6 : Nat → FieldType := fun k => match k with
  | 0 => .object "HookOrCrook$Text"
  | 1 => .object "HookOrCrook$Forest"
  | 2 => .object "HookOrCrook$State"
  | 3 => .object "HookOrCrook$Pile"
  | 4 => .object "HookOrCrook$Pile"
  | 5 => .object "HookOrCrook$Course"
  | _ => .object "HookOrCrook$Dealing"
abbrev wsX60 : List Cond := u_ws RX6 TX6 7
theorem nmX6 : ∀ a, a < 7 → ∀ b, b < 7 → a ≠ b → (TX6 a).2.1 ≠ (TX6 b).2.1 := by decide +kernel
theorem tyX6_ok : ∀ k, k < 7 → parseFieldDescriptor (TX6 k).2.2.1 = some (tyX6 k) := by decide +kernel
abbrev cX6_init : ByteArray := prog_1_method_1_code
def yX6_init : MethodName := ⟨RX6, "<init>", "()V"⟩
abbrev cX6_write : ByteArray := prog_1_method_2_code
def yX6_write : MethodName := ⟨RX6, "write", "(I)I"⟩
abbrev cX6_wipe : ByteArray := prog_1_method_3_code
def yX6_wipe : MethodName := ⟨RX6, "wipe", "()I"⟩
abbrev cX6_fault : ByteArray := prog_1_method_4_code
def yX6_fault : MethodName := ⟨RX6, "fault", "()I"⟩
abbrev cX6_lay : ByteArray := prog_1_method_5_code
def yX6_lay : MethodName := ⟨RX6, "lay", "()I"⟩
abbrev cX6_bough : ByteArray := prog_1_method_6_code
def yX6_bough : MethodName := ⟨RX6, "bough", "(II)I"⟩
abbrev cX6_tenant : ByteArray := prog_1_method_7_code
def yX6_tenant : MethodName := ⟨RX6, "tenant", "(II)I"⟩
abbrev cX6_can : ByteArray := prog_1_method_8_code
def yX6_can : MethodName := ⟨RX6, "can", "(II)I"⟩
abbrev cX6_take : ByteArray := prog_1_method_9_code
def yX6_take : MethodName := ⟨RX6, "take", "(II)I"⟩
abbrev cX6_pass : ByteArray := prog_1_method_10_code
def yX6_pass : MethodName := ⟨RX6, "pass", "(I)I"⟩
abbrev cX6_hook : ByteArray := prog_1_method_11_code
def yX6_hook : MethodName := ⟨RX6, "hook", "(II)I"⟩
abbrev cX6_ring : ByteArray := prog_1_method_12_code
def yX6_ring : MethodName := ⟨RX6, "ring", "(I)I"⟩
abbrev cX6_undo : ByteArray := prog_1_method_13_code
def yX6_undo : MethodName := ⟨RX6, "undo", "()I"⟩
abbrev cX6_warmBy : ByteArray := prog_1_method_14_code
def yX6_warmBy : MethodName := ⟨RX6, "warmBy", "(I)I"⟩
abbrev cX6_allWarm : ByteArray := prog_1_method_15_code
def yX6_allWarm : MethodName := ⟨RX6, "allWarm", "()I"⟩
abbrev cX6_share : ByteArray := prog_1_method_16_code
def yX6_share : MethodName := ⟨RX6, "share", "(I)I"⟩
abbrev cX6_leastHook : ByteArray := prog_1_method_17_code
def yX6_leastHook : MethodName := ⟨RX6, "leastHook", "(I)I"⟩
abbrev cX6_pole : ByteArray := prog_1_method_18_code
def yX6_pole : MethodName := ⟨RX6, "pole", "()I"⟩
abbrev cX6_firstDay : ByteArray := prog_1_method_19_code
def yX6_firstDay : MethodName := ⟨RX6, "firstDay", "(II)I"⟩
abbrev cX6_sticks : ByteArray := prog_1_method_20_code
def yX6_sticks : MethodName := ⟨RX6, "sticks", "(II)I"⟩
abbrev cX6_whose : ByteArray := prog_1_method_21_code
def yX6_whose : MethodName := ⟨RX6, "whose", "(II)I"⟩
abbrev cX6_sure : ByteArray := prog_1_method_22_code
def yX6_sure : MethodName := ⟨RX6, "sure", "(IIII)I"⟩
abbrev cX6_waste : ByteArray := prog_1_method_23_code
def yX6_waste : MethodName := ⟨RX6, "waste", "()I"⟩
abbrev cX6_needs : ByteArray := prog_1_method_24_code
def yX6_needs : MethodName := ⟨RX6, "needs", "()I"⟩
abbrev cX6_storm : ByteArray := prog_1_method_25_code
def yX6_storm : MethodName := ⟨RX6, "storm", "(III)I"⟩
abbrev cX6_keep : ByteArray := prog_1_method_26_code
def yX6_keep : MethodName := ⟨RX6, "keep", "()I"⟩
abbrev cX6_back : ByteArray := prog_1_method_27_code
def yX6_back : MethodName := ⟨RX6, "back", "()I"⟩
abbrev cX6_count : ByteArray := prog_1_method_28_code
def yX6_count : MethodName := ⟨RX6, "count", "(I)I"⟩
abbrev cX6_isWithin : ByteArray := prog_1_method_29_code
def yX6_isWithin : MethodName := ⟨RX6, "isWithin", "(III)Z"⟩
abbrev cX6_bit : ByteArray := prog_1_method_30_code
def yX6_bit : MethodName := ⟨RX6, "bit", "(Z)I"⟩
abbrev cX6_commonWithTen : ByteArray := prog_1_method_31_code
def yX6_commonWithTen : MethodName := ⟨RX6, "commonWithTen", "(I)I"⟩
def RX7 : String := "HookOrCrookModel"
def TX7 : u_T := fun k => match k with
  | 0 => ("HookOrCrookModel", "text", "[I", true)
  | 1 => ("HookOrCrookModel", "typed", "I", false)
  | 2 => ("HookOrCrookModel", "told", "[I", true)
  | 3 => ("HookOrCrookModel", "draft", "[I", true)
  | 4 => ("HookOrCrookModel", "begun", "[I", true)
  | 5 => ("HookOrCrookModel", "s", "[I", true)
  | 6 => ("HookOrCrookModel", "past", "[I", true)
  | 7 => ("HookOrCrookModel", "known", "I", false)
  | 8 => ("HookOrCrookModel", "images", "[I", true)
  | 9 => ("HookOrCrookModel", "kept", "I", false)
  | 10 => ("HookOrCrookModel", "at", "I", false)
  | 11 => ("HookOrCrookModel", "held", "[I", true)
  | 12 => ("HookOrCrookModel", "load", "[I", true)
  | _ => ("HookOrCrookModel", "shared", "[I", true)
def tyX7 : Nat → FieldType := fun k => match k with
  | 0 => .array .int
  | 1 => .int
  | 2 => .array .int
  | 3 => .array .int
  | 4 => .array .int
  | 5 => .array .int
  | 6 => .array .int
  | 7 => .int
  | 8 => .array .int
  | 9 => .int
  | 10 => .int
  | 11 => .array .int
  | 12 => .array .int
  | _ => .array .int
abbrev wsX70 : List Cond := u_ws RX7 TX7 14
theorem nmX7 : ∀ a, a < 14 → ∀ b, b < 14 → a ≠ b → (TX7 a).2.1 ≠ (TX7 b).2.1 := by decide +kernel
theorem tyX7_ok : ∀ k, k < 14 → parseFieldDescriptor (TX7 k).2.2.1 = some (tyX7 k) := by decide +kernel
abbrev cX7_init : ByteArray := prog_9_method_1_code
def yX7_init : MethodName := ⟨RX7, "<init>", "()V"⟩
abbrev cX7_in : ByteArray := prog_9_method_3_code
def yX7_in : MethodName := ⟨RX7, "in", "(III)Z"⟩
abbrev cX7_isBough : ByteArray := prog_9_method_4_code
def yX7_isBough : MethodName := ⟨RX7, "isBough", "(I)Z"⟩
abbrev cX7_isTenant : ByteArray := prog_9_method_5_code
def yX7_isTenant : MethodName := ⟨RX7, "isTenant", "(I)Z"⟩
abbrev cX7_write : ByteArray := prog_9_method_6_code
def yX7_write : MethodName := ⟨RX7, "write", "(I)I"⟩
abbrev cX7_wipe : ByteArray := prog_9_method_7_code
def yX7_wipe : MethodName := ⟨RX7, "wipe", "()I"⟩
abbrev cX7_letterAt : ByteArray := prog_9_method_8_code
def yX7_letterAt : MethodName := ⟨RX7, "letterAt", "(I)I"⟩
abbrev cX7_isFigure : ByteArray := prog_9_method_9_code
def yX7_isFigure : MethodName := ⟨RX7, "isFigure", "(I)Z"⟩
abbrev cX7_number : ByteArray := prog_9_method_10_code
def yX7_number : MethodName := ⟨RX7, "number", "(III)I"⟩
abbrev cX7_begins : ByteArray := prog_9_method_11_code
def yX7_begins : MethodName := ⟨RX7, "begins", "()V"⟩
abbrev cX7_boughOf : ByteArray := prog_9_method_12_code
def yX7_boughOf : MethodName := ⟨RX7, "boughOf", "(IIII)V"⟩
abbrev cX7_tenantOf : ByteArray := prog_9_method_13_code
def yX7_tenantOf : MethodName := ⟨RX7, "tenantOf", "(III)V"⟩
abbrev cX7_readsItem : ByteArray := prog_9_method_14_code
def yX7_readsItem : MethodName := ⟨RX7, "readsItem", "(I)Z"⟩
abbrev cX7_readsAll : ByteArray := prog_9_method_15_code
def yX7_readsAll : MethodName := ⟨RX7, "readsAll", "()I"⟩
abbrev cX7_fault : ByteArray := prog_9_method_16_code
def yX7_fault : MethodName := ⟨RX7, "fault", "()I"⟩
abbrev cX7_lays : ByteArray := prog_9_method_17_code
def yX7_lays : MethodName := ⟨RX7, "lays", "()V"⟩
abbrev cX7_lay : ByteArray := prog_9_method_18_code
def yX7_lay : MethodName := ⟨RX7, "lay", "()I"⟩
abbrev cX7_isDead : ByteArray := prog_9_method_19_code
def yX7_isDead : MethodName := ⟨RX7, "isDead", "(II)Z"⟩
abbrev cX7_isFallen : ByteArray := prog_9_method_20_code
def yX7_isFallen : MethodName := ⟨RX7, "isFallen", "(II)Z"⟩
abbrev cX7_bough : ByteArray := prog_9_method_21_code
def yX7_bough : MethodName := ⟨RX7, "bough", "(II)I"⟩
abbrev cX7_isWarm : ByteArray := prog_9_method_22_code
def yX7_isWarm : MethodName := ⟨RX7, "isWarm", "(I)Z"⟩
abbrev cX7_tenant : ByteArray := prog_9_method_23_code
def yX7_tenant : MethodName := ⟨RX7, "tenant", "(II)I"⟩
abbrev cX7_could : ByteArray := prog_9_method_24_code
def yX7_could : MethodName := ⟨RX7, "could", "(IIII)Z"⟩
abbrev cX7_canNow : ByteArray := prog_9_method_25_code
def yX7_canNow : MethodName := ⟨RX7, "canNow", "(II)Z"⟩
abbrev cX7_keeps : ByteArray := prog_9_method_26_code
def yX7_keeps : MethodName := ⟨RX7, "keeps", "()V"⟩
abbrev cX7_can : ByteArray := prog_9_method_27_code
def yX7_can : MethodName := ⟨RX7, "can", "(II)I"⟩
abbrev cX7_takes : ByteArray := prog_9_method_28_code
def yX7_takes : MethodName := ⟨RX7, "takes", "(II)V"⟩
abbrev cX7_take : ByteArray := prog_9_method_29_code
def yX7_take : MethodName := ⟨RX7, "take", "(II)I"⟩
abbrev cX7_passes : ByteArray := prog_9_method_30_code
def yX7_passes : MethodName := ⟨RX7, "passes", "()V"⟩
abbrev cX7_pass : ByteArray := prog_9_method_31_code
def yX7_pass : MethodName := ⟨RX7, "pass", "(I)I"⟩
abbrev cX7_hook : ByteArray := prog_9_method_32_code
def yX7_hook : MethodName := ⟨RX7, "hook", "(II)I"⟩
abbrev cX7_ring : ByteArray := prog_9_method_33_code
def yX7_ring : MethodName := ⟨RX7, "ring", "(I)I"⟩
abbrev cX7_undo : ByteArray := prog_9_method_34_code
def yX7_undo : MethodName := ⟨RX7, "undo", "()I"⟩
abbrev cX7_holds : ByteArray := prog_9_method_35_code
def yX7_holds : MethodName := ⟨RX7, "holds", "()V"⟩
abbrev cX7_lets : ByteArray := prog_9_method_36_code
def yX7_lets : MethodName := ⟨RX7, "lets", "()V"⟩
abbrev cX7_eachTakes : ByteArray := prog_9_method_37_code
def yX7_eachTakes : MethodName := ⟨RX7, "eachTakes", "()V"⟩
abbrev cX7_warm : ByteArray := prog_9_method_38_code
def yX7_warm : MethodName := ⟨RX7, "warm", "()I"⟩
abbrev cX7_warmAt : ByteArray := prog_9_method_39_code
def yX7_warmAt : MethodName := ⟨RX7, "warmAt", "(I)I"⟩
abbrev cX7_warmBy : ByteArray := prog_9_method_40_code
def yX7_warmBy : MethodName := ⟨RX7, "warmBy", "(I)I"⟩
abbrev cX7_allWarm : ByteArray := prog_9_method_41_code
def yX7_allWarm : MethodName := ⟨RX7, "allWarm", "()I"⟩
abbrev cX7_share : ByteArray := prog_9_method_42_code
def yX7_share : MethodName := ⟨RX7, "share", "(I)I"⟩
abbrev cX7_leastHook : ByteArray := prog_9_method_43_code
def yX7_leastHook : MethodName := ⟨RX7, "leastHook", "(I)I"⟩
abbrev cX7_pole : ByteArray := prog_9_method_44_code
def yX7_pole : MethodName := ⟨RX7, "pole", "()I"⟩
abbrev cX7_firstOf : ByteArray := prog_9_method_45_code
def yX7_firstOf : MethodName := ⟨RX7, "firstOf", "(II)I"⟩
abbrev cX7_firstDay : ByteArray := prog_9_method_46_code
def yX7_firstDay : MethodName := ⟨RX7, "firstDay", "(II)I"⟩
abbrev cX7_sticks : ByteArray := prog_9_method_47_code
def yX7_sticks : MethodName := ⟨RX7, "sticks", "(II)I"⟩
abbrev cX7_whose : ByteArray := prog_9_method_48_code
def yX7_whose : MethodName := ⟨RX7, "whose", "(II)I"⟩
abbrev cX7_sure : ByteArray := prog_9_method_49_code
def yX7_sure : MethodName := ⟨RX7, "sure", "(IIII)I"⟩
abbrev cX7_waste : ByteArray := prog_9_method_50_code
def yX7_waste : MethodName := ⟨RX7, "waste", "()I"⟩
abbrev cX7_needs : ByteArray := prog_9_method_51_code
def yX7_needs : MethodName := ⟨RX7, "needs", "()I"⟩
abbrev cX7_weighs : ByteArray := prog_9_method_52_code
def yX7_weighs : MethodName := ⟨RX7, "weighs", "()I"⟩
abbrev cX7_storm : ByteArray := prog_9_method_53_code
def yX7_storm : MethodName := ⟨RX7, "storm", "(III)I"⟩
abbrev cX7_keep : ByteArray := prog_9_method_54_code
def yX7_keep : MethodName := ⟨RX7, "keep", "()I"⟩
abbrev cX7_back : ByteArray := prog_9_method_55_code
def yX7_back : MethodName := ⟨RX7, "back", "()I"⟩
abbrev cX7_count : ByteArray := prog_9_method_56_code
def yX7_count : MethodName := ⟨RX7, "count", "(I)I"⟩
def RJ6 : String := "java/lang/Integer"
abbrev cJ6_bitCount_0f7a4 : ByteArray := prog_10_method_49_code
def yJ6_bitCount_0f7a4 : MethodName := ⟨RJ6, "bitCount", "(I)I"⟩
def RJ9 : String := "java/lang/Math"
abbrev cJ9_max_7cf53 : ByteArray := prog_11_method_65_code
def yJ9_max_7cf53 : MethodName := ⟨RJ9, "max", "(II)I"⟩
abbrev cJ9_min_7cf53 : ByteArray := prog_11_method_69_code
def yJ9_min_7cf53 : MethodName := ⟨RJ9, "min", "(II)I"⟩
def RJ0 : String := "java/lang/String"
abbrev cJ0_length_8abf5 : ByteArray := prog_12_method_54_code
def yJ0_length_8abf5 : MethodName := ⟨RJ0, "length", "()I"⟩
abbrev cJ0_charAt_5068e : ByteArray := prog_12_method_56_code
def yJ0_charAt_5068e : MethodName := ⟨RJ0, "charAt", "(I)C"⟩
abbrev cJ0_coder_7d493 : ByteArray := prog_12_method_152_code
def yJ0_coder_7d493 : MethodName := ⟨RJ0, "coder", "()B"⟩
abbrev cJ0_isLatin1_aae02 : ByteArray := prog_12_method_154_code
def yJ0_isLatin1_aae02 : MethodName := ⟨RJ0, "isLatin1", "()Z"⟩
abbrev cJ0_checkIndex_df160 : ByteArray := prog_12_method_155_code
def yJ0_checkIndex_df160 : MethodName := ⟨RJ0, "checkIndex", "(II)V"⟩
def RJ1 : String := "java/lang/StringLatin1"
abbrev cJ1_charAt_3b067 : ByteArray := prog_13_method_2_code
def yJ1_charAt_3b067 : MethodName := ⟨RJ1, "charAt", "([BI)C"⟩
def RJ2 : String := "java/lang/StringUTF16"
abbrev cJ2_getChar_3b067 : ByteArray := prog_14_method_5_code
def yJ2_getChar_3b067 : MethodName := ⟨RJ2, "getChar", "([BI)C"⟩
abbrev cJ2_length_9d52b : ByteArray := prog_14_method_6_code
def yJ2_length_9d52b : MethodName := ⟨RJ2, "length", "([B)I"⟩
abbrev cJ2_charAt_3b067 : ByteArray := prog_14_method_83_code
def yJ2_charAt_3b067 : MethodName := ⟨RJ2, "charAt", "([BI)C"⟩
abbrev cJ2_checkIndex_2214a : ByteArray := prog_14_method_91_code
def yJ2_checkIndex_2214a : MethodName := ⟨RJ2, "checkIndex", "(I[B)V"⟩
def RJ10 : String := "java/lang/System"
def RJ3 : String := "jdk/internal/util/Preconditions"
abbrev cJ3_checkIndex_8e157 : ByteArray := prog_16_method_11_code
def yJ3_checkIndex_8e157 : MethodName := ⟨RJ3, "checkIndex", "(IILjava/util/function/BiFunction;)I"⟩
def RL : String := "HookOrCrookLaw"
abbrev cL_law : ByteArray := code
def yL_law : MethodName := ⟨RL, "law", "([I)Z"⟩
/-! the words that stay good, of the tables -/
def k_KT : List Cond := lw_tbl.filter (fun w => goodWord w)
theorem k_sub : ∀ w ∈ k_KT, w ∈ lw_tbl := fun _ h => (List.mem_filter.mp h).1
theorem k_good : ∀ w ∈ k_KT, goodWord w = true := fun _ h => (List.mem_filter.mp h).2
theorem k_p {w : Cond} (i : Nat) (h : (k2_sels lw_privs)[i]? = some w) (g : goodWord w = true) : w ∈ k_KT := List.mem_filter.mpr ⟨List.mem_append_left _ (List.mem_of_getElem? h), g⟩
theorem k_t1 {w : Cond} (i : Nat) (h : tables_1_1[i]? = some w) (g : goodWord w = true) : w ∈ k_KT := List.mem_filter.mpr ⟨List.mem_append_right _ (List.mem_append_left _ (List.mem_of_getElem? h)), g⟩
theorem k_t2 {w : Cond} (i : Nat) (h : tables_1_2[i]? = some w) (g : goodWord w = true) : w ∈ k_KT := List.mem_filter.mpr ⟨List.mem_append_right _ (List.mem_append_right _ (List.mem_append_left _ (List.mem_of_getElem? h))), g⟩
theorem k_t3 {w : Cond} (i : Nat) (h : tables_1_3[i]? = some w) (g : goodWord w = true) : w ∈ k_KT := List.mem_filter.mpr ⟨List.mem_append_right _ (List.mem_append_right _ (List.mem_append_right _ (List.mem_append_left _ (List.mem_of_getElem? h)))), g⟩
theorem k_t4 {w : Cond} (i : Nat) (h : tables_1_4[i]? = some w) (g : goodWord w = true) : w ∈ k_KT := List.mem_filter.mpr ⟨List.mem_append_right _ (List.mem_append_right _ (List.mem_append_right _ (List.mem_append_right _ (List.mem_append_left _ (List.mem_of_getElem? h))))), g⟩
theorem k_t5 {w : Cond} (i : Nat) (h : tables_1_5[i]? = some w) (g : goodWord w = true) : w ∈ k_KT := List.mem_filter.mpr ⟨List.mem_append_right _ (List.mem_append_right _ (List.mem_append_right _ (List.mem_append_right _ (List.mem_append_right _ (List.mem_of_getElem? h))))), g⟩
theorem in_L : Cond.initialized RL ∈ k_KT := k_t1 0 (by rfl) rfl
theorem in_X6 : Cond.initialized RX6 ∈ k_KT := k_t1 1 (by rfl) rfl
theorem in_X5 : Cond.initialized RX5 ∈ k_KT := k_t1 2 (by rfl) rfl
theorem in_X2 : Cond.initialized RX2 ∈ k_KT := k_t1 3 (by rfl) rfl
theorem in_X4 : Cond.initialized RX4 ∈ k_KT := k_t1 4 (by rfl) rfl
theorem in_X3 : Cond.initialized RX3 ∈ k_KT := k_t1 5 (by rfl) rfl
theorem in_J9 : Cond.initialized RJ9 ∈ k_KT := k_t1 6 (by rfl) rfl
theorem in_X0 : Cond.initialized RX0 ∈ k_KT := k_t1 7 (by rfl) rfl
theorem in_X1 : Cond.initialized RX1 ∈ k_KT := k_t1 8 (by rfl) rfl
theorem in_J0 : Cond.initialized RJ0 ∈ k_KT := k_t1 9 (by rfl) rfl
theorem in_J1 : Cond.initialized RJ1 ∈ k_KT := k_t1 10 (by rfl) rfl
theorem in_J3 : Cond.initialized RJ3 ∈ k_KT := k_t1 11 (by rfl) rfl
theorem in_J2 : Cond.initialized RJ2 ∈ k_KT := k_t1 12 (by rfl) rfl
theorem in_X7 : Cond.initialized RX7 ∈ k_KT := k_t1 13 (by rfl) rfl
theorem in_J10 : Cond.initialized RJ10 ∈ k_KT := k_t1 14 (by rfl) rfl
theorem in_J6 : Cond.initialized RJ6 ∈ k_KT := k_t1 15 (by rfl) rfl
theorem cl_L_7 : Cond.classLink RL 7 RX6 ∈ k_KT := k_t1 16 (by rfl) rfl
theorem is_X6 : Cond.instantiable RX6 7 ∈ k_KT := k_t1 17 (by rfl) rfl
theorem ml_L_9 : Cond.methodLink RL 9 yX6_init ∈ k_KT := k_t1 18 (by rfl) rfl
theorem im_X6_init : Cond.instanceMethod yX6_init ∈ k_KT := k_t1 19 (by rfl) rfl
theorem co_X6_init : Cond.code yX6_init cX6_init 1 none ∈ k_KT := k_t1 20 (by rfl) rfl
theorem ml_X6_1 : Cond.methodLink RX6 1 objectInit ∈ k_KT := k_t1 21 (by rfl) rfl
theorem im_obj : Cond.instanceMethod objectInit ∈ k_KT := k_t1 22 (by rfl) rfl
theorem co_obj : Cond.code objectInit ⟨#[0xb1]⟩ 1 none ∈ k_KT := k_t1 23 (by rfl) rfl
theorem cl_X6_7 : Cond.classLink RX6 7 RX5 ∈ k_KT := k_t1 24 (by rfl) rfl
theorem is_X5 : Cond.instantiable RX5 3 ∈ k_KT := k_t1 25 (by rfl) rfl
theorem im_X5_init : Cond.instanceMethod yX5_init ∈ k_KT := k_t1 27 (by rfl) rfl
theorem co_X5_init : Cond.code yX5_init cX5_init 1 none ∈ k_KT := k_t1 28 (by rfl) rfl
theorem ml_X5_3 : Cond.methodLink RX5 3 objectInit ∈ k_KT := k_t1 29 (by rfl) rfl
theorem fl_X5_11 : Cond.fieldLink RX5 11 "HookOrCrook$Text" "letters" "[C" ∈ k_KT := k_t1 30 (by rfl) rfl
theorem fl_X5_15 : Cond.fieldLink RX5 15 "HookOrCrook$Text" "numbers" "[I" ∈ k_KT := k_t1 31 (by rfl) rfl
theorem fl_X6_68 : Cond.fieldLink RX6 68 "HookOrCrook$Text" "length" "I" ∈ k_KT := k_t1 32 (by rfl) rfl
theorem fl_X5_19 : Cond.fieldLink RX5 19 "HookOrCrook$Text" "length" "I" ∈ k_KT := k_t1 33 (by rfl) rfl
theorem fl_X2_50 : Cond.fieldLink RX2 50 "HookOrCrook$Text" "length" "I" ∈ k_KT := k_t1 34 (by rfl) rfl
theorem la_5_0 : Cond.laysFinal "HookOrCrook$Text" "HookOrCrook$Text" "letters" "[C" ∈ k_KT := k_t1 35 (by rfl) rfl
theorem la_5_1 : Cond.laysFinal "HookOrCrook$Text" "HookOrCrook$Text" "numbers" "[I" ∈ k_KT := k_t1 37 (by rfl) rfl
theorem la_5_2 : Cond.lays "HookOrCrook$Text" "HookOrCrook$Text" "length" "I" ∈ k_KT := k_t1 39 (by rfl) rfl
theorem ac_char : Cond.arrayClass .char ∈ k_KT := k_t1 42 (by rfl) rfl
theorem ac_int : Cond.arrayClass .int ∈ k_KT := k_t1 43 (by rfl) rfl
theorem cl_X6_16 : Cond.classLink RX6 16 RX2 ∈ k_KT := k_t1 44 (by rfl) rfl
theorem is_X2 : Cond.instantiable RX2 10 ∈ k_KT := k_t1 45 (by rfl) rfl
theorem im_X2_init : Cond.instanceMethod yX2_init ∈ k_KT := k_t1 47 (by rfl) rfl
theorem co_X2_init : Cond.code yX2_init cX2_init 1 none ∈ k_KT := k_t1 48 (by rfl) rfl
theorem ml_X2_3 : Cond.methodLink RX2 3 objectInit ∈ k_KT := k_t1 49 (by rfl) rfl
theorem fl_X2_9 : Cond.fieldLink RX2 9 "HookOrCrook$Forest" "kinds" "[I" ∈ k_KT := k_t1 50 (by rfl) rfl
theorem fl_X2_15 : Cond.fieldLink RX2 15 "HookOrCrook$Forest" "heights" "[I" ∈ k_KT := k_t1 51 (by rfl) rfl
theorem fl_X2_18 : Cond.fieldLink RX2 18 "HookOrCrook$Forest" "weights" "[I" ∈ k_KT := k_t1 52 (by rfl) rfl
theorem fl_X2_21 : Cond.fieldLink RX2 21 "HookOrCrook$Forest" "strengths" "[I" ∈ k_KT := k_t1 53 (by rfl) rfl
theorem fl_X2_24 : Cond.fieldLink RX2 24 "HookOrCrook$Forest" "hearths" "[I" ∈ k_KT := k_t1 54 (by rfl) rfl
theorem fl_X2_27 : Cond.fieldLink RX2 27 "HookOrCrook$Forest" "boughs" "I" ∈ k_KT := k_t1 55 (by rfl) rfl
theorem fl_X0_63 : Cond.fieldLink RX0 63 "HookOrCrook$Forest" "boughs" "I" ∈ k_KT := k_t1 56 (by rfl) rfl
theorem fl_X6_94 : Cond.fieldLink RX6 94 "HookOrCrook$Forest" "boughs" "I" ∈ k_KT := k_t1 57 (by rfl) rfl
theorem fl_X2_31 : Cond.fieldLink RX2 31 "HookOrCrook$Forest" "tenants" "I" ∈ k_KT := k_t1 58 (by rfl) rfl
theorem fl_X0_26 : Cond.fieldLink RX0 26 "HookOrCrook$Forest" "tenants" "I" ∈ k_KT := k_t1 59 (by rfl) rfl
theorem fl_X1_64 : Cond.fieldLink RX1 64 "HookOrCrook$Forest" "tenants" "I" ∈ k_KT := k_t1 60 (by rfl) rfl
theorem fl_X6_227 : Cond.fieldLink RX6 227 "HookOrCrook$Forest" "tenants" "I" ∈ k_KT := k_t1 61 (by rfl) rfl
theorem fl_X2_34 : Cond.fieldLink RX2 34 "HookOrCrook$Forest" "longest" "I" ∈ k_KT := k_t1 62 (by rfl) rfl
theorem fl_X6_234 : Cond.fieldLink RX6 234 "HookOrCrook$Forest" "longest" "I" ∈ k_KT := k_t1 63 (by rfl) rfl
theorem fl_X2_37 : Cond.fieldLink RX2 37 "HookOrCrook$Forest" "round" "I" ∈ k_KT := k_t1 64 (by rfl) rfl
theorem fl_X6_253 : Cond.fieldLink RX6 253 "HookOrCrook$Forest" "round" "I" ∈ k_KT := k_t1 65 (by rfl) rfl
theorem fl_X2_40 : Cond.fieldLink RX2 40 "HookOrCrook$Forest" "falls" "I" ∈ k_KT := k_t1 66 (by rfl) rfl
theorem fl_X0_87 : Cond.fieldLink RX0 87 "HookOrCrook$Forest" "falls" "I" ∈ k_KT := k_t1 67 (by rfl) rfl
theorem fl_X6_256 : Cond.fieldLink RX6 256 "HookOrCrook$Forest" "falls" "I" ∈ k_KT := k_t1 68 (by rfl) rfl
theorem la_2_0 : Cond.laysFinal "HookOrCrook$Forest" "HookOrCrook$Forest" "kinds" "[I" ∈ k_KT := k_t1 69 (by rfl) rfl
theorem la_2_1 : Cond.laysFinal "HookOrCrook$Forest" "HookOrCrook$Forest" "heights" "[I" ∈ k_KT := k_t1 71 (by rfl) rfl
theorem la_2_2 : Cond.laysFinal "HookOrCrook$Forest" "HookOrCrook$Forest" "weights" "[I" ∈ k_KT := k_t1 73 (by rfl) rfl
theorem la_2_3 : Cond.laysFinal "HookOrCrook$Forest" "HookOrCrook$Forest" "strengths" "[I" ∈ k_KT := k_t1 75 (by rfl) rfl
theorem la_2_4 : Cond.laysFinal "HookOrCrook$Forest" "HookOrCrook$Forest" "hearths" "[I" ∈ k_KT := k_t1 77 (by rfl) rfl
theorem la_2_5 : Cond.lays "HookOrCrook$Forest" "HookOrCrook$Forest" "boughs" "I" ∈ k_KT := k_t1 79 (by rfl) rfl
theorem la_2_6 : Cond.lays "HookOrCrook$Forest" "HookOrCrook$Forest" "tenants" "I" ∈ k_KT := k_t1 81 (by rfl) rfl
theorem la_2_7 : Cond.lays "HookOrCrook$Forest" "HookOrCrook$Forest" "longest" "I" ∈ k_KT := k_t1 83 (by rfl) rfl
theorem la_2_8 : Cond.lays "HookOrCrook$Forest" "HookOrCrook$Forest" "round" "I" ∈ k_KT := k_t1 85 (by rfl) rfl
theorem la_2_9 : Cond.lays "HookOrCrook$Forest" "HookOrCrook$Forest" "falls" "I" ∈ k_KT := k_t1 87 (by rfl) rfl
theorem cl_X6_23 : Cond.classLink RX6 23 RX4 ∈ k_KT := k_t1 90 (by rfl) rfl
theorem is_X4 : Cond.instantiable RX4 3 ∈ k_KT := k_t1 91 (by rfl) rfl
theorem im_X4_init : Cond.instanceMethod yX4_init ∈ k_KT := k_t1 93 (by rfl) rfl
theorem co_X4_init : Cond.code yX4_init cX4_init 1 none ∈ k_KT := k_t1 94 (by rfl) rfl
theorem ml_X4_5 : Cond.methodLink RX4 5 objectInit ∈ k_KT := k_t1 95 (by rfl) rfl
theorem fl_X4_11 : Cond.fieldLink RX4 11 "HookOrCrook$State" "cells" "[I" ∈ k_KT := k_t1 96 (by rfl) rfl
theorem fl_X4_15 : Cond.fieldLink RX4 15 "HookOrCrook$State" "day" "I" ∈ k_KT := k_t1 97 (by rfl) rfl
theorem fl_X0_53 : Cond.fieldLink RX0 53 "HookOrCrook$State" "day" "I" ∈ k_KT := k_t1 98 (by rfl) rfl
theorem fl_X6_114 : Cond.fieldLink RX6 114 "HookOrCrook$State" "day" "I" ∈ k_KT := k_t1 99 (by rfl) rfl
theorem fl_X2_114 : Cond.fieldLink RX2 114 "HookOrCrook$State" "day" "I" ∈ k_KT := k_t1 100 (by rfl) rfl
theorem fl_X4_19 : Cond.fieldLink RX4 19 "HookOrCrook$State" "gone" "I" ∈ k_KT := k_t1 101 (by rfl) rfl
theorem fl_X0_60 : Cond.fieldLink RX0 60 "HookOrCrook$State" "gone" "I" ∈ k_KT := k_t1 102 (by rfl) rfl
theorem fl_X6_221 : Cond.fieldLink RX6 221 "HookOrCrook$State" "gone" "I" ∈ k_KT := k_t1 103 (by rfl) rfl
theorem la_4_0 : Cond.laysFinal "HookOrCrook$State" "HookOrCrook$State" "cells" "[I" ∈ k_KT := k_t1 104 (by rfl) rfl
theorem la_4_1 : Cond.lays "HookOrCrook$State" "HookOrCrook$State" "day" "I" ∈ k_KT := k_t1 106 (by rfl) rfl
theorem la_4_2 : Cond.lays "HookOrCrook$State" "HookOrCrook$State" "gone" "I" ∈ k_KT := k_t1 108 (by rfl) rfl
theorem cl_X6_30 : Cond.classLink RX6 30 RX3 ∈ k_KT := k_t1 111 (by rfl) rfl
theorem is_X3 : Cond.instantiable RX3 2 ∈ k_KT := k_t1 112 (by rfl) rfl
theorem ml_X6_32 : Cond.methodLink RX6 32 yX3_init ∈ k_KT := k_t1 113 (by rfl) rfl
theorem im_X3_init : Cond.instanceMethod yX3_init ∈ k_KT := k_t1 114 (by rfl) rfl
theorem co_X3_init : Cond.code yX3_init cX3_init 3 none ∈ k_KT := k_t1 115 (by rfl) rfl
theorem ml_X3_1 : Cond.methodLink RX3 1 objectInit ∈ k_KT := k_t1 116 (by rfl) rfl
theorem ml_X3_7 : Cond.methodLink RX3 7 Lib.Math.max.name ∈ k_KT := k_t1 117 (by rfl) rfl
theorem st_mmax : Cond.static Lib.Math.max.name ∈ k_KT := k_t1 118 (by rfl) rfl
theorem co_mmax : Cond.code Lib.Math.max.name Lib.Math.max.code 2 (some .int) ∈ k_KT := k_t1 119 (by rfl) rfl
theorem cl_X3_13 : Cond.classLink RX3 13 RX4 ∈ k_KT := k_t1 120 (by rfl) rfl
theorem fl_X3_15 : Cond.fieldLink RX3 15 "HookOrCrook$Pile" "states" "[LHookOrCrook$State;" ∈ k_KT := k_t1 123 (by rfl) rfl
theorem fl_X3_22 : Cond.fieldLink RX3 22 "HookOrCrook$Pile" "many" "I" ∈ k_KT := k_t1 124 (by rfl) rfl
theorem fl_X6_179 : Cond.fieldLink RX6 179 "HookOrCrook$Pile" "many" "I" ∈ k_KT := k_t1 125 (by rfl) rfl
theorem la_3_0 : Cond.laysFinal "HookOrCrook$Pile" "HookOrCrook$Pile" "states" "[LHookOrCrook$State;" ∈ k_KT := k_t1 126 (by rfl) rfl
theorem la_3_1 : Cond.lays "HookOrCrook$Pile" "HookOrCrook$Pile" "many" "I" ∈ k_KT := k_t1 128 (by rfl) rfl
theorem cl_X6_42 : Cond.classLink RX6 42 RX0 ∈ k_KT := k_t1 131 (by rfl) rfl
theorem is_X0 : Cond.instantiable RX0 2 ∈ k_KT := k_t1 132 (by rfl) rfl
theorem ml_X6_44 : Cond.methodLink RX6 44 yX0_init ∈ k_KT := k_t1 133 (by rfl) rfl
theorem im_X0_init : Cond.instanceMethod yX0_init ∈ k_KT := k_t1 134 (by rfl) rfl
theorem co_X0_init : Cond.code yX0_init cX0_init 2 none ∈ k_KT := k_t1 135 (by rfl) rfl
theorem ml_X0_3 : Cond.methodLink RX0 3 objectInit ∈ k_KT := k_t1 136 (by rfl) rfl
theorem cl_X0_9 : Cond.classLink RX0 9 RX4 ∈ k_KT := k_t1 137 (by rfl) rfl
theorem fl_X0_18 : Cond.fieldLink RX0 18 "HookOrCrook$Course" "forest" "LHookOrCrook$Forest;" ∈ k_KT := k_t1 139 (by rfl) rfl
theorem fl_X0_12 : Cond.fieldLink RX0 12 "HookOrCrook$Course" "state" "LHookOrCrook$State;" ∈ k_KT := k_t1 140 (by rfl) rfl
theorem fl_X6_191 : Cond.fieldLink RX6 191 "HookOrCrook$Course" "state" "LHookOrCrook$State;" ∈ k_KT := k_t1 141 (by rfl) rfl
theorem la_0_0 : Cond.laysFinal "HookOrCrook$Course" "HookOrCrook$Course" "forest" "LHookOrCrook$Forest;" ∈ k_KT := k_t1 142 (by rfl) rfl
theorem la_0_1 : Cond.laysFinal "HookOrCrook$Course" "HookOrCrook$Course" "state" "LHookOrCrook$State;" ∈ k_KT := k_t1 144 (by rfl) rfl
theorem cl_X6_51 : Cond.classLink RX6 51 RX1 ∈ k_KT := k_t1 147 (by rfl) rfl
theorem is_X1 : Cond.instantiable RX1 7 ∈ k_KT := k_t1 148 (by rfl) rfl
theorem ml_X6_53 : Cond.methodLink RX6 53 yX1_init ∈ k_KT := k_t1 149 (by rfl) rfl
theorem im_X1_init : Cond.instanceMethod yX1_init ∈ k_KT := k_t1 150 (by rfl) rfl
theorem co_X1_init : Cond.code yX1_init cX1_init 2 none ∈ k_KT := k_t1 151 (by rfl) rfl
theorem ml_X1_3 : Cond.methodLink RX1 3 objectInit ∈ k_KT := k_t1 152 (by rfl) rfl
theorem fl_X1_27 : Cond.fieldLink RX1 27 "HookOrCrook$Dealing" "forest" "LHookOrCrook$Forest;" ∈ k_KT := k_t1 153 (by rfl) rfl
theorem fl_X1_9 : Cond.fieldLink RX1 9 "HookOrCrook$Dealing" "takers" "[I" ∈ k_KT := k_t1 154 (by rfl) rfl
theorem fl_X1_15 : Cond.fieldLink RX1 15 "HookOrCrook$Dealing" "rest" "[I" ∈ k_KT := k_t1 155 (by rfl) rfl
theorem fl_X1_18 : Cond.fieldLink RX1 18 "HookOrCrook$Dealing" "free" "[I" ∈ k_KT := k_t1 156 (by rfl) rfl
theorem fl_X1_21 : Cond.fieldLink RX1 21 "HookOrCrook$Dealing" "owners" "[I" ∈ k_KT := k_t1 157 (by rfl) rfl
theorem fl_X1_24 : Cond.fieldLink RX1 24 "HookOrCrook$Dealing" "bestOwners" "[I" ∈ k_KT := k_t1 158 (by rfl) rfl
theorem fl_X1_56 : Cond.fieldLink RX1 56 "HookOrCrook$Dealing" "most" "I" ∈ k_KT := k_t1 159 (by rfl) rfl
theorem fl_X6_204 : Cond.fieldLink RX6 204 "HookOrCrook$Dealing" "most" "I" ∈ k_KT := k_t1 160 (by rfl) rfl
theorem la_1_0 : Cond.laysFinal "HookOrCrook$Dealing" "HookOrCrook$Dealing" "forest" "LHookOrCrook$Forest;" ∈ k_KT := k_t1 161 (by rfl) rfl
theorem la_1_1 : Cond.laysFinal "HookOrCrook$Dealing" "HookOrCrook$Dealing" "takers" "[I" ∈ k_KT := k_t1 163 (by rfl) rfl
theorem la_1_2 : Cond.laysFinal "HookOrCrook$Dealing" "HookOrCrook$Dealing" "rest" "[I" ∈ k_KT := k_t1 165 (by rfl) rfl
theorem la_1_3 : Cond.laysFinal "HookOrCrook$Dealing" "HookOrCrook$Dealing" "free" "[I" ∈ k_KT := k_t1 167 (by rfl) rfl
theorem la_1_4 : Cond.laysFinal "HookOrCrook$Dealing" "HookOrCrook$Dealing" "owners" "[I" ∈ k_KT := k_t1 169 (by rfl) rfl
theorem la_1_5 : Cond.laysFinal "HookOrCrook$Dealing" "HookOrCrook$Dealing" "bestOwners" "[I" ∈ k_KT := k_t1 171 (by rfl) rfl
theorem la_1_6 : Cond.lays "HookOrCrook$Dealing" "HookOrCrook$Dealing" "most" "I" ∈ k_KT := k_t1 173 (by rfl) rfl
theorem ml_X6_60 : Cond.methodLink RX6 60 yX5_become ∈ k_KT := k_t1 177 (by rfl) rfl
theorem im_X5_become : Cond.instanceMethod yX5_become ∈ k_KT := k_t1 178 (by rfl) rfl
theorem se_X5_become : Cond.selects RX5 yX5_become yX5_become ∈ k_KT := k_t1 179 (by rfl) rfl
theorem co_X5_become : Cond.code yX5_become cX5_become 3 none ∈ k_KT := k_t1 180 (by rfl) rfl
theorem ml_X5_23 : Cond.methodLink RX5 23 yJ0_length_8abf5 ∈ k_KT := k_t1 181 (by rfl) rfl
theorem im_J0_length_8abf5 : Cond.instanceMethod yJ0_length_8abf5 ∈ k_KT := k_t1 182 (by rfl) rfl
theorem se_J0_length_8abf5 : Cond.selects RJ0 yJ0_length_8abf5 yJ0_length_8abf5 ∈ k_KT := k_t1 183 (by rfl) rfl
theorem co_J0_length_8abf5 : Cond.code yJ0_length_8abf5 cJ0_length_8abf5 1 (some .int) ∈ k_KT := k_t1 184 (by rfl) rfl
theorem ml_J0_335 : Cond.methodLink RJ0 335 yJ0_coder_7d493 ∈ k_KT := k_t1 185 (by rfl) rfl
theorem im_J0_coder_7d493 : Cond.instanceMethod yJ0_coder_7d493 ∈ k_KT := k_t1 186 (by rfl) rfl
theorem se_J0_coder_7d493 : Cond.selects RJ0 yJ0_coder_7d493 yJ0_coder_7d493 ∈ k_KT := k_t1 187 (by rfl) rfl
theorem co_J0_coder_7d493 : Cond.code yJ0_coder_7d493 cJ0_coder_7d493 1 (some .byte) ∈ k_KT := k_t1 188 (by rfl) rfl
theorem fl_J0_38 : Cond.fieldLink RJ0 38 "java/lang/String" "COMPACT_STRINGS" "Z" ∈ k_KT := k_t1 189 (by rfl) rfl
theorem ml_X5_28 : Cond.methodLink RX5 28 yJ0_charAt_5068e ∈ k_KT := k_t1 191 (by rfl) rfl
theorem im_J0_charAt_5068e : Cond.instanceMethod yJ0_charAt_5068e ∈ k_KT := k_t1 192 (by rfl) rfl
theorem se_J0_charAt_5068e : Cond.selects RJ0 yJ0_charAt_5068e yJ0_charAt_5068e ∈ k_KT := k_t1 193 (by rfl) rfl
theorem co_J0_charAt_5068e : Cond.code yJ0_charAt_5068e cJ0_charAt_5068e 2 (some .char) ∈ k_KT := k_t1 194 (by rfl) rfl
theorem ml_J0_492 : Cond.methodLink RJ0 492 yJ0_isLatin1_aae02 ∈ k_KT := k_t1 195 (by rfl) rfl
theorem im_J0_isLatin1_aae02 : Cond.instanceMethod yJ0_isLatin1_aae02 ∈ k_KT := k_t1 196 (by rfl) rfl
theorem se_J0_isLatin1_aae02 : Cond.selects RJ0 yJ0_isLatin1_aae02 yJ0_isLatin1_aae02 ∈ k_KT := k_t1 197 (by rfl) rfl
theorem co_J0_isLatin1_aae02 : Cond.code yJ0_isLatin1_aae02 cJ0_isLatin1_aae02 1 (some .boolean) ∈ k_KT := k_t1 198 (by rfl) rfl
theorem ml_J0_495 : Cond.methodLink RJ0 495 yJ1_charAt_3b067 ∈ k_KT := k_t1 199 (by rfl) rfl
theorem st_J1_charAt_3b067 : Cond.static yJ1_charAt_3b067 ∈ k_KT := k_t1 200 (by rfl) rfl
theorem co_J1_charAt_3b067 : Cond.code yJ1_charAt_3b067 cJ1_charAt_3b067 2 (some .char) ∈ k_KT := k_t1 201 (by rfl) rfl
theorem ml_J1_9 : Cond.methodLink RJ1 9 yJ0_checkIndex_df160 ∈ k_KT := k_t1 202 (by rfl) rfl
theorem st_J0_checkIndex_df160 : Cond.static yJ0_checkIndex_df160 ∈ k_KT := k_t1 203 (by rfl) rfl
theorem co_J0_checkIndex_df160 : Cond.code yJ0_checkIndex_df160 cJ0_checkIndex_df160 2 none ∈ k_KT := k_t1 204 (by rfl) rfl
theorem fl_J0_1053 : Cond.fieldLink RJ0 1053 "jdk/internal/util/Preconditions" "SIOOBE_FORMATTER" "Ljava/util/function/BiFunction;" ∈ k_KT := k_t1 205 (by rfl) rfl
theorem ml_J0_1059 : Cond.methodLink RJ0 1059 yJ3_checkIndex_8e157 ∈ k_KT := k_t1 207 (by rfl) rfl
theorem st_J3_checkIndex_8e157 : Cond.static yJ3_checkIndex_8e157 ∈ k_KT := k_t1 208 (by rfl) rfl
theorem co_J3_checkIndex_8e157 : Cond.code yJ3_checkIndex_8e157 cJ3_checkIndex_8e157 3 (some .int) ∈ k_KT := k_t1 209 (by rfl) rfl
theorem ml_J0_498 : Cond.methodLink RJ0 498 yJ2_charAt_3b067 ∈ k_KT := k_t1 210 (by rfl) rfl
theorem st_J2_charAt_3b067 : Cond.static yJ2_charAt_3b067 ∈ k_KT := k_t1 211 (by rfl) rfl
theorem co_J2_charAt_3b067 : Cond.code yJ2_charAt_3b067 cJ2_charAt_3b067 2 (some .char) ∈ k_KT := k_t1 212 (by rfl) rfl
theorem ml_J2_67 : Cond.methodLink RJ2 67 yJ2_checkIndex_2214a ∈ k_KT := k_t1 213 (by rfl) rfl
theorem st_J2_checkIndex_2214a : Cond.static yJ2_checkIndex_2214a ∈ k_KT := k_t1 214 (by rfl) rfl
theorem co_J2_checkIndex_2214a : Cond.code yJ2_checkIndex_2214a cJ2_checkIndex_2214a 2 none ∈ k_KT := k_t1 215 (by rfl) rfl
theorem ml_J2_48 : Cond.methodLink RJ2 48 yJ2_length_9d52b ∈ k_KT := k_t1 216 (by rfl) rfl
theorem st_J2_length_9d52b : Cond.static yJ2_length_9d52b ∈ k_KT := k_t1 217 (by rfl) rfl
theorem co_J2_length_9d52b : Cond.code yJ2_length_9d52b cJ2_length_9d52b 1 (some .int) ∈ k_KT := k_t1 218 (by rfl) rfl
theorem ml_J2_414 : Cond.methodLink RJ2 414 yJ0_checkIndex_df160 ∈ k_KT := k_t1 219 (by rfl) rfl
theorem ml_J2_71 : Cond.methodLink RJ2 71 yJ2_getChar_3b067 ∈ k_KT := k_t1 220 (by rfl) rfl
theorem st_J2_getChar_3b067 : Cond.static yJ2_getChar_3b067 ∈ k_KT := k_t1 221 (by rfl) rfl
theorem co_J2_getChar_3b067 : Cond.code yJ2_getChar_3b067 cJ2_getChar_3b067 2 (some .char) ∈ k_KT := k_t1 222 (by rfl) rfl
theorem fl_J2_44 : Cond.fieldLink RJ2 44 "java/lang/StringUTF16" "$assertionsDisabled" "Z" ∈ k_KT := k_t1 223 (by rfl) rfl
theorem fl_J2_59 : Cond.fieldLink RJ2 59 "java/lang/StringUTF16" "HI_BYTE_SHIFT" "I" ∈ k_KT := k_t1 225 (by rfl) rfl
theorem fl_J2_63 : Cond.fieldLink RJ2 63 "java/lang/StringUTF16" "LO_BYTE_SHIFT" "I" ∈ k_KT := k_t1 227 (by rfl) rfl
theorem ml_X5_32 : Cond.methodLink RX5 32 yX5_add ∈ k_KT := k_t1 229 (by rfl) rfl
theorem im_X5_add : Cond.instanceMethod yX5_add ∈ k_KT := k_t1 230 (by rfl) rfl
theorem se_X5_add : Cond.selects RX5 yX5_add yX5_add ∈ k_KT := k_t1 231 (by rfl) rfl
theorem co_X5_add : Cond.code yX5_add cX5_add 2 none ∈ k_KT := k_t1 232 (by rfl) rfl
theorem ml_X6_64 : Cond.methodLink RX6 64 yX2_read ∈ k_KT := k_t1 233 (by rfl) rfl
theorem im_X2_read : Cond.instanceMethod yX2_read ∈ k_KT := k_t1 234 (by rfl) rfl
theorem se_X2_read : Cond.selects RX2 yX2_read yX2_read ∈ k_KT := k_t1 235 (by rfl) rfl
theorem co_X2_read : Cond.code yX2_read cX2_read 6 none ∈ k_KT := k_t1 236 (by rfl) rfl
theorem ml_X2_43 : Cond.methodLink RX2 43 yX4_clear ∈ k_KT := k_t1 237 (by rfl) rfl
theorem im_X4_clear : Cond.instanceMethod yX4_clear ∈ k_KT := k_t1 238 (by rfl) rfl
theorem se_X4_clear : Cond.selects RX4 yX4_clear yX4_clear ∈ k_KT := k_t1 239 (by rfl) rfl
theorem co_X4_clear : Cond.code yX4_clear cX4_clear 2 none ∈ k_KT := k_t2 0 (by rfl) rfl
theorem ml_X2_53 : Cond.methodLink RX2 53 yX5_readItem ∈ k_KT := k_t2 1 (by rfl) rfl
theorem im_X5_readItem : Cond.instanceMethod yX5_readItem ∈ k_KT := k_t2 2 (by rfl) rfl
theorem se_X5_readItem : Cond.selects RX5 yX5_readItem yX5_readItem ∈ k_KT := k_t2 3 (by rfl) rfl
theorem co_X5_readItem : Cond.code yX5_readItem cX5_readItem 7 (some .int) ∈ k_KT := k_t2 4 (by rfl) rfl
theorem ml_X5_40 : Cond.methodLink RX5 40 yX5_letter ∈ k_KT := k_t2 5 (by rfl) rfl
theorem im_X5_letter : Cond.instanceMethod yX5_letter ∈ k_KT := k_t2 6 (by rfl) rfl
theorem se_X5_letter : Cond.selects RX5 yX5_letter yX5_letter ∈ k_KT := k_t2 7 (by rfl) rfl
theorem co_X5_letter : Cond.code yX5_letter cX5_letter 2 (some .char) ∈ k_KT := k_t2 8 (by rfl) rfl
theorem ml_X5_50 : Cond.methodLink RX5 50 yX5_firstLimit ∈ k_KT := k_t2 9 (by rfl) rfl
theorem st_X5_firstLimit : Cond.static yX5_firstLimit ∈ k_KT := k_t2 10 (by rfl) rfl
theorem co_X5_firstLimit : Cond.code yX5_firstLimit cX5_firstLimit 1 (some .int) ∈ k_KT := k_t2 11 (by rfl) rfl
theorem ml_X5_54 : Cond.methodLink RX5 54 yX5_howManyNumbers ∈ k_KT := k_t2 12 (by rfl) rfl
theorem st_X5_howManyNumbers : Cond.static yX5_howManyNumbers ∈ k_KT := k_t2 13 (by rfl) rfl
theorem co_X5_howManyNumbers : Cond.code yX5_howManyNumbers cX5_howManyNumbers 1 (some .int) ∈ k_KT := k_t2 14 (by rfl) rfl
theorem ml_X5_57 : Cond.methodLink RX5 57 yX5_figuresAt ∈ k_KT := k_t2 15 (by rfl) rfl
theorem im_X5_figuresAt : Cond.instanceMethod yX5_figuresAt ∈ k_KT := k_t2 17 (by rfl) rfl
theorem co_X5_figuresAt : Cond.code yX5_figuresAt cX5_figuresAt 2 (some .int) ∈ k_KT := k_t2 18 (by rfl) rfl
theorem ml_X5_74 : Cond.methodLink RX5 74 yX5_isFigure ∈ k_KT := k_t2 19 (by rfl) rfl
theorem st_X5_isFigure : Cond.static yX5_isFigure ∈ k_KT := k_t2 20 (by rfl) rfl
theorem co_X5_isFigure : Cond.code yX5_isFigure cX5_isFigure 1 (some .boolean) ∈ k_KT := k_t2 21 (by rfl) rfl
theorem ml_X5_60 : Cond.methodLink RX5 60 yX5_readNumber ∈ k_KT := k_t2 22 (by rfl) rfl
theorem im_X5_readNumber : Cond.instanceMethod yX5_readNumber ∈ k_KT := k_t2 24 (by rfl) rfl
theorem co_X5_readNumber : Cond.code yX5_readNumber cX5_readNumber 6 (some .boolean) ∈ k_KT := k_t2 25 (by rfl) rfl
theorem fl_X5_64 : Cond.fieldLink RX5 64 "HookOrCrook$Text" "LEAST" "[I" ∈ k_KT := k_t2 26 (by rfl) rfl
theorem fl_X5_67 : Cond.fieldLink RX5 67 "HookOrCrook$Text" "MOST" "[I" ∈ k_KT := k_t2 28 (by rfl) rfl
theorem st_X6_isWithin : Cond.static yX6_isWithin ∈ k_KT := k_t2 31 (by rfl) rfl
theorem co_X6_isWithin : Cond.code yX6_isWithin cX6_isWithin 3 (some .boolean) ∈ k_KT := k_t2 32 (by rfl) rfl
theorem ml_X2_57 : Cond.methodLink RX2 57 yX5_letter ∈ k_KT := k_t2 33 (by rfl) rfl
theorem ml_X2_61 : Cond.methodLink RX2 61 yX2_put ∈ k_KT := k_t2 34 (by rfl) rfl
theorem im_X2_put : Cond.instanceMethod yX2_put ∈ k_KT := k_t2 36 (by rfl) rfl
theorem co_X2_put : Cond.code yX2_put cX2_put 4 none ∈ k_KT := k_t2 37 (by rfl) rfl
theorem ml_X2_65 : Cond.methodLink RX2 65 yX2_putBough ∈ k_KT := k_t2 38 (by rfl) rfl
theorem im_X2_putBough : Cond.instanceMethod yX2_putBough ∈ k_KT := k_t2 40 (by rfl) rfl
theorem co_X2_putBough : Cond.code yX2_putBough cX2_putBough 3 none ∈ k_KT := k_t2 41 (by rfl) rfl
theorem ml_X2_72 : Cond.methodLink RX2 72 yX5_number ∈ k_KT := k_t2 42 (by rfl) rfl
theorem im_X5_number : Cond.instanceMethod yX5_number ∈ k_KT := k_t2 43 (by rfl) rfl
theorem se_X5_number : Cond.selects RX5 yX5_number yX5_number ∈ k_KT := k_t2 44 (by rfl) rfl
theorem co_X5_number : Cond.code yX5_number cX5_number 2 (some .int) ∈ k_KT := k_t2 45 (by rfl) rfl
theorem ml_X2_75 : Cond.methodLink RX2 75 yX4_setDeadFrom ∈ k_KT := k_t2 46 (by rfl) rfl
theorem im_X4_setDeadFrom : Cond.instanceMethod yX4_setDeadFrom ∈ k_KT := k_t2 47 (by rfl) rfl
theorem se_X4_setDeadFrom : Cond.selects RX4 yX4_setDeadFrom yX4_setDeadFrom ∈ k_KT := k_t2 48 (by rfl) rfl
theorem co_X4_setDeadFrom : Cond.code yX4_setDeadFrom cX4_setDeadFrom 3 none ∈ k_KT := k_t2 49 (by rfl) rfl
theorem ml_X2_69 : Cond.methodLink RX2 69 yX2_putTenant ∈ k_KT := k_t2 50 (by rfl) rfl
theorem im_X2_putTenant : Cond.instanceMethod yX2_putTenant ∈ k_KT := k_t2 52 (by rfl) rfl
theorem co_X2_putTenant : Cond.code yX2_putTenant cX2_putTenant 3 none ∈ k_KT := k_t2 53 (by rfl) rfl
theorem ml_X2_79 : Cond.methodLink RX2 79 yX4_setReach ∈ k_KT := k_t2 54 (by rfl) rfl
theorem im_X4_setReach : Cond.instanceMethod yX4_setReach ∈ k_KT := k_t2 55 (by rfl) rfl
theorem se_X4_setReach : Cond.selects RX4 yX4_setReach yX4_setReach ∈ k_KT := k_t2 56 (by rfl) rfl
theorem co_X4_setReach : Cond.code yX4_setReach cX4_setReach 3 none ∈ k_KT := k_t2 57 (by rfl) rfl
theorem fl_X6_10 : Cond.fieldLink RX6 10 "HookOrCrook" "text" "LHookOrCrook$Text;" ∈ k_KT := k_t2 58 (by rfl) rfl
theorem fl_X6_19 : Cond.fieldLink RX6 19 "HookOrCrook" "forest" "LHookOrCrook$Forest;" ∈ k_KT := k_t2 59 (by rfl) rfl
theorem fl_X6_26 : Cond.fieldLink RX6 26 "HookOrCrook" "now" "LHookOrCrook$State;" ∈ k_KT := k_t2 60 (by rfl) rfl
theorem fl_X6_35 : Cond.fieldLink RX6 35 "HookOrCrook" "past" "LHookOrCrook$Pile;" ∈ k_KT := k_t2 61 (by rfl) rfl
theorem fl_X6_39 : Cond.fieldLink RX6 39 "HookOrCrook" "kept" "LHookOrCrook$Pile;" ∈ k_KT := k_t2 62 (by rfl) rfl
theorem fl_X6_47 : Cond.fieldLink RX6 47 "HookOrCrook" "course" "LHookOrCrook$Course;" ∈ k_KT := k_t2 63 (by rfl) rfl
theorem fl_X6_54 : Cond.fieldLink RX6 54 "HookOrCrook" "dealing" "LHookOrCrook$Dealing;" ∈ k_KT := k_t2 64 (by rfl) rfl
theorem la_6_0 : Cond.laysFinal "HookOrCrook" "HookOrCrook" "text" "LHookOrCrook$Text;" ∈ k_KT := k_t2 65 (by rfl) rfl
theorem la_6_1 : Cond.laysFinal "HookOrCrook" "HookOrCrook" "forest" "LHookOrCrook$Forest;" ∈ k_KT := k_t2 67 (by rfl) rfl
theorem la_6_2 : Cond.laysFinal "HookOrCrook" "HookOrCrook" "now" "LHookOrCrook$State;" ∈ k_KT := k_t2 69 (by rfl) rfl
theorem la_6_3 : Cond.laysFinal "HookOrCrook" "HookOrCrook" "past" "LHookOrCrook$Pile;" ∈ k_KT := k_t2 71 (by rfl) rfl
theorem la_6_4 : Cond.laysFinal "HookOrCrook" "HookOrCrook" "kept" "LHookOrCrook$Pile;" ∈ k_KT := k_t2 73 (by rfl) rfl
theorem la_6_5 : Cond.laysFinal "HookOrCrook" "HookOrCrook" "course" "LHookOrCrook$Course;" ∈ k_KT := k_t2 75 (by rfl) rfl
theorem la_6_6 : Cond.laysFinal "HookOrCrook" "HookOrCrook" "dealing" "LHookOrCrook$Dealing;" ∈ k_KT := k_t2 77 (by rfl) rfl
theorem ac_byte : Cond.arrayClass .byte ∈ k_KT := k_t2 80 (by rfl) rfl
theorem ml_L_13 : Cond.methodLink RL 13 yX6_write ∈ k_KT := k_t2 81 (by rfl) rfl
theorem im_X6_write : Cond.instanceMethod yX6_write ∈ k_KT := k_t2 82 (by rfl) rfl
theorem se_X6_write : Cond.selects RX6 yX6_write yX6_write ∈ k_KT := k_t2 83 (by rfl) rfl
theorem co_X6_write : Cond.code yX6_write cX6_write 2 (some .int) ∈ k_KT := k_t2 84 (by rfl) rfl
theorem ml_X6_72 : Cond.methodLink RX6 72 yX6_isWithin ∈ k_KT := k_t2 85 (by rfl) rfl
theorem ml_X6_76 : Cond.methodLink RX6 76 yX5_isFull ∈ k_KT := k_t2 86 (by rfl) rfl
theorem im_X5_isFull : Cond.instanceMethod yX5_isFull ∈ k_KT := k_t2 87 (by rfl) rfl
theorem se_X5_isFull : Cond.selects RX5 yX5_isFull yX5_isFull ∈ k_KT := k_t2 88 (by rfl) rfl
theorem co_X5_isFull : Cond.code yX5_isFull cX5_isFull 1 (some .boolean) ∈ k_KT := k_t2 89 (by rfl) rfl
theorem ml_X6_80 : Cond.methodLink RX6 80 yX5_add ∈ k_KT := k_t2 90 (by rfl) rfl
theorem ml_L_18 : Cond.methodLink RL 18 yX6_wipe ∈ k_KT := k_t2 91 (by rfl) rfl
theorem im_X6_wipe : Cond.instanceMethod yX6_wipe ∈ k_KT := k_t2 92 (by rfl) rfl
theorem se_X6_wipe : Cond.selects RX6 yX6_wipe yX6_wipe ∈ k_KT := k_t2 93 (by rfl) rfl
theorem co_X6_wipe : Cond.code yX6_wipe cX6_wipe 2 (some .int) ∈ k_KT := k_t2 94 (by rfl) rfl
theorem ml_L_23 : Cond.methodLink RL 23 yX6_fault ∈ k_KT := k_t2 95 (by rfl) rfl
theorem im_X6_fault : Cond.instanceMethod yX6_fault ∈ k_KT := k_t2 96 (by rfl) rfl
theorem se_X6_fault : Cond.selects RX6 yX6_fault yX6_fault ∈ k_KT := k_t2 97 (by rfl) rfl
theorem co_X6_fault : Cond.code yX6_fault cX6_fault 1 (some .int) ∈ k_KT := k_t2 98 (by rfl) rfl
theorem ml_X6_84 : Cond.methodLink RX6 84 yX5_firstFault ∈ k_KT := k_t2 99 (by rfl) rfl
theorem im_X5_firstFault : Cond.instanceMethod yX5_firstFault ∈ k_KT := k_t2 100 (by rfl) rfl
theorem se_X5_firstFault : Cond.selects RX5 yX5_firstFault yX5_firstFault ∈ k_KT := k_t2 101 (by rfl) rfl
theorem co_X5_firstFault : Cond.code yX5_firstFault cX5_firstFault 6 (some .int) ∈ k_KT := k_t2 102 (by rfl) rfl
theorem ml_X5_36 : Cond.methodLink RX5 36 yX5_readItem ∈ k_KT := k_t2 103 (by rfl) rfl
theorem ml_L_27 : Cond.methodLink RL 27 yX6_lay ∈ k_KT := k_t2 104 (by rfl) rfl
theorem im_X6_lay : Cond.instanceMethod yX6_lay ∈ k_KT := k_t2 105 (by rfl) rfl
theorem se_X6_lay : Cond.selects RX6 yX6_lay yX6_lay ∈ k_KT := k_t2 106 (by rfl) rfl
theorem co_X6_lay : Cond.code yX6_lay cX6_lay 1 (some .int) ∈ k_KT := k_t2 107 (by rfl) rfl
theorem ml_X6_88 : Cond.methodLink RX6 88 yX5_canBeLaid ∈ k_KT := k_t2 108 (by rfl) rfl
theorem im_X5_canBeLaid : Cond.instanceMethod yX5_canBeLaid ∈ k_KT := k_t2 109 (by rfl) rfl
theorem se_X5_canBeLaid : Cond.selects RX5 yX5_canBeLaid yX5_canBeLaid ∈ k_KT := k_t2 110 (by rfl) rfl
theorem co_X5_canBeLaid : Cond.code yX5_canBeLaid cX5_canBeLaid 1 (some .boolean) ∈ k_KT := k_t2 111 (by rfl) rfl
theorem ml_X5_43 : Cond.methodLink RX5 43 yX5_firstFault ∈ k_KT := k_t2 112 (by rfl) rfl
theorem ml_X5_46 : Cond.methodLink RX5 46 yX5_has ∈ k_KT := k_t2 113 (by rfl) rfl
theorem im_X5_has : Cond.instanceMethod yX5_has ∈ k_KT := k_t2 115 (by rfl) rfl
theorem co_X5_has : Cond.code yX5_has cX5_has 3 (some .boolean) ∈ k_KT := k_t2 116 (by rfl) rfl
theorem ml_X6_91 : Cond.methodLink RX6 91 yX3_clear ∈ k_KT := k_t2 117 (by rfl) rfl
theorem im_X3_clear : Cond.instanceMethod yX3_clear ∈ k_KT := k_t2 118 (by rfl) rfl
theorem se_X3_clear : Cond.selects RX3 yX3_clear yX3_clear ∈ k_KT := k_t2 119 (by rfl) rfl
theorem co_X3_clear : Cond.code yX3_clear cX3_clear 1 none ∈ k_KT := k_t2 120 (by rfl) rfl
theorem ml_L_31 : Cond.methodLink RL 31 yX6_bough ∈ k_KT := k_t2 121 (by rfl) rfl
theorem im_X6_bough : Cond.instanceMethod yX6_bough ∈ k_KT := k_t2 122 (by rfl) rfl
theorem se_X6_bough : Cond.selects RX6 yX6_bough yX6_bough ∈ k_KT := k_t2 123 (by rfl) rfl
theorem co_X6_bough : Cond.code yX6_bough cX6_bough 3 (some .int) ∈ k_KT := k_t2 124 (by rfl) rfl
theorem ml_X6_97 : Cond.methodLink RX6 97 yX2_hasBough ∈ k_KT := k_t2 125 (by rfl) rfl
theorem im_X2_hasBough : Cond.instanceMethod yX2_hasBough ∈ k_KT := k_t2 126 (by rfl) rfl
theorem se_X2_hasBough : Cond.selects RX2 yX2_hasBough yX2_hasBough ∈ k_KT := k_t2 127 (by rfl) rfl
theorem co_X2_hasBough : Cond.code yX2_hasBough cX2_hasBough 2 (some .boolean) ∈ k_KT := k_t2 128 (by rfl) rfl
theorem ml_X6_101 : Cond.methodLink RX6 101 yX2_kind ∈ k_KT := k_t2 129 (by rfl) rfl
theorem im_X2_kind : Cond.instanceMethod yX2_kind ∈ k_KT := k_t2 130 (by rfl) rfl
theorem se_X2_kind : Cond.selects RX2 yX2_kind yX2_kind ∈ k_KT := k_t2 131 (by rfl) rfl
theorem co_X2_kind : Cond.code yX2_kind cX2_kind 2 (some .int) ∈ k_KT := k_t2 132 (by rfl) rfl
theorem ml_X6_105 : Cond.methodLink RX6 105 yX2_height ∈ k_KT := k_t2 133 (by rfl) rfl
theorem im_X2_height : Cond.instanceMethod yX2_height ∈ k_KT := k_t2 134 (by rfl) rfl
theorem se_X2_height : Cond.selects RX2 yX2_height yX2_height ∈ k_KT := k_t2 135 (by rfl) rfl
theorem co_X2_height : Cond.code yX2_height cX2_height 2 (some .int) ∈ k_KT := k_t2 136 (by rfl) rfl
theorem ml_X6_108 : Cond.methodLink RX6 108 yX2_weight ∈ k_KT := k_t2 137 (by rfl) rfl
theorem im_X2_weight : Cond.instanceMethod yX2_weight ∈ k_KT := k_t2 138 (by rfl) rfl
theorem se_X2_weight : Cond.selects RX2 yX2_weight yX2_weight ∈ k_KT := k_t2 139 (by rfl) rfl
theorem co_X2_weight : Cond.code yX2_weight cX2_weight 2 (some .int) ∈ k_KT := k_t2 140 (by rfl) rfl
theorem ml_X6_111 : Cond.methodLink RX6 111 yX4_deadFrom ∈ k_KT := k_t2 141 (by rfl) rfl
theorem im_X4_deadFrom : Cond.instanceMethod yX4_deadFrom ∈ k_KT := k_t2 142 (by rfl) rfl
theorem se_X4_deadFrom : Cond.selects RX4 yX4_deadFrom yX4_deadFrom ∈ k_KT := k_t2 143 (by rfl) rfl
theorem co_X4_deadFrom : Cond.code yX4_deadFrom cX4_deadFrom 2 (some .int) ∈ k_KT := k_t2 144 (by rfl) rfl
theorem ml_X6_117 : Cond.methodLink RX6 117 yX2_isDead ∈ k_KT := k_t2 145 (by rfl) rfl
theorem im_X2_isDead : Cond.instanceMethod yX2_isDead ∈ k_KT := k_t2 146 (by rfl) rfl
theorem se_X2_isDead : Cond.selects RX2 yX2_isDead yX2_isDead ∈ k_KT := k_t2 147 (by rfl) rfl
theorem co_X2_isDead : Cond.code yX2_isDead cX2_isDead 4 (some .boolean) ∈ k_KT := k_t2 148 (by rfl) rfl
theorem ml_X2_85 : Cond.methodLink RX2 85 yX4_deadFrom ∈ k_KT := k_t2 149 (by rfl) rfl
theorem ml_X6_121 : Cond.methodLink RX6 121 yX6_bit ∈ k_KT := k_t2 150 (by rfl) rfl
theorem st_X6_bit : Cond.static yX6_bit ∈ k_KT := k_t2 151 (by rfl) rfl
theorem co_X6_bit : Cond.code yX6_bit cX6_bit 1 (some .int) ∈ k_KT := k_t2 152 (by rfl) rfl
theorem ml_X6_125 : Cond.methodLink RX6 125 yX2_hasFallen ∈ k_KT := k_t2 153 (by rfl) rfl
theorem im_X2_hasFallen : Cond.instanceMethod yX2_hasFallen ∈ k_KT := k_t2 154 (by rfl) rfl
theorem se_X2_hasFallen : Cond.selects RX2 yX2_hasFallen yX2_hasFallen ∈ k_KT := k_t2 155 (by rfl) rfl
theorem co_X2_hasFallen : Cond.code yX2_hasFallen cX2_hasFallen 4 (some .boolean) ∈ k_KT := k_t2 156 (by rfl) rfl
theorem ml_X6_128 : Cond.methodLink RX6 128 yX4_isGone ∈ k_KT := k_t2 157 (by rfl) rfl
theorem im_X4_isGone : Cond.instanceMethod yX4_isGone ∈ k_KT := k_t2 158 (by rfl) rfl
theorem se_X4_isGone : Cond.selects RX4 yX4_isGone yX4_isGone ∈ k_KT := k_t2 159 (by rfl) rfl
theorem co_X4_isGone : Cond.code yX4_isGone cX4_isGone 2 (some .boolean) ∈ k_KT := k_t2 160 (by rfl) rfl
theorem ml_L_36 : Cond.methodLink RL 36 yX6_tenant ∈ k_KT := k_t2 161 (by rfl) rfl
theorem im_X6_tenant : Cond.instanceMethod yX6_tenant ∈ k_KT := k_t2 162 (by rfl) rfl
theorem se_X6_tenant : Cond.selects RX6 yX6_tenant yX6_tenant ∈ k_KT := k_t2 163 (by rfl) rfl
theorem co_X6_tenant : Cond.code yX6_tenant cX6_tenant 3 (some .int) ∈ k_KT := k_t2 164 (by rfl) rfl
theorem ml_X6_131 : Cond.methodLink RX6 131 yX2_hasTenant ∈ k_KT := k_t2 165 (by rfl) rfl
theorem im_X2_hasTenant : Cond.instanceMethod yX2_hasTenant ∈ k_KT := k_t2 166 (by rfl) rfl
theorem se_X2_hasTenant : Cond.selects RX2 yX2_hasTenant yX2_hasTenant ∈ k_KT := k_t2 167 (by rfl) rfl
theorem co_X2_hasTenant : Cond.code yX2_hasTenant cX2_hasTenant 2 (some .boolean) ∈ k_KT := k_t2 168 (by rfl) rfl
theorem ml_X6_134 : Cond.methodLink RX6 134 yX4_reach ∈ k_KT := k_t2 169 (by rfl) rfl
theorem im_X4_reach : Cond.instanceMethod yX4_reach ∈ k_KT := k_t2 170 (by rfl) rfl
theorem se_X4_reach : Cond.selects RX4 yX4_reach yX4_reach ∈ k_KT := k_t2 171 (by rfl) rfl
theorem co_X4_reach : Cond.code yX4_reach cX4_reach 2 (some .int) ∈ k_KT := k_t2 172 (by rfl) rfl
theorem ml_X6_137 : Cond.methodLink RX6 137 yX2_strength ∈ k_KT := k_t2 173 (by rfl) rfl
theorem im_X2_strength : Cond.instanceMethod yX2_strength ∈ k_KT := k_t2 174 (by rfl) rfl
theorem se_X2_strength : Cond.selects RX2 yX2_strength yX2_strength ∈ k_KT := k_t2 175 (by rfl) rfl
theorem co_X2_strength : Cond.code yX2_strength cX2_strength 2 (some .int) ∈ k_KT := k_t2 176 (by rfl) rfl
theorem ml_X6_140 : Cond.methodLink RX6 140 yX2_hearth ∈ k_KT := k_t2 177 (by rfl) rfl
theorem im_X2_hearth : Cond.instanceMethod yX2_hearth ∈ k_KT := k_t2 178 (by rfl) rfl
theorem se_X2_hearth : Cond.selects RX2 yX2_hearth yX2_hearth ∈ k_KT := k_t2 179 (by rfl) rfl
theorem co_X2_hearth : Cond.code yX2_hearth cX2_hearth 2 (some .int) ∈ k_KT := k_t2 180 (by rfl) rfl
theorem ml_X6_143 : Cond.methodLink RX6 143 yX4_stack ∈ k_KT := k_t2 181 (by rfl) rfl
theorem im_X4_stack : Cond.instanceMethod yX4_stack ∈ k_KT := k_t2 182 (by rfl) rfl
theorem se_X4_stack : Cond.selects RX4 yX4_stack yX4_stack ∈ k_KT := k_t2 183 (by rfl) rfl
theorem co_X4_stack : Cond.code yX4_stack cX4_stack 2 (some .int) ∈ k_KT := k_t2 184 (by rfl) rfl
theorem ml_X6_146 : Cond.methodLink RX6 146 yX4_carried ∈ k_KT := k_t2 185 (by rfl) rfl
theorem im_X4_carried : Cond.instanceMethod yX4_carried ∈ k_KT := k_t2 186 (by rfl) rfl
theorem se_X4_carried : Cond.selects RX4 yX4_carried yX4_carried ∈ k_KT := k_t2 187 (by rfl) rfl
theorem co_X4_carried : Cond.code yX4_carried cX4_carried 2 (some .int) ∈ k_KT := k_t2 188 (by rfl) rfl
theorem ml_X6_149 : Cond.methodLink RX6 149 yX2_isWarm ∈ k_KT := k_t2 189 (by rfl) rfl
theorem im_X2_isWarm : Cond.instanceMethod yX2_isWarm ∈ k_KT := k_t2 190 (by rfl) rfl
theorem se_X2_isWarm : Cond.selects RX2 yX2_isWarm yX2_isWarm ∈ k_KT := k_t2 191 (by rfl) rfl
theorem co_X2_isWarm : Cond.code yX2_isWarm cX2_isWarm 3 (some .boolean) ∈ k_KT := k_t2 192 (by rfl) rfl
theorem ml_X2_124 : Cond.methodLink RX2 124 yX4_stack ∈ k_KT := k_t2 193 (by rfl) rfl
theorem ml_X2_127 : Cond.methodLink RX2 127 yX2_hearth ∈ k_KT := k_t2 194 (by rfl) rfl
theorem ml_L_40 : Cond.methodLink RL 40 yX6_can ∈ k_KT := k_t2 195 (by rfl) rfl
theorem im_X6_can : Cond.instanceMethod yX6_can ∈ k_KT := k_t2 196 (by rfl) rfl
theorem se_X6_can : Cond.selects RX6 yX6_can yX6_can ∈ k_KT := k_t2 197 (by rfl) rfl
theorem co_X6_can : Cond.code yX6_can cX6_can 3 (some .int) ∈ k_KT := k_t2 198 (by rfl) rfl
theorem ml_X6_153 : Cond.methodLink RX6 153 yX2_canTake ∈ k_KT := k_t2 199 (by rfl) rfl
theorem im_X2_canTake : Cond.instanceMethod yX2_canTake ∈ k_KT := k_t2 200 (by rfl) rfl
theorem se_X2_canTake : Cond.selects RX2 yX2_canTake yX2_canTake ∈ k_KT := k_t2 201 (by rfl) rfl
theorem co_X2_canTake : Cond.code yX2_canTake cX2_canTake 4 (some .boolean) ∈ k_KT := k_t2 202 (by rfl) rfl
theorem ml_X2_110 : Cond.methodLink RX2 110 yX4_isGone ∈ k_KT := k_t2 203 (by rfl) rfl
theorem ml_X2_117 : Cond.methodLink RX2 117 yX4_carried ∈ k_KT := k_t2 204 (by rfl) rfl
theorem ml_X2_120 : Cond.methodLink RX2 120 yX2_couldTake ∈ k_KT := k_t2 205 (by rfl) rfl
theorem im_X2_couldTake : Cond.instanceMethod yX2_couldTake ∈ k_KT := k_t2 206 (by rfl) rfl
theorem se_X2_couldTake : Cond.selects RX2 yX2_couldTake yX2_couldTake ∈ k_KT := k_t2 207 (by rfl) rfl
theorem co_X2_couldTake : Cond.code yX2_couldTake cX2_couldTake 6 (some .boolean) ∈ k_KT := k_t2 208 (by rfl) rfl
theorem ml_X2_97 : Cond.methodLink RX2 97 yX2_isDead ∈ k_KT := k_t2 209 (by rfl) rfl
theorem ml_X2_82 : Cond.methodLink RX2 82 yX2_weight ∈ k_KT := k_t2 210 (by rfl) rfl
theorem ml_X2_101 : Cond.methodLink RX2 101 yX2_strength ∈ k_KT := k_t2 211 (by rfl) rfl
theorem ml_X2_104 : Cond.methodLink RX2 104 yX2_hasFallen ∈ k_KT := k_t2 212 (by rfl) rfl
theorem ml_X2_107 : Cond.methodLink RX2 107 yX2_isInReach ∈ k_KT := k_t2 213 (by rfl) rfl
theorem im_X2_isInReach : Cond.instanceMethod yX2_isInReach ∈ k_KT := k_t2 215 (by rfl) rfl
theorem co_X2_isInReach : Cond.code yX2_isInReach cX2_isInReach 4 (some .boolean) ∈ k_KT := k_t2 216 (by rfl) rfl
theorem ml_X2_88 : Cond.methodLink RX2 88 yX2_kind ∈ k_KT := k_t2 217 (by rfl) rfl
theorem ml_X2_91 : Cond.methodLink RX2 91 yX2_height ∈ k_KT := k_t2 218 (by rfl) rfl
theorem ml_X2_94 : Cond.methodLink RX2 94 yX4_reach ∈ k_KT := k_t2 219 (by rfl) rfl
theorem ml_L_44 : Cond.methodLink RL 44 yX6_take ∈ k_KT := k_t2 220 (by rfl) rfl
theorem im_X6_take : Cond.instanceMethod yX6_take ∈ k_KT := k_t2 221 (by rfl) rfl
theorem se_X6_take : Cond.selects RX6 yX6_take yX6_take ∈ k_KT := k_t2 222 (by rfl) rfl
theorem co_X6_take : Cond.code yX6_take cX6_take 4 (some .int) ∈ k_KT := k_t2 223 (by rfl) rfl
theorem ml_X6_156 : Cond.methodLink RX6 156 yX2_isCaught ∈ k_KT := k_t2 224 (by rfl) rfl
theorem im_X2_isCaught : Cond.instanceMethod yX2_isCaught ∈ k_KT := k_t2 225 (by rfl) rfl
theorem se_X2_isCaught : Cond.selects RX2 yX2_isCaught yX2_isCaught ∈ k_KT := k_t2 226 (by rfl) rfl
theorem co_X2_isCaught : Cond.code yX2_isCaught cX2_isCaught 4 (some .boolean) ∈ k_KT := k_t2 227 (by rfl) rfl
theorem ml_X6_159 : Cond.methodLink RX6 159 yX3_add ∈ k_KT := k_t2 228 (by rfl) rfl
theorem im_X3_add : Cond.instanceMethod yX3_add ∈ k_KT := k_t2 229 (by rfl) rfl
theorem se_X3_add : Cond.selects RX3 yX3_add yX3_add ∈ k_KT := k_t2 230 (by rfl) rfl
theorem co_X3_add : Cond.code yX3_add cX3_add 2 none ∈ k_KT := k_t2 231 (by rfl) rfl
theorem ml_X3_26 : Cond.methodLink RX3 26 yX3_isFull ∈ k_KT := k_t2 232 (by rfl) rfl
theorem im_X3_isFull : Cond.instanceMethod yX3_isFull ∈ k_KT := k_t2 233 (by rfl) rfl
theorem se_X3_isFull : Cond.selects RX3 yX3_isFull yX3_isFull ∈ k_KT := k_t2 234 (by rfl) rfl
theorem co_X3_isFull : Cond.code yX3_isFull cX3_isFull 1 (some .boolean) ∈ k_KT := k_t2 235 (by rfl) rfl
theorem ml_X3_30 : Cond.methodLink RX3 30 yX3_dropOldest ∈ k_KT := k_t2 236 (by rfl) rfl
theorem im_X3_dropOldest : Cond.instanceMethod yX3_dropOldest ∈ k_KT := k_t2 238 (by rfl) rfl
theorem co_X3_dropOldest : Cond.code yX3_dropOldest cX3_dropOldest 3 none ∈ k_KT := k_t2 239 (by rfl) rfl
theorem ml_X3_33 : Cond.methodLink RX3 33 yX4_become ∈ k_KT := k_t3 0 (by rfl) rfl
theorem im_X4_become : Cond.instanceMethod yX4_become ∈ k_KT := k_t3 1 (by rfl) rfl
theorem se_X4_become : Cond.selects RX4 yX4_become yX4_become ∈ k_KT := k_t3 2 (by rfl) rfl
theorem co_X4_become : Cond.code yX4_become cX4_become 2 none ∈ k_KT := k_t3 3 (by rfl) rfl
theorem ml_X4_22 : Cond.methodLink RX4 22 arraycopyName ∈ k_KT := k_t3 4 (by rfl) rfl
theorem st_acopy : Cond.static arraycopyName ∈ k_KT := k_t3 5 (by rfl) rfl
theorem na_acopy : Cond.native arraycopyName ∈ k_KT := k_t3 6 (by rfl) rfl
theorem ml_X6_162 : Cond.methodLink RX6 162 yX4_pick ∈ k_KT := k_t3 7 (by rfl) rfl
theorem im_X4_pick : Cond.instanceMethod yX4_pick ∈ k_KT := k_t3 8 (by rfl) rfl
theorem se_X4_pick : Cond.selects RX4 yX4_pick yX4_pick ∈ k_KT := k_t3 9 (by rfl) rfl
theorem co_X4_pick : Cond.code yX4_pick cX4_pick 4 none ∈ k_KT := k_t3 10 (by rfl) rfl
theorem ml_X6_166 : Cond.methodLink RX6 166 yX4_loseStack ∈ k_KT := k_t3 11 (by rfl) rfl
theorem im_X4_loseStack : Cond.instanceMethod yX4_loseStack ∈ k_KT := k_t3 12 (by rfl) rfl
theorem se_X4_loseStack : Cond.selects RX4 yX4_loseStack yX4_loseStack ∈ k_KT := k_t3 13 (by rfl) rfl
theorem co_X4_loseStack : Cond.code yX4_loseStack cX4_loseStack 2 none ∈ k_KT := k_t3 14 (by rfl) rfl
theorem ml_L_48 : Cond.methodLink RL 48 yX6_pass ∈ k_KT := k_t3 15 (by rfl) rfl
theorem im_X6_pass : Cond.instanceMethod yX6_pass ∈ k_KT := k_t3 16 (by rfl) rfl
theorem se_X6_pass : Cond.selects RX6 yX6_pass yX6_pass ∈ k_KT := k_t3 17 (by rfl) rfl
theorem co_X6_pass : Cond.code yX6_pass cX6_pass 2 (some .int) ∈ k_KT := k_t3 18 (by rfl) rfl
theorem ml_X6_169 : Cond.methodLink RX6 169 yX4_goBy ∈ k_KT := k_t3 19 (by rfl) rfl
theorem im_X4_goBy : Cond.instanceMethod yX4_goBy ∈ k_KT := k_t3 20 (by rfl) rfl
theorem se_X4_goBy : Cond.selects RX4 yX4_goBy yX4_goBy ∈ k_KT := k_t3 21 (by rfl) rfl
theorem co_X4_goBy : Cond.code yX4_goBy cX4_goBy 3 none ∈ k_KT := k_t3 22 (by rfl) rfl
theorem ml_L_52 : Cond.methodLink RL 52 yX6_hook ∈ k_KT := k_t3 23 (by rfl) rfl
theorem im_X6_hook : Cond.instanceMethod yX6_hook ∈ k_KT := k_t3 24 (by rfl) rfl
theorem se_X6_hook : Cond.selects RX6 yX6_hook yX6_hook ∈ k_KT := k_t3 25 (by rfl) rfl
theorem co_X6_hook : Cond.code yX6_hook cX6_hook 4 (some .int) ∈ k_KT := k_t3 26 (by rfl) rfl
theorem ml_X6_172 : Cond.methodLink RX6 172 yX4_setReach ∈ k_KT := k_t3 27 (by rfl) rfl
theorem ml_L_56 : Cond.methodLink RL 56 yX6_ring ∈ k_KT := k_t3 28 (by rfl) rfl
theorem im_X6_ring : Cond.instanceMethod yX6_ring ∈ k_KT := k_t3 29 (by rfl) rfl
theorem se_X6_ring : Cond.selects RX6 yX6_ring yX6_ring ∈ k_KT := k_t3 30 (by rfl) rfl
theorem co_X6_ring : Cond.code yX6_ring cX6_ring 3 (some .int) ∈ k_KT := k_t3 31 (by rfl) rfl
theorem ml_X6_176 : Cond.methodLink RX6 176 yX4_setDeadFrom ∈ k_KT := k_t3 32 (by rfl) rfl
theorem ml_L_60 : Cond.methodLink RL 60 yX6_undo ∈ k_KT := k_t3 33 (by rfl) rfl
theorem im_X6_undo : Cond.instanceMethod yX6_undo ∈ k_KT := k_t3 34 (by rfl) rfl
theorem se_X6_undo : Cond.selects RX6 yX6_undo yX6_undo ∈ k_KT := k_t3 35 (by rfl) rfl
theorem co_X6_undo : Cond.code yX6_undo cX6_undo 1 (some .int) ∈ k_KT := k_t3 36 (by rfl) rfl
theorem ml_X6_182 : Cond.methodLink RX6 182 yX3_moveLastTo ∈ k_KT := k_t3 37 (by rfl) rfl
theorem im_X3_moveLastTo : Cond.instanceMethod yX3_moveLastTo ∈ k_KT := k_t3 38 (by rfl) rfl
theorem se_X3_moveLastTo : Cond.selects RX3 yX3_moveLastTo yX3_moveLastTo ∈ k_KT := k_t3 39 (by rfl) rfl
theorem co_X3_moveLastTo : Cond.code yX3_moveLastTo cX3_moveLastTo 2 none ∈ k_KT := k_t3 40 (by rfl) rfl
theorem ml_L_64 : Cond.methodLink RL 64 yX6_warmBy ∈ k_KT := k_t3 41 (by rfl) rfl
theorem im_X6_warmBy : Cond.instanceMethod yX6_warmBy ∈ k_KT := k_t3 42 (by rfl) rfl
theorem se_X6_warmBy : Cond.selects RX6 yX6_warmBy yX6_warmBy ∈ k_KT := k_t3 43 (by rfl) rfl
theorem co_X6_warmBy : Cond.code yX6_warmBy cX6_warmBy 2 (some .int) ∈ k_KT := k_t3 44 (by rfl) rfl
theorem ml_X6_185 : Cond.methodLink RX6 185 yX0_begin ∈ k_KT := k_t3 45 (by rfl) rfl
theorem im_X0_begin : Cond.instanceMethod yX0_begin ∈ k_KT := k_t3 46 (by rfl) rfl
theorem se_X0_begin : Cond.selects RX0 yX0_begin yX0_begin ∈ k_KT := k_t3 47 (by rfl) rfl
theorem co_X0_begin : Cond.code yX0_begin cX0_begin 2 none ∈ k_KT := k_t3 48 (by rfl) rfl
theorem ml_X0_22 : Cond.methodLink RX0 22 yX4_become ∈ k_KT := k_t3 49 (by rfl) rfl
theorem ml_X6_188 : Cond.methodLink RX6 188 yX0_goTo ∈ k_KT := k_t3 50 (by rfl) rfl
theorem im_X0_goTo : Cond.instanceMethod yX0_goTo ∈ k_KT := k_t3 51 (by rfl) rfl
theorem se_X0_goTo : Cond.selects RX0 yX0_goTo yX0_goTo ∈ k_KT := k_t3 52 (by rfl) rfl
theorem co_X0_goTo : Cond.code yX0_goTo cX0_goTo 3 none ∈ k_KT := k_t3 53 (by rfl) rfl
theorem ml_X0_46 : Cond.methodLink RX0 46 yX0_isOver ∈ k_KT := k_t3 54 (by rfl) rfl
theorem im_X0_isOver : Cond.instanceMethod yX0_isOver ∈ k_KT := k_t3 56 (by rfl) rfl
theorem co_X0_isOver : Cond.code yX0_isOver cX0_isOver 1 (some .boolean) ∈ k_KT := k_t3 57 (by rfl) rfl
theorem ml_X0_66 : Cond.methodLink RX0 66 yX2_areAllWarm ∈ k_KT := k_t3 58 (by rfl) rfl
theorem im_X2_areAllWarm : Cond.instanceMethod yX2_areAllWarm ∈ k_KT := k_t3 59 (by rfl) rfl
theorem se_X2_areAllWarm : Cond.selects RX2 yX2_areAllWarm yX2_areAllWarm ∈ k_KT := k_t3 60 (by rfl) rfl
theorem co_X2_areAllWarm : Cond.code yX2_areAllWarm cX2_areAllWarm 2 (some .boolean) ∈ k_KT := k_t3 61 (by rfl) rfl
theorem ml_X2_134 : Cond.methodLink RX2 134 yX2_warmOnes ∈ k_KT := k_t3 62 (by rfl) rfl
theorem im_X2_warmOnes : Cond.instanceMethod yX2_warmOnes ∈ k_KT := k_t3 63 (by rfl) rfl
theorem se_X2_warmOnes : Cond.selects RX2 yX2_warmOnes yX2_warmOnes ∈ k_KT := k_t3 64 (by rfl) rfl
theorem co_X2_warmOnes : Cond.code yX2_warmOnes cX2_warmOnes 4 (some .int) ∈ k_KT := k_t3 65 (by rfl) rfl
theorem ml_X2_130 : Cond.methodLink RX2 130 yX2_isWarm ∈ k_KT := k_t3 66 (by rfl) rfl
theorem ml_X0_50 : Cond.methodLink RX0 50 yX0_gatherToday ∈ k_KT := k_t3 67 (by rfl) rfl
theorem im_X0_gatherToday : Cond.instanceMethod yX0_gatherToday ∈ k_KT := k_t3 69 (by rfl) rfl
theorem co_X0_gatherToday : Cond.code yX0_gatherToday cX0_gatherToday 3 none ∈ k_KT := k_t3 70 (by rfl) rfl
theorem ml_X0_93 : Cond.methodLink RX0 93 yX2_isWarm ∈ k_KT := k_t3 71 (by rfl) rfl
theorem ml_X0_97 : Cond.methodLink RX0 97 yX2_canTake ∈ k_KT := k_t3 72 (by rfl) rfl
theorem ml_X0_101 : Cond.methodLink RX0 101 yX2_weight ∈ k_KT := k_t3 73 (by rfl) rfl
theorem ml_X0_104 : Cond.methodLink RX0 104 yX4_pick ∈ k_KT := k_t3 74 (by rfl) rfl
theorem ml_X0_56 : Cond.methodLink RX0 56 yX4_goBy ∈ k_KT := k_t3 75 (by rfl) rfl
theorem ml_X6_194 : Cond.methodLink RX6 194 yX2_warmOnes ∈ k_KT := k_t3 76 (by rfl) rfl
theorem ml_L_68 : Cond.methodLink RL 68 yX6_allWarm ∈ k_KT := k_t3 77 (by rfl) rfl
theorem im_X6_allWarm : Cond.instanceMethod yX6_allWarm ∈ k_KT := k_t3 78 (by rfl) rfl
theorem se_X6_allWarm : Cond.selects RX6 yX6_allWarm yX6_allWarm ∈ k_KT := k_t3 79 (by rfl) rfl
theorem co_X6_allWarm : Cond.code yX6_allWarm cX6_allWarm 1 (some .int) ∈ k_KT := k_t3 80 (by rfl) rfl
theorem ml_X6_198 : Cond.methodLink RX6 198 yX0_firstDayAllWarm ∈ k_KT := k_t3 81 (by rfl) rfl
theorem im_X0_firstDayAllWarm : Cond.instanceMethod yX0_firstDayAllWarm ∈ k_KT := k_t3 82 (by rfl) rfl
theorem se_X0_firstDayAllWarm : Cond.selects RX0 yX0_firstDayAllWarm yX0_firstDayAllWarm ∈ k_KT := k_t3 83 (by rfl) rfl
theorem co_X0_firstDayAllWarm : Cond.code yX0_firstDayAllWarm cX0_firstDayAllWarm 2 (some .int) ∈ k_KT := k_t3 84 (by rfl) rfl
theorem ml_L_72 : Cond.methodLink RL 72 yX6_share ∈ k_KT := k_t3 85 (by rfl) rfl
theorem im_X6_share : Cond.instanceMethod yX6_share ∈ k_KT := k_t3 86 (by rfl) rfl
theorem se_X6_share : Cond.selects RX6 yX6_share yX6_share ∈ k_KT := k_t3 87 (by rfl) rfl
theorem co_X6_share : Cond.code yX6_share cX6_share 2 (some .int) ∈ k_KT := k_t3 88 (by rfl) rfl
theorem ml_X6_201 : Cond.methodLink RX6 201 yX1_find ∈ k_KT := k_t3 89 (by rfl) rfl
theorem im_X1_find : Cond.instanceMethod yX1_find ∈ k_KT := k_t3 90 (by rfl) rfl
theorem se_X1_find : Cond.selects RX1 yX1_find yX1_find ∈ k_KT := k_t3 91 (by rfl) rfl
theorem co_X1_find : Cond.code yX1_find cX1_find 4 none ∈ k_KT := k_t3 92 (by rfl) rfl
theorem ml_X1_31 : Cond.methodLink RX1 31 yX2_hasTenant ∈ k_KT := k_t3 93 (by rfl) rfl
theorem ml_X1_37 : Cond.methodLink RX1 37 yX2_strength ∈ k_KT := k_t3 94 (by rfl) rfl
theorem ml_X1_41 : Cond.methodLink RX1 41 yX4_carried ∈ k_KT := k_t3 95 (by rfl) rfl
theorem ml_X1_46 : Cond.methodLink RX1 46 yX2_hasBough ∈ k_KT := k_t3 96 (by rfl) rfl
theorem ml_X1_49 : Cond.methodLink RX1 49 yX1_takersOf ∈ k_KT := k_t3 97 (by rfl) rfl
theorem im_X1_takersOf : Cond.instanceMethod yX1_takersOf ∈ k_KT := k_t3 99 (by rfl) rfl
theorem co_X1_takersOf : Cond.code yX1_takersOf cX1_takersOf 5 (some .int) ∈ k_KT := k_t3 100 (by rfl) rfl
theorem ml_X1_67 : Cond.methodLink RX1 67 yX2_canTake ∈ k_KT := k_t3 101 (by rfl) rfl
theorem ml_X1_53 : Cond.methodLink RX1 53 yX2_weight ∈ k_KT := k_t3 102 (by rfl) rfl
theorem ml_X1_60 : Cond.methodLink RX1 60 yX1_deal ∈ k_KT := k_t3 103 (by rfl) rfl
theorem st_X1_deal : Cond.static yX1_deal ∈ k_KT := k_t3 104 (by rfl) rfl
theorem co_X1_deal : Cond.code yX1_deal cX1_deal 6 none ∈ k_KT := k_t3 105 (by rfl) rfl
theorem ml_X1_71 : Cond.methodLink RX1 71 yX1_keepIfBetter ∈ k_KT := k_t3 106 (by rfl) rfl
theorem im_X1_keepIfBetter : Cond.instanceMethod yX1_keepIfBetter ∈ k_KT := k_t3 108 (by rfl) rfl
theorem co_X1_keepIfBetter : Cond.code yX1_keepIfBetter cX1_keepIfBetter 2 none ∈ k_KT := k_t3 109 (by rfl) rfl
theorem ml_X1_81 : Cond.methodLink RX1 81 arraycopyName ∈ k_KT := k_t3 110 (by rfl) rfl
theorem ml_X1_75 : Cond.methodLink RX1 75 Lib.Math.min.name ∈ k_KT := k_t3 111 (by rfl) rfl
theorem st_mmin : Cond.static Lib.Math.min.name ∈ k_KT := k_t3 112 (by rfl) rfl
theorem co_mmin : Cond.code Lib.Math.min.name Lib.Math.min.code 2 (some .int) ∈ k_KT := k_t3 113 (by rfl) rfl
theorem ml_X6_207 : Cond.methodLink RX6 207 yX1_whoHas ∈ k_KT := k_t3 114 (by rfl) rfl
theorem im_X1_whoHas : Cond.instanceMethod yX1_whoHas ∈ k_KT := k_t3 115 (by rfl) rfl
theorem se_X1_whoHas : Cond.selects RX1 yX1_whoHas yX1_whoHas ∈ k_KT := k_t3 116 (by rfl) rfl
theorem co_X1_whoHas : Cond.code yX1_whoHas cX1_whoHas 2 (some .int) ∈ k_KT := k_t3 117 (by rfl) rfl
theorem ml_L_76 : Cond.methodLink RL 76 yX6_leastHook ∈ k_KT := k_t3 118 (by rfl) rfl
theorem im_X6_leastHook : Cond.instanceMethod yX6_leastHook ∈ k_KT := k_t3 119 (by rfl) rfl
theorem se_X6_leastHook : Cond.selects RX6 yX6_leastHook yX6_leastHook ∈ k_KT := k_t3 120 (by rfl) rfl
theorem co_X6_leastHook : Cond.code yX6_leastHook cX6_leastHook 3 (some .int) ∈ k_KT := k_t3 121 (by rfl) rfl
theorem ml_L_80 : Cond.methodLink RL 80 yX6_pole ∈ k_KT := k_t3 122 (by rfl) rfl
theorem im_X6_pole : Cond.instanceMethod yX6_pole ∈ k_KT := k_t3 123 (by rfl) rfl
theorem se_X6_pole : Cond.selects RX6 yX6_pole yX6_pole ∈ k_KT := k_t3 124 (by rfl) rfl
theorem co_X6_pole : Cond.code yX6_pole cX6_pole 2 (some .int) ∈ k_KT := k_t3 125 (by rfl) rfl
theorem ml_X6_210 : Cond.methodLink RX6 210 yX0_shortenHooks ∈ k_KT := k_t3 126 (by rfl) rfl
theorem im_X0_shortenHooks : Cond.instanceMethod yX0_shortenHooks ∈ k_KT := k_t3 127 (by rfl) rfl
theorem se_X0_shortenHooks : Cond.selects RX0 yX0_shortenHooks yX0_shortenHooks ∈ k_KT := k_t3 128 (by rfl) rfl
theorem co_X0_shortenHooks : Cond.code yX0_shortenHooks cX0_shortenHooks 3 none ∈ k_KT := k_t3 129 (by rfl) rfl
theorem ml_X0_32 : Cond.methodLink RX0 32 yX4_reach ∈ k_KT := k_t3 130 (by rfl) rfl
theorem ml_X0_36 : Cond.methodLink RX0 36 Lib.Math.min.name ∈ k_KT := k_t3 131 (by rfl) rfl
theorem ml_X0_42 : Cond.methodLink RX0 42 yX4_setReach ∈ k_KT := k_t3 132 (by rfl) rfl
theorem ml_X6_213 : Cond.methodLink RX6 213 yX2_areAllWarm ∈ k_KT := k_t3 133 (by rfl) rfl
theorem ml_L_84 : Cond.methodLink RL 84 yX6_firstDay ∈ k_KT := k_t3 134 (by rfl) rfl
theorem im_X6_firstDay : Cond.instanceMethod yX6_firstDay ∈ k_KT := k_t3 135 (by rfl) rfl
theorem se_X6_firstDay : Cond.selects RX6 yX6_firstDay yX6_firstDay ∈ k_KT := k_t3 136 (by rfl) rfl
theorem co_X6_firstDay : Cond.code yX6_firstDay cX6_firstDay 3 (some .int) ∈ k_KT := k_t3 137 (by rfl) rfl
theorem ml_X6_217 : Cond.methodLink RX6 217 yX2_firstDayFor ∈ k_KT := k_t3 138 (by rfl) rfl
theorem im_X2_firstDayFor : Cond.instanceMethod yX2_firstDayFor ∈ k_KT := k_t3 139 (by rfl) rfl
theorem se_X2_firstDayFor : Cond.selects RX2 yX2_firstDayFor yX2_firstDayFor ∈ k_KT := k_t3 140 (by rfl) rfl
theorem co_X2_firstDayFor : Cond.code yX2_firstDayFor cX2_firstDayFor 5 (some .int) ∈ k_KT := k_t3 141 (by rfl) rfl
theorem ml_L_88 : Cond.methodLink RL 88 yX6_sticks ∈ k_KT := k_t3 142 (by rfl) rfl
theorem im_X6_sticks : Cond.instanceMethod yX6_sticks ∈ k_KT := k_t3 143 (by rfl) rfl
theorem se_X6_sticks : Cond.selects RX6 yX6_sticks yX6_sticks ∈ k_KT := k_t3 144 (by rfl) rfl
theorem co_X6_sticks : Cond.code yX6_sticks cX6_sticks 6 (some .int) ∈ k_KT := k_t3 145 (by rfl) rfl
theorem ml_X6_224 : Cond.methodLink RX6 224 yX2_weightOf ∈ k_KT := k_t3 146 (by rfl) rfl
theorem im_X2_weightOf : Cond.instanceMethod yX2_weightOf ∈ k_KT := k_t3 147 (by rfl) rfl
theorem se_X2_weightOf : Cond.selects RX2 yX2_weightOf yX2_weightOf ∈ k_KT := k_t3 148 (by rfl) rfl
theorem co_X2_weightOf : Cond.code yX2_weightOf cX2_weightOf 4 (some .int) ∈ k_KT := k_t3 149 (by rfl) rfl
theorem ml_L_92 : Cond.methodLink RL 92 yX6_whose ∈ k_KT := k_t3 150 (by rfl) rfl
theorem im_X6_whose : Cond.instanceMethod yX6_whose ∈ k_KT := k_t3 151 (by rfl) rfl
theorem se_X6_whose : Cond.selects RX6 yX6_whose yX6_whose ∈ k_KT := k_t3 152 (by rfl) rfl
theorem co_X6_whose : Cond.code yX6_whose cX6_whose 5 (some .int) ∈ k_KT := k_t3 153 (by rfl) rfl
theorem ml_X6_230 : Cond.methodLink RX6 230 yX2_couldTake ∈ k_KT := k_t3 154 (by rfl) rfl
theorem ml_L_96 : Cond.methodLink RL 96 yX6_sure ∈ k_KT := k_t3 155 (by rfl) rfl
theorem im_X6_sure : Cond.instanceMethod yX6_sure ∈ k_KT := k_t3 156 (by rfl) rfl
theorem se_X6_sure : Cond.selects RX6 yX6_sure yX6_sure ∈ k_KT := k_t3 157 (by rfl) rfl
theorem co_X6_sure : Cond.code yX6_sure cX6_sure 9 (some .int) ∈ k_KT := k_t3 158 (by rfl) rfl
theorem ml_X6_237 : Cond.methodLink RX6 237 yX6_commonWithTen ∈ k_KT := k_t3 159 (by rfl) rfl
theorem st_X6_commonWithTen : Cond.static yX6_commonWithTen ∈ k_KT := k_t3 160 (by rfl) rfl
theorem co_X6_commonWithTen : Cond.code yX6_commonWithTen cX6_commonWithTen 2 (some .int) ∈ k_KT := k_t3 161 (by rfl) rfl
theorem ml_L_101 : Cond.methodLink RL 101 yX6_waste ∈ k_KT := k_t3 162 (by rfl) rfl
theorem im_X6_waste : Cond.instanceMethod yX6_waste ∈ k_KT := k_t3 163 (by rfl) rfl
theorem se_X6_waste : Cond.selects RX6 yX6_waste yX6_waste ∈ k_KT := k_t3 164 (by rfl) rfl
theorem co_X6_waste : Cond.code yX6_waste cX6_waste 3 (some .int) ∈ k_KT := k_t3 165 (by rfl) rfl
theorem ml_X6_240 : Cond.methodLink RX6 240 yX2_nobodyEverTakes ∈ k_KT := k_t3 166 (by rfl) rfl
theorem im_X2_nobodyEverTakes : Cond.instanceMethod yX2_nobodyEverTakes ∈ k_KT := k_t3 167 (by rfl) rfl
theorem se_X2_nobodyEverTakes : Cond.selects RX2 yX2_nobodyEverTakes yX2_nobodyEverTakes ∈ k_KT := k_t3 168 (by rfl) rfl
theorem co_X2_nobodyEverTakes : Cond.code yX2_nobodyEverTakes cX2_nobodyEverTakes 4 (some .boolean) ∈ k_KT := k_t3 169 (by rfl) rfl
theorem ml_X2_138 : Cond.methodLink RX2 138 yX2_firstDayFor ∈ k_KT := k_t3 170 (by rfl) rfl
theorem ml_L_105 : Cond.methodLink RL 105 yX6_needs ∈ k_KT := k_t3 171 (by rfl) rfl
theorem im_X6_needs : Cond.instanceMethod yX6_needs ∈ k_KT := k_t3 172 (by rfl) rfl
theorem se_X6_needs : Cond.selects RX6 yX6_needs yX6_needs ∈ k_KT := k_t3 173 (by rfl) rfl
theorem co_X6_needs : Cond.code yX6_needs cX6_needs 3 (some .int) ∈ k_KT := k_t3 174 (by rfl) rfl
theorem ml_X6_243 : Cond.methodLink RX6 243 Lib.Math.max.name ∈ k_KT := k_t3 175 (by rfl) rfl
theorem ml_L_109 : Cond.methodLink RL 109 yX6_storm ∈ k_KT := k_t3 176 (by rfl) rfl
theorem im_X6_storm : Cond.instanceMethod yX6_storm ∈ k_KT := k_t3 177 (by rfl) rfl
theorem se_X6_storm : Cond.selects RX6 yX6_storm yX6_storm ∈ k_KT := k_t3 178 (by rfl) rfl
theorem co_X6_storm : Cond.code yX6_storm cX6_storm 4 (some .int) ∈ k_KT := k_t3 179 (by rfl) rfl
theorem ml_X6_249 : Cond.methodLink RX6 249 yX0_goThroughStorm ∈ k_KT := k_t3 180 (by rfl) rfl
theorem im_X0_goThroughStorm : Cond.instanceMethod yX0_goThroughStorm ∈ k_KT := k_t3 181 (by rfl) rfl
theorem se_X0_goThroughStorm : Cond.selects RX0 yX0_goThroughStorm yX0_goThroughStorm ∈ k_KT := k_t3 182 (by rfl) rfl
theorem co_X0_goThroughStorm : Cond.code yX0_goThroughStorm cX0_goThroughStorm 4 none ∈ k_KT := k_t3 183 (by rfl) rfl
theorem ml_X0_70 : Cond.methodLink RX0 70 yX0_draw ∈ k_KT := k_t3 184 (by rfl) rfl
theorem st_X0_draw : Cond.static yX0_draw ∈ k_KT := k_t3 185 (by rfl) rfl
theorem co_X0_draw : Cond.code yX0_draw cX0_draw 4 (some .int) ∈ k_KT := k_t3 186 (by rfl) rfl
theorem kl_X0_76 : Cond.constantLong RX0 76 7919 ∈ k_KT := k_t3 187 (by rfl) rfl
theorem kl_X0_78 : Cond.constantLong RX0 78 6151 ∈ k_KT := k_t3 188 (by rfl) rfl
theorem kl_X0_80 : Cond.constantLong RX0 80 65521 ∈ k_KT := k_t3 189 (by rfl) rfl
theorem kl_X0_82 : Cond.constantLong RX0 82 2 ∈ k_KT := k_t3 190 (by rfl) rfl
theorem ml_X0_73 : Cond.methodLink RX0 73 yX0_blow ∈ k_KT := k_t3 191 (by rfl) rfl
theorem im_X0_blow : Cond.instanceMethod yX0_blow ∈ k_KT := k_t3 193 (by rfl) rfl
theorem co_X0_blow : Cond.code yX0_blow cX0_blow 3 none ∈ k_KT := k_t3 194 (by rfl) rfl
theorem ml_X0_84 : Cond.methodLink RX0 84 yX4_deadFrom ∈ k_KT := k_t3 195 (by rfl) rfl
theorem ml_X0_90 : Cond.methodLink RX0 90 yX4_setDeadFrom ∈ k_KT := k_t3 196 (by rfl) rfl
theorem ml_L_114 : Cond.methodLink RL 114 yX6_keep ∈ k_KT := k_t3 197 (by rfl) rfl
theorem im_X6_keep : Cond.instanceMethod yX6_keep ∈ k_KT := k_t3 198 (by rfl) rfl
theorem se_X6_keep : Cond.selects RX6 yX6_keep yX6_keep ∈ k_KT := k_t3 199 (by rfl) rfl
theorem co_X6_keep : Cond.code yX6_keep cX6_keep 1 (some .int) ∈ k_KT := k_t3 200 (by rfl) rfl
theorem ml_X6_252 : Cond.methodLink RX6 252 yX3_isFull ∈ k_KT := k_t3 201 (by rfl) rfl
theorem ml_L_118 : Cond.methodLink RL 118 yX6_back ∈ k_KT := k_t3 202 (by rfl) rfl
theorem im_X6_back : Cond.instanceMethod yX6_back ∈ k_KT := k_t3 203 (by rfl) rfl
theorem se_X6_back : Cond.selects RX6 yX6_back yX6_back ∈ k_KT := k_t3 204 (by rfl) rfl
theorem co_X6_back : Cond.code yX6_back cX6_back 1 (some .int) ∈ k_KT := k_t3 205 (by rfl) rfl
theorem ml_L_122 : Cond.methodLink RL 122 yX6_count ∈ k_KT := k_t3 206 (by rfl) rfl
theorem im_X6_count : Cond.instanceMethod yX6_count ∈ k_KT := k_t3 207 (by rfl) rfl
theorem se_X6_count : Cond.selects RX6 yX6_count yX6_count ∈ k_KT := k_t3 208 (by rfl) rfl
theorem co_X6_count : Cond.code yX6_count cX6_count 2 (some .int) ∈ k_KT := k_t3 209 (by rfl) rfl
theorem ml_X6_259 : Cond.methodLink RX6 259 yJ6_bitCount_0f7a4 ∈ k_KT := k_t3 210 (by rfl) rfl
theorem st_J6_bitCount_0f7a4 : Cond.static yJ6_bitCount_0f7a4 ∈ k_KT := k_t3 211 (by rfl) rfl
theorem co_J6_bitCount_0f7a4 : Cond.code yJ6_bitCount_0f7a4 cJ6_bitCount_0f7a4 1 (some .int) ∈ k_KT := k_t3 212 (by rfl) rfl
theorem kc_J6_265 : Cond.constant RJ6 265 1431655765 ∈ k_KT := k_t3 213 (by rfl) rfl
theorem kc_J6_266 : Cond.constant RJ6 266 858993459 ∈ k_KT := k_t3 214 (by rfl) rfl
theorem kc_J6_267 : Cond.constant RJ6 267 252645135 ∈ k_KT := k_t3 215 (by rfl) rfl
theorem cl_L_10 : Cond.classLink RL 10 RX7 ∈ k_KT := k_t3 216 (by rfl) rfl
theorem is_X7 : Cond.instantiable RX7 14 ∈ k_KT := k_t3 217 (by rfl) rfl
theorem ml_L_12 : Cond.methodLink RL 12 yX7_init ∈ k_KT := k_t3 218 (by rfl) rfl
theorem im_X7_init : Cond.instanceMethod yX7_init ∈ k_KT := k_t3 219 (by rfl) rfl
theorem co_X7_init : Cond.code yX7_init cX7_init 1 none ∈ k_KT := k_t3 220 (by rfl) rfl
theorem ml_X7_1 : Cond.methodLink RX7 1 objectInit ∈ k_KT := k_t3 221 (by rfl) rfl
theorem ml_X7_40 : Cond.methodLink RX7 40 yX7_begins ∈ k_KT := k_t3 222 (by rfl) rfl
theorem im_X7_begins : Cond.instanceMethod yX7_begins ∈ k_KT := k_t3 224 (by rfl) rfl
theorem co_X7_begins : Cond.code yX7_begins cX7_begins 2 none ∈ k_KT := k_t3 225 (by rfl) rfl
theorem ml_X7_43 : Cond.methodLink RX7 43 yX7_boughOf ∈ k_KT := k_t3 226 (by rfl) rfl
theorem im_X7_boughOf : Cond.instanceMethod yX7_boughOf ∈ k_KT := k_t3 228 (by rfl) rfl
theorem co_X7_boughOf : Cond.code yX7_boughOf cX7_boughOf 6 none ∈ k_KT := k_t3 229 (by rfl) rfl
theorem ml_X7_47 : Cond.methodLink RX7 47 yX7_tenantOf ∈ k_KT := k_t3 230 (by rfl) rfl
theorem im_X7_tenantOf : Cond.instanceMethod yX7_tenantOf ∈ k_KT := k_t3 232 (by rfl) rfl
theorem co_X7_tenantOf : Cond.code yX7_tenantOf cX7_tenantOf 5 none ∈ k_KT := k_t3 233 (by rfl) rfl
theorem ml_X7_51 : Cond.methodLink RX7 51 yX7_lays ∈ k_KT := k_t3 234 (by rfl) rfl
theorem im_X7_lays : Cond.instanceMethod yX7_lays ∈ k_KT := k_t3 236 (by rfl) rfl
theorem co_X7_lays : Cond.code yX7_lays cX7_lays 2 none ∈ k_KT := k_t3 237 (by rfl) rfl
theorem fl_X7_7 : Cond.fieldLink RX7 7 "HookOrCrookModel" "text" "[I" ∈ k_KT := k_t3 238 (by rfl) rfl
theorem fl_X7_58 : Cond.fieldLink RX7 58 "HookOrCrookModel" "typed" "I" ∈ k_KT := k_t3 239 (by rfl) rfl
theorem fl_X7_13 : Cond.fieldLink RX7 13 "HookOrCrookModel" "told" "[I" ∈ k_KT := k_t4 0 (by rfl) rfl
theorem fl_X7_16 : Cond.fieldLink RX7 16 "HookOrCrookModel" "draft" "[I" ∈ k_KT := k_t4 1 (by rfl) rfl
theorem fl_X7_19 : Cond.fieldLink RX7 19 "HookOrCrookModel" "begun" "[I" ∈ k_KT := k_t4 2 (by rfl) rfl
theorem fl_X7_22 : Cond.fieldLink RX7 22 "HookOrCrookModel" "s" "[I" ∈ k_KT := k_t4 3 (by rfl) rfl
theorem fl_X7_25 : Cond.fieldLink RX7 25 "HookOrCrookModel" "past" "[I" ∈ k_KT := k_t4 4 (by rfl) rfl
theorem fl_X7_84 : Cond.fieldLink RX7 84 "HookOrCrookModel" "known" "I" ∈ k_KT := k_t4 5 (by rfl) rfl
theorem fl_X7_28 : Cond.fieldLink RX7 28 "HookOrCrookModel" "images" "[I" ∈ k_KT := k_t4 6 (by rfl) rfl
theorem fl_X7_87 : Cond.fieldLink RX7 87 "HookOrCrookModel" "kept" "I" ∈ k_KT := k_t4 7 (by rfl) rfl
theorem fl_X7_62 : Cond.fieldLink RX7 62 "HookOrCrookModel" "at" "I" ∈ k_KT := k_t4 8 (by rfl) rfl
theorem fl_X7_31 : Cond.fieldLink RX7 31 "HookOrCrookModel" "held" "[I" ∈ k_KT := k_t4 9 (by rfl) rfl
theorem fl_X7_34 : Cond.fieldLink RX7 34 "HookOrCrookModel" "load" "[I" ∈ k_KT := k_t4 10 (by rfl) rfl
theorem fl_X7_37 : Cond.fieldLink RX7 37 "HookOrCrookModel" "shared" "[I" ∈ k_KT := k_t4 11 (by rfl) rfl
theorem la_7_0 : Cond.laysFinal "HookOrCrookModel" "HookOrCrookModel" "text" "[I" ∈ k_KT := k_t4 12 (by rfl) rfl
theorem la_7_1 : Cond.lays "HookOrCrookModel" "HookOrCrookModel" "typed" "I" ∈ k_KT := k_t4 14 (by rfl) rfl
theorem la_7_2 : Cond.laysFinal "HookOrCrookModel" "HookOrCrookModel" "told" "[I" ∈ k_KT := k_t4 16 (by rfl) rfl
theorem la_7_3 : Cond.laysFinal "HookOrCrookModel" "HookOrCrookModel" "draft" "[I" ∈ k_KT := k_t4 18 (by rfl) rfl
theorem la_7_4 : Cond.laysFinal "HookOrCrookModel" "HookOrCrookModel" "begun" "[I" ∈ k_KT := k_t4 20 (by rfl) rfl
theorem la_7_5 : Cond.laysFinal "HookOrCrookModel" "HookOrCrookModel" "s" "[I" ∈ k_KT := k_t4 22 (by rfl) rfl
theorem la_7_6 : Cond.laysFinal "HookOrCrookModel" "HookOrCrookModel" "past" "[I" ∈ k_KT := k_t4 24 (by rfl) rfl
theorem la_7_7 : Cond.lays "HookOrCrookModel" "HookOrCrookModel" "known" "I" ∈ k_KT := k_t4 26 (by rfl) rfl
theorem la_7_8 : Cond.laysFinal "HookOrCrookModel" "HookOrCrookModel" "images" "[I" ∈ k_KT := k_t4 28 (by rfl) rfl
theorem la_7_9 : Cond.lays "HookOrCrookModel" "HookOrCrookModel" "kept" "I" ∈ k_KT := k_t4 30 (by rfl) rfl
theorem la_7_10 : Cond.lays "HookOrCrookModel" "HookOrCrookModel" "at" "I" ∈ k_KT := k_t4 32 (by rfl) rfl
theorem la_7_11 : Cond.laysFinal "HookOrCrookModel" "HookOrCrookModel" "held" "[I" ∈ k_KT := k_t4 34 (by rfl) rfl
theorem la_7_12 : Cond.laysFinal "HookOrCrookModel" "HookOrCrookModel" "load" "[I" ∈ k_KT := k_t4 36 (by rfl) rfl
theorem la_7_13 : Cond.laysFinal "HookOrCrookModel" "HookOrCrookModel" "shared" "[I" ∈ k_KT := k_t4 38 (by rfl) rfl
theorem ml_L_17 : Cond.methodLink RL 17 yX7_write ∈ k_KT := k_t4 41 (by rfl) rfl
theorem im_X7_write : Cond.instanceMethod yX7_write ∈ k_KT := k_t4 42 (by rfl) rfl
theorem se_X7_write : Cond.selects RX7 yX7_write yX7_write ∈ k_KT := k_t4 43 (by rfl) rfl
theorem co_X7_write : Cond.code yX7_write cX7_write 2 (some .int) ∈ k_KT := k_t4 44 (by rfl) rfl
theorem ml_X7_54 : Cond.methodLink RX7 54 yX7_in ∈ k_KT := k_t4 45 (by rfl) rfl
theorem st_X7_in : Cond.static yX7_in ∈ k_KT := k_t4 46 (by rfl) rfl
theorem co_X7_in : Cond.code yX7_in cX7_in 3 (some .boolean) ∈ k_KT := k_t4 47 (by rfl) rfl
theorem ml_L_22 : Cond.methodLink RL 22 yX7_wipe ∈ k_KT := k_t4 48 (by rfl) rfl
theorem im_X7_wipe : Cond.instanceMethod yX7_wipe ∈ k_KT := k_t4 49 (by rfl) rfl
theorem se_X7_wipe : Cond.selects RX7 yX7_wipe yX7_wipe ∈ k_KT := k_t4 50 (by rfl) rfl
theorem co_X7_wipe : Cond.code yX7_wipe cX7_wipe 2 (some .int) ∈ k_KT := k_t4 51 (by rfl) rfl
theorem ml_L_26 : Cond.methodLink RL 26 yX7_fault ∈ k_KT := k_t4 52 (by rfl) rfl
theorem im_X7_fault : Cond.instanceMethod yX7_fault ∈ k_KT := k_t4 53 (by rfl) rfl
theorem se_X7_fault : Cond.selects RX7 yX7_fault yX7_fault ∈ k_KT := k_t4 54 (by rfl) rfl
theorem co_X7_fault : Cond.code yX7_fault cX7_fault 1 (some .int) ∈ k_KT := k_t4 55 (by rfl) rfl
theorem ml_X7_80 : Cond.methodLink RX7 80 yX7_readsAll ∈ k_KT := k_t4 56 (by rfl) rfl
theorem im_X7_readsAll : Cond.instanceMethod yX7_readsAll ∈ k_KT := k_t4 58 (by rfl) rfl
theorem co_X7_readsAll : Cond.code yX7_readsAll cX7_readsAll 2 (some .int) ∈ k_KT := k_t4 59 (by rfl) rfl
theorem ml_X7_77 : Cond.methodLink RX7 77 yX7_readsItem ∈ k_KT := k_t4 60 (by rfl) rfl
theorem im_X7_readsItem : Cond.instanceMethod yX7_readsItem ∈ k_KT := k_t4 62 (by rfl) rfl
theorem co_X7_readsItem : Cond.code yX7_readsItem cX7_readsItem 6 (some .boolean) ∈ k_KT := k_t4 63 (by rfl) rfl
theorem ml_X7_73 : Cond.methodLink RX7 73 yX7_number ∈ k_KT := k_t4 64 (by rfl) rfl
theorem im_X7_number : Cond.instanceMethod yX7_number ∈ k_KT := k_t4 66 (by rfl) rfl
theorem co_X7_number : Cond.code yX7_number cX7_number 6 (some .int) ∈ k_KT := k_t4 67 (by rfl) rfl
theorem ml_X7_65 : Cond.methodLink RX7 65 yX7_letterAt ∈ k_KT := k_t4 68 (by rfl) rfl
theorem im_X7_letterAt : Cond.instanceMethod yX7_letterAt ∈ k_KT := k_t4 70 (by rfl) rfl
theorem co_X7_letterAt : Cond.code yX7_letterAt cX7_letterAt 2 (some .int) ∈ k_KT := k_t4 71 (by rfl) rfl
theorem ml_X7_69 : Cond.methodLink RX7 69 yX7_isFigure ∈ k_KT := k_t4 72 (by rfl) rfl
theorem st_X7_isFigure : Cond.static yX7_isFigure ∈ k_KT := k_t4 73 (by rfl) rfl
theorem co_X7_isFigure : Cond.code yX7_isFigure cX7_isFigure 1 (some .boolean) ∈ k_KT := k_t4 74 (by rfl) rfl
theorem ml_L_30 : Cond.methodLink RL 30 yX7_lay ∈ k_KT := k_t4 75 (by rfl) rfl
theorem im_X7_lay : Cond.instanceMethod yX7_lay ∈ k_KT := k_t4 76 (by rfl) rfl
theorem se_X7_lay : Cond.selects RX7 yX7_lay yX7_lay ∈ k_KT := k_t4 77 (by rfl) rfl
theorem co_X7_lay : Cond.code yX7_lay cX7_lay 1 (some .int) ∈ k_KT := k_t4 78 (by rfl) rfl
theorem ml_L_35 : Cond.methodLink RL 35 yX7_bough ∈ k_KT := k_t4 79 (by rfl) rfl
theorem im_X7_bough : Cond.instanceMethod yX7_bough ∈ k_KT := k_t4 80 (by rfl) rfl
theorem se_X7_bough : Cond.selects RX7 yX7_bough yX7_bough ∈ k_KT := k_t4 81 (by rfl) rfl
theorem co_X7_bough : Cond.code yX7_bough cX7_bough 3 (some .int) ∈ k_KT := k_t4 82 (by rfl) rfl
theorem ml_X7_90 : Cond.methodLink RX7 90 yX7_isBough ∈ k_KT := k_t4 83 (by rfl) rfl
theorem im_X7_isBough : Cond.instanceMethod yX7_isBough ∈ k_KT := k_t4 85 (by rfl) rfl
theorem co_X7_isBough : Cond.code yX7_isBough cX7_isBough 2 (some .boolean) ∈ k_KT := k_t4 86 (by rfl) rfl
theorem ml_X7_93 : Cond.methodLink RX7 93 yX7_isDead ∈ k_KT := k_t4 87 (by rfl) rfl
theorem im_X7_isDead : Cond.instanceMethod yX7_isDead ∈ k_KT := k_t4 89 (by rfl) rfl
theorem co_X7_isDead : Cond.code yX7_isDead cX7_isDead 3 (some .boolean) ∈ k_KT := k_t4 90 (by rfl) rfl
theorem ml_X7_97 : Cond.methodLink RX7 97 yX7_isFallen ∈ k_KT := k_t4 91 (by rfl) rfl
theorem im_X7_isFallen : Cond.instanceMethod yX7_isFallen ∈ k_KT := k_t4 93 (by rfl) rfl
theorem co_X7_isFallen : Cond.code yX7_isFallen cX7_isFallen 3 (some .boolean) ∈ k_KT := k_t4 94 (by rfl) rfl
theorem ml_L_39 : Cond.methodLink RL 39 yX7_tenant ∈ k_KT := k_t4 95 (by rfl) rfl
theorem im_X7_tenant : Cond.instanceMethod yX7_tenant ∈ k_KT := k_t4 96 (by rfl) rfl
theorem se_X7_tenant : Cond.selects RX7 yX7_tenant yX7_tenant ∈ k_KT := k_t4 97 (by rfl) rfl
theorem co_X7_tenant : Cond.code yX7_tenant cX7_tenant 3 (some .int) ∈ k_KT := k_t4 98 (by rfl) rfl
theorem ml_X7_100 : Cond.methodLink RX7 100 yX7_isTenant ∈ k_KT := k_t4 99 (by rfl) rfl
theorem im_X7_isTenant : Cond.instanceMethod yX7_isTenant ∈ k_KT := k_t4 101 (by rfl) rfl
theorem co_X7_isTenant : Cond.code yX7_isTenant cX7_isTenant 2 (some .boolean) ∈ k_KT := k_t4 102 (by rfl) rfl
theorem ml_X7_103 : Cond.methodLink RX7 103 yX7_isWarm ∈ k_KT := k_t4 103 (by rfl) rfl
theorem im_X7_isWarm : Cond.instanceMethod yX7_isWarm ∈ k_KT := k_t4 105 (by rfl) rfl
theorem co_X7_isWarm : Cond.code yX7_isWarm cX7_isWarm 2 (some .boolean) ∈ k_KT := k_t4 106 (by rfl) rfl
theorem ml_L_43 : Cond.methodLink RL 43 yX7_can ∈ k_KT := k_t4 107 (by rfl) rfl
theorem im_X7_can : Cond.instanceMethod yX7_can ∈ k_KT := k_t4 108 (by rfl) rfl
theorem se_X7_can : Cond.selects RX7 yX7_can yX7_can ∈ k_KT := k_t4 109 (by rfl) rfl
theorem co_X7_can : Cond.code yX7_can cX7_can 3 (some .int) ∈ k_KT := k_t4 110 (by rfl) rfl
theorem ml_X7_110 : Cond.methodLink RX7 110 yX7_canNow ∈ k_KT := k_t4 111 (by rfl) rfl
theorem im_X7_canNow : Cond.instanceMethod yX7_canNow ∈ k_KT := k_t4 113 (by rfl) rfl
theorem co_X7_canNow : Cond.code yX7_canNow cX7_canNow 3 (some .boolean) ∈ k_KT := k_t4 114 (by rfl) rfl
theorem ml_X7_106 : Cond.methodLink RX7 106 yX7_could ∈ k_KT := k_t4 115 (by rfl) rfl
theorem im_X7_could : Cond.instanceMethod yX7_could ∈ k_KT := k_t4 117 (by rfl) rfl
theorem co_X7_could : Cond.code yX7_could cX7_could 9 (some .boolean) ∈ k_KT := k_t4 118 (by rfl) rfl
theorem ml_L_47 : Cond.methodLink RL 47 yX7_take ∈ k_KT := k_t4 119 (by rfl) rfl
theorem im_X7_take : Cond.instanceMethod yX7_take ∈ k_KT := k_t4 120 (by rfl) rfl
theorem se_X7_take : Cond.selects RX7 yX7_take yX7_take ∈ k_KT := k_t4 121 (by rfl) rfl
theorem co_X7_take : Cond.code yX7_take cX7_take 4 (some .int) ∈ k_KT := k_t4 122 (by rfl) rfl
theorem ml_X7_113 : Cond.methodLink RX7 113 yX7_keeps ∈ k_KT := k_t4 123 (by rfl) rfl
theorem im_X7_keeps : Cond.instanceMethod yX7_keeps ∈ k_KT := k_t4 125 (by rfl) rfl
theorem co_X7_keeps : Cond.code yX7_keeps cX7_keeps 2 none ∈ k_KT := k_t4 126 (by rfl) rfl
theorem ml_X7_116 : Cond.methodLink RX7 116 yX7_takes ∈ k_KT := k_t4 127 (by rfl) rfl
theorem im_X7_takes : Cond.instanceMethod yX7_takes ∈ k_KT := k_t4 129 (by rfl) rfl
theorem co_X7_takes : Cond.code yX7_takes cX7_takes 3 none ∈ k_KT := k_t4 130 (by rfl) rfl
theorem ml_L_51 : Cond.methodLink RL 51 yX7_pass ∈ k_KT := k_t4 131 (by rfl) rfl
theorem im_X7_pass : Cond.instanceMethod yX7_pass ∈ k_KT := k_t4 132 (by rfl) rfl
theorem se_X7_pass : Cond.selects RX7 yX7_pass yX7_pass ∈ k_KT := k_t4 133 (by rfl) rfl
theorem co_X7_pass : Cond.code yX7_pass cX7_pass 3 (some .int) ∈ k_KT := k_t4 134 (by rfl) rfl
theorem ml_X7_120 : Cond.methodLink RX7 120 yX7_passes ∈ k_KT := k_t4 135 (by rfl) rfl
theorem im_X7_passes : Cond.instanceMethod yX7_passes ∈ k_KT := k_t4 137 (by rfl) rfl
theorem co_X7_passes : Cond.code yX7_passes cX7_passes 2 none ∈ k_KT := k_t4 138 (by rfl) rfl
theorem ml_L_55 : Cond.methodLink RL 55 yX7_hook ∈ k_KT := k_t4 139 (by rfl) rfl
theorem im_X7_hook : Cond.instanceMethod yX7_hook ∈ k_KT := k_t4 140 (by rfl) rfl
theorem se_X7_hook : Cond.selects RX7 yX7_hook yX7_hook ∈ k_KT := k_t4 141 (by rfl) rfl
theorem co_X7_hook : Cond.code yX7_hook cX7_hook 4 (some .int) ∈ k_KT := k_t4 142 (by rfl) rfl
theorem ml_L_59 : Cond.methodLink RL 59 yX7_ring ∈ k_KT := k_t4 143 (by rfl) rfl
theorem im_X7_ring : Cond.instanceMethod yX7_ring ∈ k_KT := k_t4 144 (by rfl) rfl
theorem se_X7_ring : Cond.selects RX7 yX7_ring yX7_ring ∈ k_KT := k_t4 145 (by rfl) rfl
theorem co_X7_ring : Cond.code yX7_ring cX7_ring 3 (some .int) ∈ k_KT := k_t4 146 (by rfl) rfl
theorem ml_L_63 : Cond.methodLink RL 63 yX7_undo ∈ k_KT := k_t4 147 (by rfl) rfl
theorem im_X7_undo : Cond.instanceMethod yX7_undo ∈ k_KT := k_t4 148 (by rfl) rfl
theorem se_X7_undo : Cond.selects RX7 yX7_undo yX7_undo ∈ k_KT := k_t4 149 (by rfl) rfl
theorem co_X7_undo : Cond.code yX7_undo cX7_undo 2 (some .int) ∈ k_KT := k_t4 150 (by rfl) rfl
theorem ml_L_67 : Cond.methodLink RL 67 yX7_warmBy ∈ k_KT := k_t4 151 (by rfl) rfl
theorem im_X7_warmBy : Cond.instanceMethod yX7_warmBy ∈ k_KT := k_t4 152 (by rfl) rfl
theorem se_X7_warmBy : Cond.selects RX7 yX7_warmBy yX7_warmBy ∈ k_KT := k_t4 153 (by rfl) rfl
theorem co_X7_warmBy : Cond.code yX7_warmBy cX7_warmBy 3 (some .int) ∈ k_KT := k_t4 154 (by rfl) rfl
theorem ml_X7_129 : Cond.methodLink RX7 129 yX7_holds ∈ k_KT := k_t4 155 (by rfl) rfl
theorem im_X7_holds : Cond.instanceMethod yX7_holds ∈ k_KT := k_t4 157 (by rfl) rfl
theorem co_X7_holds : Cond.code yX7_holds cX7_holds 2 none ∈ k_KT := k_t4 158 (by rfl) rfl
theorem ml_X7_132 : Cond.methodLink RX7 132 yX7_warmAt ∈ k_KT := k_t4 159 (by rfl) rfl
theorem im_X7_warmAt : Cond.instanceMethod yX7_warmAt ∈ k_KT := k_t4 161 (by rfl) rfl
theorem co_X7_warmAt : Cond.code yX7_warmAt cX7_warmAt 2 (some .int) ∈ k_KT := k_t4 162 (by rfl) rfl
theorem ml_X7_123 : Cond.methodLink RX7 123 yX7_eachTakes ∈ k_KT := k_t4 163 (by rfl) rfl
theorem im_X7_eachTakes : Cond.instanceMethod yX7_eachTakes ∈ k_KT := k_t4 165 (by rfl) rfl
theorem co_X7_eachTakes : Cond.code yX7_eachTakes cX7_eachTakes 3 none ∈ k_KT := k_t4 166 (by rfl) rfl
theorem ml_X7_126 : Cond.methodLink RX7 126 yX7_warm ∈ k_KT := k_t4 167 (by rfl) rfl
theorem im_X7_warm : Cond.instanceMethod yX7_warm ∈ k_KT := k_t4 169 (by rfl) rfl
theorem co_X7_warm : Cond.code yX7_warm cX7_warm 3 (some .int) ∈ k_KT := k_t4 170 (by rfl) rfl
theorem ml_X7_135 : Cond.methodLink RX7 135 yX7_lets ∈ k_KT := k_t4 171 (by rfl) rfl
theorem im_X7_lets : Cond.instanceMethod yX7_lets ∈ k_KT := k_t4 173 (by rfl) rfl
theorem co_X7_lets : Cond.code yX7_lets cX7_lets 2 none ∈ k_KT := k_t4 174 (by rfl) rfl
theorem ml_L_71 : Cond.methodLink RL 71 yX7_allWarm ∈ k_KT := k_t4 175 (by rfl) rfl
theorem im_X7_allWarm : Cond.instanceMethod yX7_allWarm ∈ k_KT := k_t4 176 (by rfl) rfl
theorem se_X7_allWarm : Cond.selects RX7 yX7_allWarm yX7_allWarm ∈ k_KT := k_t4 177 (by rfl) rfl
theorem co_X7_allWarm : Cond.code yX7_allWarm cX7_allWarm 2 (some .int) ∈ k_KT := k_t4 178 (by rfl) rfl
theorem ml_L_75 : Cond.methodLink RL 75 yX7_share ∈ k_KT := k_t4 179 (by rfl) rfl
theorem im_X7_share : Cond.instanceMethod yX7_share ∈ k_KT := k_t4 180 (by rfl) rfl
theorem se_X7_share : Cond.selects RX7 yX7_share yX7_share ∈ k_KT := k_t4 181 (by rfl) rfl
theorem co_X7_share : Cond.code yX7_share cX7_share 13 (some .int) ∈ k_KT := k_t4 182 (by rfl) rfl
theorem ml_L_79 : Cond.methodLink RL 79 yX7_leastHook ∈ k_KT := k_t4 183 (by rfl) rfl
theorem im_X7_leastHook : Cond.instanceMethod yX7_leastHook ∈ k_KT := k_t4 184 (by rfl) rfl
theorem se_X7_leastHook : Cond.selects RX7 yX7_leastHook yX7_leastHook ∈ k_KT := k_t4 185 (by rfl) rfl
theorem co_X7_leastHook : Cond.code yX7_leastHook cX7_leastHook 4 (some .int) ∈ k_KT := k_t4 186 (by rfl) rfl
theorem ml_L_83 : Cond.methodLink RL 83 yX7_pole ∈ k_KT := k_t4 187 (by rfl) rfl
theorem im_X7_pole : Cond.instanceMethod yX7_pole ∈ k_KT := k_t4 188 (by rfl) rfl
theorem se_X7_pole : Cond.selects RX7 yX7_pole yX7_pole ∈ k_KT := k_t4 189 (by rfl) rfl
theorem co_X7_pole : Cond.code yX7_pole cX7_pole 4 (some .int) ∈ k_KT := k_t4 190 (by rfl) rfl
theorem ml_L_87 : Cond.methodLink RL 87 yX7_firstDay ∈ k_KT := k_t4 191 (by rfl) rfl
theorem im_X7_firstDay : Cond.instanceMethod yX7_firstDay ∈ k_KT := k_t4 192 (by rfl) rfl
theorem se_X7_firstDay : Cond.selects RX7 yX7_firstDay yX7_firstDay ∈ k_KT := k_t4 193 (by rfl) rfl
theorem co_X7_firstDay : Cond.code yX7_firstDay cX7_firstDay 3 (some .int) ∈ k_KT := k_t4 194 (by rfl) rfl
theorem ml_X7_138 : Cond.methodLink RX7 138 yX7_firstOf ∈ k_KT := k_t4 195 (by rfl) rfl
theorem im_X7_firstOf : Cond.instanceMethod yX7_firstOf ∈ k_KT := k_t4 197 (by rfl) rfl
theorem co_X7_firstOf : Cond.code yX7_firstOf cX7_firstOf 5 (some .int) ∈ k_KT := k_t4 198 (by rfl) rfl
theorem ml_L_91 : Cond.methodLink RL 91 yX7_sticks ∈ k_KT := k_t4 199 (by rfl) rfl
theorem im_X7_sticks : Cond.instanceMethod yX7_sticks ∈ k_KT := k_t4 200 (by rfl) rfl
theorem se_X7_sticks : Cond.selects RX7 yX7_sticks yX7_sticks ∈ k_KT := k_t4 201 (by rfl) rfl
theorem co_X7_sticks : Cond.code yX7_sticks cX7_sticks 10 (some .int) ∈ k_KT := k_t4 202 (by rfl) rfl
theorem ml_L_95 : Cond.methodLink RL 95 yX7_whose ∈ k_KT := k_t4 203 (by rfl) rfl
theorem im_X7_whose : Cond.instanceMethod yX7_whose ∈ k_KT := k_t4 204 (by rfl) rfl
theorem se_X7_whose : Cond.selects RX7 yX7_whose yX7_whose ∈ k_KT := k_t4 205 (by rfl) rfl
theorem co_X7_whose : Cond.code yX7_whose cX7_whose 5 (some .int) ∈ k_KT := k_t4 206 (by rfl) rfl
theorem ml_L_100 : Cond.methodLink RL 100 yX7_sure ∈ k_KT := k_t4 207 (by rfl) rfl
theorem im_X7_sure : Cond.instanceMethod yX7_sure ∈ k_KT := k_t4 208 (by rfl) rfl
theorem se_X7_sure : Cond.selects RX7 yX7_sure yX7_sure ∈ k_KT := k_t4 209 (by rfl) rfl
theorem co_X7_sure : Cond.code yX7_sure cX7_sure 10 (some .int) ∈ k_KT := k_t4 210 (by rfl) rfl
theorem ml_L_104 : Cond.methodLink RL 104 yX7_waste ∈ k_KT := k_t4 211 (by rfl) rfl
theorem im_X7_waste : Cond.instanceMethod yX7_waste ∈ k_KT := k_t4 212 (by rfl) rfl
theorem se_X7_waste : Cond.selects RX7 yX7_waste yX7_waste ∈ k_KT := k_t4 213 (by rfl) rfl
theorem co_X7_waste : Cond.code yX7_waste cX7_waste 5 (some .int) ∈ k_KT := k_t4 214 (by rfl) rfl
theorem ml_L_108 : Cond.methodLink RL 108 yX7_needs ∈ k_KT := k_t4 215 (by rfl) rfl
theorem im_X7_needs : Cond.instanceMethod yX7_needs ∈ k_KT := k_t4 216 (by rfl) rfl
theorem se_X7_needs : Cond.selects RX7 yX7_needs yX7_needs ∈ k_KT := k_t4 217 (by rfl) rfl
theorem co_X7_needs : Cond.code yX7_needs cX7_needs 3 (some .int) ∈ k_KT := k_t4 218 (by rfl) rfl
theorem ml_L_113 : Cond.methodLink RL 113 yX7_storm ∈ k_KT := k_t4 219 (by rfl) rfl
theorem im_X7_storm : Cond.instanceMethod yX7_storm ∈ k_KT := k_t4 220 (by rfl) rfl
theorem se_X7_storm : Cond.selects RX7 yX7_storm yX7_storm ∈ k_KT := k_t4 221 (by rfl) rfl
theorem co_X7_storm : Cond.code yX7_storm cX7_storm 11 (some .int) ∈ k_KT := k_t4 222 (by rfl) rfl
theorem ml_X7_142 : Cond.methodLink RX7 142 yX7_weighs ∈ k_KT := k_t4 223 (by rfl) rfl
theorem im_X7_weighs : Cond.instanceMethod yX7_weighs ∈ k_KT := k_t4 225 (by rfl) rfl
theorem co_X7_weighs : Cond.code yX7_weighs cX7_weighs 3 (some .int) ∈ k_KT := k_t4 226 (by rfl) rfl
theorem kl_X7_145 : Cond.constantLong RX7 145 7919 ∈ k_KT := k_t4 227 (by rfl) rfl
theorem kl_X7_147 : Cond.constantLong RX7 147 6151 ∈ k_KT := k_t4 228 (by rfl) rfl
theorem kl_X7_149 : Cond.constantLong RX7 149 65521 ∈ k_KT := k_t4 229 (by rfl) rfl
theorem ml_L_117 : Cond.methodLink RL 117 yX7_keep ∈ k_KT := k_t4 230 (by rfl) rfl
theorem im_X7_keep : Cond.instanceMethod yX7_keep ∈ k_KT := k_t4 231 (by rfl) rfl
theorem se_X7_keep : Cond.selects RX7 yX7_keep yX7_keep ∈ k_KT := k_t4 232 (by rfl) rfl
theorem co_X7_keep : Cond.code yX7_keep cX7_keep 2 (some .int) ∈ k_KT := k_t4 233 (by rfl) rfl
theorem ml_L_121 : Cond.methodLink RL 121 yX7_back ∈ k_KT := k_t4 234 (by rfl) rfl
theorem im_X7_back : Cond.instanceMethod yX7_back ∈ k_KT := k_t4 235 (by rfl) rfl
theorem se_X7_back : Cond.selects RX7 yX7_back yX7_back ∈ k_KT := k_t4 236 (by rfl) rfl
theorem co_X7_back : Cond.code yX7_back cX7_back 2 (some .int) ∈ k_KT := k_t4 237 (by rfl) rfl
theorem ml_L_125 : Cond.methodLink RL 125 yX7_count ∈ k_KT := k_t4 238 (by rfl) rfl
theorem im_X7_count : Cond.instanceMethod yX7_count ∈ k_KT := k_t4 239 (by rfl) rfl
theorem se_X7_count : Cond.selects RX7 yX7_count yX7_count ∈ k_KT := k_t5 0 (by rfl) rfl
theorem co_X7_count : Cond.code yX7_count cX7_count 4 (some .int) ∈ k_KT := k_t5 1 (by rfl) rfl
theorem fl_J0_9 : Cond.fieldLink RJ0 9 "java/lang/String" "value" "[B" ∈ k_KT := k_t5 2 (by rfl) rfl
theorem fl_J0_15 : Cond.fieldLink RJ0 15 "java/lang/String" "coder" "B" ∈ k_KT := k_t5 3 (by rfl) rfl
theorem se_X5_figuresAt : Cond.selects RX5 yX5_figuresAt yX5_figuresAt ∈ k_KT := k_p 0 (by rfl) rfl
theorem se_X5_readNumber : Cond.selects RX5 yX5_readNumber yX5_readNumber ∈ k_KT := k_p 1 (by rfl) rfl
theorem se_X2_put : Cond.selects RX2 yX2_put yX2_put ∈ k_KT := k_p 2 (by rfl) rfl
theorem se_X2_putBough : Cond.selects RX2 yX2_putBough yX2_putBough ∈ k_KT := k_p 3 (by rfl) rfl
theorem se_X2_putTenant : Cond.selects RX2 yX2_putTenant yX2_putTenant ∈ k_KT := k_p 4 (by rfl) rfl
theorem se_X5_has : Cond.selects RX5 yX5_has yX5_has ∈ k_KT := k_p 5 (by rfl) rfl
theorem se_X2_isInReach : Cond.selects RX2 yX2_isInReach yX2_isInReach ∈ k_KT := k_p 6 (by rfl) rfl
theorem se_X3_dropOldest : Cond.selects RX3 yX3_dropOldest yX3_dropOldest ∈ k_KT := k_p 7 (by rfl) rfl
theorem se_X0_isOver : Cond.selects RX0 yX0_isOver yX0_isOver ∈ k_KT := k_p 8 (by rfl) rfl
theorem se_X0_gatherToday : Cond.selects RX0 yX0_gatherToday yX0_gatherToday ∈ k_KT := k_p 9 (by rfl) rfl
theorem se_X1_takersOf : Cond.selects RX1 yX1_takersOf yX1_takersOf ∈ k_KT := k_p 10 (by rfl) rfl
theorem se_X1_keepIfBetter : Cond.selects RX1 yX1_keepIfBetter yX1_keepIfBetter ∈ k_KT := k_p 11 (by rfl) rfl
theorem se_X0_blow : Cond.selects RX0 yX0_blow yX0_blow ∈ k_KT := k_p 12 (by rfl) rfl
theorem se_X7_begins : Cond.selects RX7 yX7_begins yX7_begins ∈ k_KT := k_p 13 (by rfl) rfl
theorem se_X7_boughOf : Cond.selects RX7 yX7_boughOf yX7_boughOf ∈ k_KT := k_p 14 (by rfl) rfl
theorem se_X7_tenantOf : Cond.selects RX7 yX7_tenantOf yX7_tenantOf ∈ k_KT := k_p 15 (by rfl) rfl
theorem se_X7_lays : Cond.selects RX7 yX7_lays yX7_lays ∈ k_KT := k_p 16 (by rfl) rfl
theorem se_X7_readsAll : Cond.selects RX7 yX7_readsAll yX7_readsAll ∈ k_KT := k_p 17 (by rfl) rfl
theorem se_X7_readsItem : Cond.selects RX7 yX7_readsItem yX7_readsItem ∈ k_KT := k_p 18 (by rfl) rfl
theorem se_X7_number : Cond.selects RX7 yX7_number yX7_number ∈ k_KT := k_p 19 (by rfl) rfl
theorem se_X7_letterAt : Cond.selects RX7 yX7_letterAt yX7_letterAt ∈ k_KT := k_p 20 (by rfl) rfl
theorem se_X7_isBough : Cond.selects RX7 yX7_isBough yX7_isBough ∈ k_KT := k_p 21 (by rfl) rfl
theorem se_X7_isDead : Cond.selects RX7 yX7_isDead yX7_isDead ∈ k_KT := k_p 22 (by rfl) rfl
theorem se_X7_isFallen : Cond.selects RX7 yX7_isFallen yX7_isFallen ∈ k_KT := k_p 23 (by rfl) rfl
theorem se_X7_isTenant : Cond.selects RX7 yX7_isTenant yX7_isTenant ∈ k_KT := k_p 24 (by rfl) rfl
theorem se_X7_isWarm : Cond.selects RX7 yX7_isWarm yX7_isWarm ∈ k_KT := k_p 25 (by rfl) rfl
theorem se_X7_canNow : Cond.selects RX7 yX7_canNow yX7_canNow ∈ k_KT := k_p 26 (by rfl) rfl
theorem se_X7_could : Cond.selects RX7 yX7_could yX7_could ∈ k_KT := k_p 27 (by rfl) rfl
theorem se_X7_keeps : Cond.selects RX7 yX7_keeps yX7_keeps ∈ k_KT := k_p 28 (by rfl) rfl
theorem se_X7_takes : Cond.selects RX7 yX7_takes yX7_takes ∈ k_KT := k_p 29 (by rfl) rfl
theorem se_X7_passes : Cond.selects RX7 yX7_passes yX7_passes ∈ k_KT := k_p 30 (by rfl) rfl
theorem se_X7_holds : Cond.selects RX7 yX7_holds yX7_holds ∈ k_KT := k_p 31 (by rfl) rfl
theorem se_X7_warmAt : Cond.selects RX7 yX7_warmAt yX7_warmAt ∈ k_KT := k_p 32 (by rfl) rfl
theorem se_X7_eachTakes : Cond.selects RX7 yX7_eachTakes yX7_eachTakes ∈ k_KT := k_p 33 (by rfl) rfl
theorem se_X7_warm : Cond.selects RX7 yX7_warm yX7_warm ∈ k_KT := k_p 34 (by rfl) rfl
theorem se_X7_lets : Cond.selects RX7 yX7_lets yX7_lets ∈ k_KT := k_p 35 (by rfl) rfl
theorem se_X7_firstOf : Cond.selects RX7 yX7_firstOf yX7_firstOf ∈ k_KT := k_p 36 (by rfl) rfl
theorem se_X7_weighs : Cond.selects RX7 yX7_weighs yX7_weighs ∈ k_KT := k_p 37 (by rfl) rfl
theorem inK0 : ∀ w ∈ u_ws RX0 TX0 2, w ∈ k_KT := by
  intro w h
  obtain ⟨k, hk, rfl⟩ := List.mem_map.mp h
  have hk := List.mem_range.mp hk
  match k, hk with
  | 0, _ => exact la_0_0
  | 1, _ => exact la_0_1
  | k + 2, hk => exact absurd hk (by omega)
theorem inK1 : ∀ w ∈ u_ws RX1 TX1 7, w ∈ k_KT := by
  intro w h
  obtain ⟨k, hk, rfl⟩ := List.mem_map.mp h
  have hk := List.mem_range.mp hk
  match k, hk with
  | 0, _ => exact la_1_0
  | 1, _ => exact la_1_1
  | 2, _ => exact la_1_2
  | 3, _ => exact la_1_3
  | 4, _ => exact la_1_4
  | 5, _ => exact la_1_5
  | 6, _ => exact la_1_6
  | k + 7, hk => exact absurd hk (by omega)
theorem inK2 : ∀ w ∈ u_ws RX2 TX2 10, w ∈ k_KT := by
  intro w h
  obtain ⟨k, hk, rfl⟩ := List.mem_map.mp h
  have hk := List.mem_range.mp hk
  match k, hk with
  | 0, _ => exact la_2_0
  | 1, _ => exact la_2_1
  | 2, _ => exact la_2_2
  | 3, _ => exact la_2_3
  | 4, _ => exact la_2_4
  | 5, _ => exact la_2_5
  | 6, _ => exact la_2_6
  | 7, _ => exact la_2_7
  | 8, _ => exact la_2_8
  | 9, _ => exact la_2_9
  | k + 10, hk => exact absurd hk (by omega)
theorem inK3 : ∀ w ∈ u_ws RX3 TX3 2, w ∈ k_KT := by
  intro w h
  obtain ⟨k, hk, rfl⟩ := List.mem_map.mp h
  have hk := List.mem_range.mp hk
  match k, hk with
  | 0, _ => exact la_3_0
  | 1, _ => exact la_3_1
  | k + 2, hk => exact absurd hk (by omega)
theorem inK4 : ∀ w ∈ u_ws RX4 TX4 3, w ∈ k_KT := by
  intro w h
  obtain ⟨k, hk, rfl⟩ := List.mem_map.mp h
  have hk := List.mem_range.mp hk
  match k, hk with
  | 0, _ => exact la_4_0
  | 1, _ => exact la_4_1
  | 2, _ => exact la_4_2
  | k + 3, hk => exact absurd hk (by omega)
theorem inK5 : ∀ w ∈ u_ws RX5 TX5 3, w ∈ k_KT := by
  intro w h
  obtain ⟨k, hk, rfl⟩ := List.mem_map.mp h
  have hk := List.mem_range.mp hk
  match k, hk with
  | 0, _ => exact la_5_0
  | 1, _ => exact la_5_1
  | 2, _ => exact la_5_2
  | k + 3, hk => exact absurd hk (by omega)
theorem inK6 : ∀ w ∈ u_ws RX6 TX6 7, w ∈ k_KT := by
  intro w h
  obtain ⟨k, hk, rfl⟩ := List.mem_map.mp h
  have hk := List.mem_range.mp hk
  match k, hk with
  | 0, _ => exact la_6_0
  | 1, _ => exact la_6_1
  | 2, _ => exact la_6_2
  | 3, _ => exact la_6_3
  | 4, _ => exact la_6_4
  | 5, _ => exact la_6_5
  | 6, _ => exact la_6_6
  | k + 7, hk => exact absurd hk (by omega)
theorem inK7 : ∀ w ∈ u_ws RX7 TX7 14, w ∈ k_KT := by
  intro w h
  obtain ⟨k, hk, rfl⟩ := List.mem_map.mp h
  have hk := List.mem_range.mp hk
  match k, hk with
  | 0, _ => exact la_7_0
  | 1, _ => exact la_7_1
  | 2, _ => exact la_7_2
  | 3, _ => exact la_7_3
  | 4, _ => exact la_7_4
  | 5, _ => exact la_7_5
  | 6, _ => exact la_7_6
  | 7, _ => exact la_7_7
  | 8, _ => exact la_7_8
  | 9, _ => exact la_7_9
  | 10, _ => exact la_7_10
  | 11, _ => exact la_7_11
  | 12, _ => exact la_7_12
  | 13, _ => exact la_7_13
  | k + 14, hk => exact absurd hk (by omega)
end
section
theorem dX0_init_0 : decode cX0_init 0 = .ok (.aload_n 0, 1) := by decide +kernel
theorem dX0_init_1 : decode cX0_init 1 = .ok (.invokespecial 3, 3) := by decide +kernel
theorem dX0_init_4 : decode cX0_init 4 = .ok (.aload_n 0, 1) := by decide +kernel
theorem dX0_init_5 : decode cX0_init 5 = .ok (.new 9, 3) := by decide +kernel
theorem dX0_init_8 : decode cX0_init 8 = .ok (.dup, 1) := by decide +kernel
theorem dX0_init_9 : decode cX0_init 9 = .ok (.invokespecial 11, 3) := by decide +kernel
theorem dX0_init_12 : decode cX0_init 12 = .ok (.putfield 12, 3) := by decide +kernel
theorem dX0_init_15 : decode cX0_init 15 = .ok (.aload_n 0, 1) := by decide +kernel
theorem dX0_init_16 : decode cX0_init 16 = .ok (.aload_n 1, 1) := by decide +kernel
theorem dX0_init_17 : decode cX0_init 17 = .ok (.putfield 18, 3) := by decide +kernel
theorem dX0_init_20 : decode cX0_init 20 = .ok (.return_, 1) := by decide +kernel
theorem dX0_begin_0 : decode cX0_begin 0 = .ok (.aload_n 0, 1) := by decide +kernel
theorem dX0_begin_1 : decode cX0_begin 1 = .ok (.getfield 12, 3) := by decide +kernel
theorem dX0_begin_4 : decode cX0_begin 4 = .ok (.aload_n 1, 1) := by decide +kernel
theorem dX0_begin_5 : decode cX0_begin 5 = .ok (.invokevirtual 22, 3) := by decide +kernel
theorem dX0_begin_8 : decode cX0_begin 8 = .ok (.return_, 1) := by decide +kernel
theorem dX0_shortenHooks_0 : decode cX0_shortenHooks 0 = .ok (.iconst 0, 1) := by decide +kernel
theorem dX0_shortenHooks_1 : decode cX0_shortenHooks 1 = .ok (.istore_n 2, 1) := by decide +kernel
theorem dX0_shortenHooks_2 : decode cX0_shortenHooks 2 = .ok (.iload_n 2, 1) := by decide +kernel
theorem dX0_shortenHooks_3 : decode cX0_shortenHooks 3 = .ok (.aload_n 0, 1) := by decide +kernel
theorem dX0_shortenHooks_4 : decode cX0_shortenHooks 4 = .ok (.getfield 18, 3) := by decide +kernel
theorem dX0_shortenHooks_7 : decode cX0_shortenHooks 7 = .ok (.getfield 26, 3) := by decide +kernel
theorem dX0_shortenHooks_10 : decode cX0_shortenHooks 10 = .ok (.if_icmp .ge 29, 3) := by decide +kernel
theorem dX0_shortenHooks_13 : decode cX0_shortenHooks 13 = .ok (.aload_n 0, 1) := by decide +kernel
theorem dX0_shortenHooks_14 : decode cX0_shortenHooks 14 = .ok (.getfield 12, 3) := by decide +kernel
theorem dX0_shortenHooks_17 : decode cX0_shortenHooks 17 = .ok (.iload_n 2, 1) := by decide +kernel
theorem dX0_shortenHooks_18 : decode cX0_shortenHooks 18 = .ok (.aload_n 0, 1) := by decide +kernel
theorem dX0_shortenHooks_19 : decode cX0_shortenHooks 19 = .ok (.getfield 12, 3) := by decide +kernel
theorem dX0_shortenHooks_22 : decode cX0_shortenHooks 22 = .ok (.iload_n 2, 1) := by decide +kernel
theorem dX0_shortenHooks_23 : decode cX0_shortenHooks 23 = .ok (.invokevirtual 32, 3) := by decide +kernel
theorem dX0_shortenHooks_26 : decode cX0_shortenHooks 26 = .ok (.iload_n 1, 1) := by decide +kernel
theorem dX0_shortenHooks_27 : decode cX0_shortenHooks 27 = .ok (.invokestatic 36, 3) := by decide +kernel
theorem dX0_shortenHooks_30 : decode cX0_shortenHooks 30 = .ok (.invokevirtual 42, 3) := by decide +kernel
theorem dX0_shortenHooks_33 : decode cX0_shortenHooks 33 = .ok (.iinc 2 1, 3) := by decide +kernel
theorem dX0_shortenHooks_36 : decode cX0_shortenHooks 36 = .ok (.goto (-34), 3) := by decide +kernel
theorem dX0_shortenHooks_39 : decode cX0_shortenHooks 39 = .ok (.return_, 1) := by decide +kernel
theorem dX0_goTo_0 : decode cX0_goTo 0 = .ok (.iconst 0, 1) := by decide +kernel
theorem dX0_goTo_1 : decode cX0_goTo 1 = .ok (.istore_n 2, 1) := by decide +kernel
theorem dX0_goTo_2 : decode cX0_goTo 2 = .ok (.iload_n 2, 1) := by decide +kernel
theorem dX0_goTo_3 : decode cX0_goTo 3 = .ok (.bipush 99, 2) := by decide +kernel
theorem dX0_goTo_5 : decode cX0_goTo 5 = .ok (.if_icmp .gt 40, 3) := by decide +kernel
theorem dX0_goTo_8 : decode cX0_goTo 8 = .ok (.aload_n 0, 1) := by decide +kernel
theorem dX0_goTo_9 : decode cX0_goTo 9 = .ok (.invokevirtual 46, 3) := by decide +kernel
theorem dX0_goTo_12 : decode cX0_goTo 12 = .ok (.ifCond .ne 33, 3) := by decide +kernel
theorem dX0_goTo_15 : decode cX0_goTo 15 = .ok (.aload_n 0, 1) := by decide +kernel
theorem dX0_goTo_16 : decode cX0_goTo 16 = .ok (.invokevirtual 50, 3) := by decide +kernel
theorem dX0_goTo_19 : decode cX0_goTo 19 = .ok (.aload_n 0, 1) := by decide +kernel
theorem dX0_goTo_20 : decode cX0_goTo 20 = .ok (.getfield 12, 3) := by decide +kernel
theorem dX0_goTo_23 : decode cX0_goTo 23 = .ok (.getfield 53, 3) := by decide +kernel
theorem dX0_goTo_26 : decode cX0_goTo 26 = .ok (.iload_n 1, 1) := by decide +kernel
theorem dX0_goTo_27 : decode cX0_goTo 27 = .ok (.if_icmp .lt 4, 3) := by decide +kernel
theorem dX0_goTo_30 : decode cX0_goTo 30 = .ok (.return_, 1) := by decide +kernel
theorem dX0_goTo_31 : decode cX0_goTo 31 = .ok (.aload_n 0, 1) := by decide +kernel
theorem dX0_goTo_32 : decode cX0_goTo 32 = .ok (.getfield 12, 3) := by decide +kernel
theorem dX0_goTo_35 : decode cX0_goTo 35 = .ok (.iconst 1, 1) := by decide +kernel
theorem dX0_goTo_36 : decode cX0_goTo 36 = .ok (.invokevirtual 56, 3) := by decide +kernel
theorem dX0_goTo_39 : decode cX0_goTo 39 = .ok (.iinc 2 1, 3) := by decide +kernel
theorem dX0_goTo_42 : decode cX0_goTo 42 = .ok (.goto (-40), 3) := by decide +kernel
theorem dX0_goTo_45 : decode cX0_goTo 45 = .ok (.return_, 1) := by decide +kernel
theorem dX0_isOver_0 : decode cX0_isOver 0 = .ok (.aload_n 0, 1) := by decide +kernel
theorem dX0_isOver_1 : decode cX0_isOver 1 = .ok (.getfield 12, 3) := by decide +kernel
theorem dX0_isOver_4 : decode cX0_isOver 4 = .ok (.getfield 60, 3) := by decide +kernel
theorem dX0_isOver_7 : decode cX0_isOver 7 = .ok (.iconst 1, 1) := by decide +kernel
theorem dX0_isOver_8 : decode cX0_isOver 8 = .ok (.aload_n 0, 1) := by decide +kernel
theorem dX0_isOver_9 : decode cX0_isOver 9 = .ok (.getfield 18, 3) := by decide +kernel
theorem dX0_isOver_12 : decode cX0_isOver 12 = .ok (.getfield 63, 3) := by decide +kernel
theorem dX0_isOver_15 : decode cX0_isOver 15 = .ok (.ishl, 1) := by decide +kernel
theorem dX0_isOver_16 : decode cX0_isOver 16 = .ok (.iconst 1, 1) := by decide +kernel
theorem dX0_isOver_17 : decode cX0_isOver 17 = .ok (.isub, 1) := by decide +kernel
theorem dX0_isOver_18 : decode cX0_isOver 18 = .ok (.if_icmp .eq 17, 3) := by decide +kernel
theorem dX0_isOver_21 : decode cX0_isOver 21 = .ok (.aload_n 0, 1) := by decide +kernel
theorem dX0_isOver_22 : decode cX0_isOver 22 = .ok (.getfield 18, 3) := by decide +kernel
theorem dX0_isOver_25 : decode cX0_isOver 25 = .ok (.aload_n 0, 1) := by decide +kernel
theorem dX0_isOver_26 : decode cX0_isOver 26 = .ok (.getfield 12, 3) := by decide +kernel
theorem dX0_isOver_29 : decode cX0_isOver 29 = .ok (.invokevirtual 66, 3) := by decide +kernel
theorem dX0_isOver_32 : decode cX0_isOver 32 = .ok (.ifCond .eq 7, 3) := by decide +kernel
theorem dX0_isOver_35 : decode cX0_isOver 35 = .ok (.iconst 1, 1) := by decide +kernel
theorem dX0_isOver_36 : decode cX0_isOver 36 = .ok (.goto 4, 3) := by decide +kernel
theorem dX0_isOver_39 : decode cX0_isOver 39 = .ok (.iconst 0, 1) := by decide +kernel
theorem dX0_isOver_40 : decode cX0_isOver 40 = .ok (.ireturn, 1) := by decide +kernel
theorem dX0_firstDayAllWarm_0 : decode cX0_firstDayAllWarm 0 = .ok (.iconst 0, 1) := by decide +kernel
theorem dX0_firstDayAllWarm_1 : decode cX0_firstDayAllWarm 1 = .ok (.istore_n 1, 1) := by decide +kernel
theorem dX0_firstDayAllWarm_2 : decode cX0_firstDayAllWarm 2 = .ok (.iload_n 1, 1) := by decide +kernel
theorem dX0_firstDayAllWarm_3 : decode cX0_firstDayAllWarm 3 = .ok (.bipush 99, 2) := by decide +kernel
theorem dX0_firstDayAllWarm_5 : decode cX0_firstDayAllWarm 5 = .ok (.if_icmp .gt 58, 3) := by decide +kernel
theorem dX0_firstDayAllWarm_8 : decode cX0_firstDayAllWarm 8 = .ok (.aload_n 0, 1) := by decide +kernel
theorem dX0_firstDayAllWarm_9 : decode cX0_firstDayAllWarm 9 = .ok (.invokevirtual 50, 3) := by decide +kernel
theorem dX0_firstDayAllWarm_12 : decode cX0_firstDayAllWarm 12 = .ok (.aload_n 0, 1) := by decide +kernel
theorem dX0_firstDayAllWarm_13 : decode cX0_firstDayAllWarm 13 = .ok (.getfield 18, 3) := by decide +kernel
theorem dX0_firstDayAllWarm_16 : decode cX0_firstDayAllWarm 16 = .ok (.aload_n 0, 1) := by decide +kernel
theorem dX0_firstDayAllWarm_17 : decode cX0_firstDayAllWarm 17 = .ok (.getfield 12, 3) := by decide +kernel
theorem dX0_firstDayAllWarm_20 : decode cX0_firstDayAllWarm 20 = .ok (.invokevirtual 66, 3) := by decide +kernel
theorem dX0_firstDayAllWarm_23 : decode cX0_firstDayAllWarm 23 = .ok (.ifCond .eq 11, 3) := by decide +kernel
theorem dX0_firstDayAllWarm_26 : decode cX0_firstDayAllWarm 26 = .ok (.aload_n 0, 1) := by decide +kernel
theorem dX0_firstDayAllWarm_27 : decode cX0_firstDayAllWarm 27 = .ok (.getfield 12, 3) := by decide +kernel
theorem dX0_firstDayAllWarm_30 : decode cX0_firstDayAllWarm 30 = .ok (.getfield 53, 3) := by decide +kernel
theorem dX0_firstDayAllWarm_33 : decode cX0_firstDayAllWarm 33 = .ok (.ireturn, 1) := by decide +kernel
theorem dX0_firstDayAllWarm_34 : decode cX0_firstDayAllWarm 34 = .ok (.aload_n 0, 1) := by decide +kernel
theorem dX0_firstDayAllWarm_35 : decode cX0_firstDayAllWarm 35 = .ok (.getfield 12, 3) := by decide +kernel
theorem dX0_firstDayAllWarm_38 : decode cX0_firstDayAllWarm 38 = .ok (.getfield 53, 3) := by decide +kernel
theorem dX0_firstDayAllWarm_41 : decode cX0_firstDayAllWarm 41 = .ok (.bipush 99, 2) := by decide +kernel
theorem dX0_firstDayAllWarm_43 : decode cX0_firstDayAllWarm 43 = .ok (.if_icmp .lt 6, 3) := by decide +kernel
theorem dX0_firstDayAllWarm_46 : decode cX0_firstDayAllWarm 46 = .ok (.bipush (-4), 2) := by decide +kernel
theorem dX0_firstDayAllWarm_48 : decode cX0_firstDayAllWarm 48 = .ok (.ireturn, 1) := by decide +kernel
theorem dX0_firstDayAllWarm_49 : decode cX0_firstDayAllWarm 49 = .ok (.aload_n 0, 1) := by decide +kernel
theorem dX0_firstDayAllWarm_50 : decode cX0_firstDayAllWarm 50 = .ok (.getfield 12, 3) := by decide +kernel
theorem dX0_firstDayAllWarm_53 : decode cX0_firstDayAllWarm 53 = .ok (.iconst 1, 1) := by decide +kernel
theorem dX0_firstDayAllWarm_54 : decode cX0_firstDayAllWarm 54 = .ok (.invokevirtual 56, 3) := by decide +kernel
theorem dX0_firstDayAllWarm_57 : decode cX0_firstDayAllWarm 57 = .ok (.iinc 1 1, 3) := by decide +kernel
theorem dX0_firstDayAllWarm_60 : decode cX0_firstDayAllWarm 60 = .ok (.goto (-58), 3) := by decide +kernel
theorem dX0_firstDayAllWarm_63 : decode cX0_firstDayAllWarm 63 = .ok (.bipush (-4), 2) := by decide +kernel
theorem dX0_firstDayAllWarm_65 : decode cX0_firstDayAllWarm 65 = .ok (.ireturn, 1) := by decide +kernel
theorem dX0_goThroughStorm_0 : decode cX0_goThroughStorm 0 = .ok (.iconst 0, 1) := by decide +kernel
theorem dX0_goThroughStorm_1 : decode cX0_goThroughStorm 1 = .ok (.istore_n 3, 1) := by decide +kernel
theorem dX0_goThroughStorm_2 : decode cX0_goThroughStorm 2 = .ok (.iload_n 3, 1) := by decide +kernel
theorem dX0_goThroughStorm_3 : decode cX0_goThroughStorm 3 = .ok (.iload_n 2, 1) := by decide +kernel
theorem dX0_goThroughStorm_4 : decode cX0_goThroughStorm 4 = .ok (.if_icmp .ge 34, 3) := by decide +kernel
theorem dX0_goThroughStorm_7 : decode cX0_goThroughStorm 7 = .ok (.iload_n 3, 1) := by decide +kernel
theorem dX0_goThroughStorm_8 : decode cX0_goThroughStorm 8 = .ok (.ifCond .le 11, 3) := by decide +kernel
theorem dX0_goThroughStorm_11 : decode cX0_goThroughStorm 11 = .ok (.aload_n 0, 1) := by decide +kernel
theorem dX0_goThroughStorm_12 : decode cX0_goThroughStorm 12 = .ok (.getfield 12, 3) := by decide +kernel
theorem dX0_goThroughStorm_15 : decode cX0_goThroughStorm 15 = .ok (.iconst 1, 1) := by decide +kernel
theorem dX0_goThroughStorm_16 : decode cX0_goThroughStorm 16 = .ok (.invokevirtual 56, 3) := by decide +kernel
theorem dX0_goThroughStorm_19 : decode cX0_goThroughStorm 19 = .ok (.aload_n 0, 1) := by decide +kernel
theorem dX0_goThroughStorm_20 : decode cX0_goThroughStorm 20 = .ok (.iload_n 1, 1) := by decide +kernel
theorem dX0_goThroughStorm_21 : decode cX0_goThroughStorm 21 = .ok (.iload_n 3, 1) := by decide +kernel
theorem dX0_goThroughStorm_22 : decode cX0_goThroughStorm 22 = .ok (.invokestatic 70, 3) := by decide +kernel
theorem dX0_goThroughStorm_25 : decode cX0_goThroughStorm 25 = .ok (.invokevirtual 73, 3) := by decide +kernel
theorem dX0_goThroughStorm_28 : decode cX0_goThroughStorm 28 = .ok (.aload_n 0, 1) := by decide +kernel
theorem dX0_goThroughStorm_29 : decode cX0_goThroughStorm 29 = .ok (.invokevirtual 50, 3) := by decide +kernel
theorem dX0_goThroughStorm_32 : decode cX0_goThroughStorm 32 = .ok (.iinc 3 1, 3) := by decide +kernel
theorem dX0_goThroughStorm_35 : decode cX0_goThroughStorm 35 = .ok (.goto (-33), 3) := by decide +kernel
theorem dX0_goThroughStorm_38 : decode cX0_goThroughStorm 38 = .ok (.return_, 1) := by decide +kernel
theorem dX0_draw_0 : decode cX0_draw 0 = .ok (.ldc2_w 76, 3) := by decide +kernel
theorem dX0_draw_3 : decode cX0_draw 3 = .ok (.iload_n 0, 1) := by decide +kernel
theorem dX0_draw_4 : decode cX0_draw 4 = .ok (.i2l, 1) := by decide +kernel
theorem dX0_draw_5 : decode cX0_draw 5 = .ok (.lmul, 1) := by decide +kernel
theorem dX0_draw_6 : decode cX0_draw 6 = .ok (.ldc2_w 78, 3) := by decide +kernel
theorem dX0_draw_9 : decode cX0_draw 9 = .ok (.iload_n 1, 1) := by decide +kernel
theorem dX0_draw_10 : decode cX0_draw 10 = .ok (.i2l, 1) := by decide +kernel
theorem dX0_draw_11 : decode cX0_draw 11 = .ok (.lmul, 1) := by decide +kernel
theorem dX0_draw_12 : decode cX0_draw 12 = .ok (.ladd, 1) := by decide +kernel
theorem dX0_draw_13 : decode cX0_draw 13 = .ok (.lconst 1, 1) := by decide +kernel
theorem dX0_draw_14 : decode cX0_draw 14 = .ok (.ladd, 1) := by decide +kernel
theorem dX0_draw_15 : decode cX0_draw 15 = .ok (.lstore_n 2, 1) := by decide +kernel
theorem dX0_draw_16 : decode cX0_draw 16 = .ok (.lload_n 2, 1) := by decide +kernel
theorem dX0_draw_17 : decode cX0_draw 17 = .ok (.lload_n 2, 1) := by decide +kernel
theorem dX0_draw_18 : decode cX0_draw 18 = .ok (.lmul, 1) := by decide +kernel
theorem dX0_draw_19 : decode cX0_draw 19 = .ok (.ldc2_w 80, 3) := by decide +kernel
theorem dX0_draw_22 : decode cX0_draw 22 = .ok (.lrem, 1) := by decide +kernel
theorem dX0_draw_23 : decode cX0_draw 23 = .ok (.ldc2_w 82, 3) := by decide +kernel
theorem dX0_draw_26 : decode cX0_draw 26 = .ok (.ldiv, 1) := by decide +kernel
theorem dX0_draw_27 : decode cX0_draw 27 = .ok (.l2i, 1) := by decide +kernel
theorem dX0_draw_28 : decode cX0_draw 28 = .ok (.ireturn, 1) := by decide +kernel
theorem dX0_blow_0 : decode cX0_blow 0 = .ok (.iload_n 1, 1) := by decide +kernel
theorem dX0_blow_1 : decode cX0_blow 1 = .ok (.bipush 8, 2) := by decide +kernel
theorem dX0_blow_3 : decode cX0_blow 3 = .ok (.idiv, 1) := by decide +kernel
theorem dX0_blow_4 : decode cX0_blow 4 = .ok (.iconst 3, 1) := by decide +kernel
theorem dX0_blow_5 : decode cX0_blow 5 = .ok (.irem, 1) := by decide +kernel
theorem dX0_blow_6 : decode cX0_blow 6 = .ok (.ifCond .ne 57, 3) := by decide +kernel
theorem dX0_blow_9 : decode cX0_blow 9 = .ok (.aload_n 0, 1) := by decide +kernel
theorem dX0_blow_10 : decode cX0_blow 10 = .ok (.getfield 18, 3) := by decide +kernel
theorem dX0_blow_13 : decode cX0_blow 13 = .ok (.getfield 63, 3) := by decide +kernel
theorem dX0_blow_16 : decode cX0_blow 16 = .ok (.ifCond .le 47, 3) := by decide +kernel
theorem dX0_blow_19 : decode cX0_blow 19 = .ok (.iload_n 1, 1) := by decide +kernel
theorem dX0_blow_20 : decode cX0_blow 20 = .ok (.aload_n 0, 1) := by decide +kernel
theorem dX0_blow_21 : decode cX0_blow 21 = .ok (.getfield 18, 3) := by decide +kernel
theorem dX0_blow_24 : decode cX0_blow 24 = .ok (.getfield 63, 3) := by decide +kernel
theorem dX0_blow_27 : decode cX0_blow 27 = .ok (.irem, 1) := by decide +kernel
theorem dX0_blow_28 : decode cX0_blow 28 = .ok (.istore_n 2, 1) := by decide +kernel
theorem dX0_blow_29 : decode cX0_blow 29 = .ok (.aload_n 0, 1) := by decide +kernel
theorem dX0_blow_30 : decode cX0_blow 30 = .ok (.getfield 12, 3) := by decide +kernel
theorem dX0_blow_33 : decode cX0_blow 33 = .ok (.iload_n 2, 1) := by decide +kernel
theorem dX0_blow_34 : decode cX0_blow 34 = .ok (.aload_n 0, 1) := by decide +kernel
theorem dX0_blow_35 : decode cX0_blow 35 = .ok (.getfield 12, 3) := by decide +kernel
theorem dX0_blow_38 : decode cX0_blow 38 = .ok (.iload_n 2, 1) := by decide +kernel
theorem dX0_blow_39 : decode cX0_blow 39 = .ok (.invokevirtual 84, 3) := by decide +kernel
theorem dX0_blow_42 : decode cX0_blow 42 = .ok (.aload_n 0, 1) := by decide +kernel
theorem dX0_blow_43 : decode cX0_blow 43 = .ok (.getfield 12, 3) := by decide +kernel
theorem dX0_blow_46 : decode cX0_blow 46 = .ok (.getfield 53, 3) := by decide +kernel
theorem dX0_blow_49 : decode cX0_blow 49 = .ok (.aload_n 0, 1) := by decide +kernel
theorem dX0_blow_50 : decode cX0_blow 50 = .ok (.getfield 18, 3) := by decide +kernel
theorem dX0_blow_53 : decode cX0_blow 53 = .ok (.getfield 87, 3) := by decide +kernel
theorem dX0_blow_56 : decode cX0_blow 56 = .ok (.isub, 1) := by decide +kernel
theorem dX0_blow_57 : decode cX0_blow 57 = .ok (.invokestatic 36, 3) := by decide +kernel
theorem dX0_blow_60 : decode cX0_blow 60 = .ok (.invokevirtual 90, 3) := by decide +kernel
theorem dX0_blow_63 : decode cX0_blow 63 = .ok (.return_, 1) := by decide +kernel
theorem dX0_gatherToday_0 : decode cX0_gatherToday 0 = .ok (.iconst 0, 1) := by decide +kernel
theorem dX0_gatherToday_1 : decode cX0_gatherToday 1 = .ok (.istore_n 1, 1) := by decide +kernel
theorem dX0_gatherToday_2 : decode cX0_gatherToday 2 = .ok (.iload_n 1, 1) := by decide +kernel
theorem dX0_gatherToday_3 : decode cX0_gatherToday 3 = .ok (.aload_n 0, 1) := by decide +kernel
theorem dX0_gatherToday_4 : decode cX0_gatherToday 4 = .ok (.getfield 18, 3) := by decide +kernel
theorem dX0_gatherToday_7 : decode cX0_gatherToday 7 = .ok (.getfield 26, 3) := by decide +kernel
theorem dX0_gatherToday_10 : decode cX0_gatherToday 10 = .ok (.if_icmp .ge 76, 3) := by decide +kernel
theorem dX0_gatherToday_13 : decode cX0_gatherToday 13 = .ok (.iconst 0, 1) := by decide +kernel
theorem dX0_gatherToday_14 : decode cX0_gatherToday 14 = .ok (.istore_n 2, 1) := by decide +kernel
theorem dX0_gatherToday_15 : decode cX0_gatherToday 15 = .ok (.iload_n 2, 1) := by decide +kernel
theorem dX0_gatherToday_16 : decode cX0_gatherToday 16 = .ok (.aload_n 0, 1) := by decide +kernel
theorem dX0_gatherToday_17 : decode cX0_gatherToday 17 = .ok (.getfield 18, 3) := by decide +kernel
theorem dX0_gatherToday_20 : decode cX0_gatherToday 20 = .ok (.getfield 63, 3) := by decide +kernel
theorem dX0_gatherToday_23 : decode cX0_gatherToday 23 = .ok (.if_icmp .ge 57, 3) := by decide +kernel
theorem dX0_gatherToday_26 : decode cX0_gatherToday 26 = .ok (.aload_n 0, 1) := by decide +kernel
theorem dX0_gatherToday_27 : decode cX0_gatherToday 27 = .ok (.getfield 18, 3) := by decide +kernel
theorem dX0_gatherToday_30 : decode cX0_gatherToday 30 = .ok (.aload_n 0, 1) := by decide +kernel
theorem dX0_gatherToday_31 : decode cX0_gatherToday 31 = .ok (.getfield 12, 3) := by decide +kernel
theorem dX0_gatherToday_34 : decode cX0_gatherToday 34 = .ok (.iload_n 1, 1) := by decide +kernel
theorem dX0_gatherToday_35 : decode cX0_gatherToday 35 = .ok (.invokevirtual 93, 3) := by decide +kernel
theorem dX0_gatherToday_38 : decode cX0_gatherToday 38 = .ok (.ifCond .ne 42, 3) := by decide +kernel
theorem dX0_gatherToday_41 : decode cX0_gatherToday 41 = .ok (.aload_n 0, 1) := by decide +kernel
theorem dX0_gatherToday_42 : decode cX0_gatherToday 42 = .ok (.getfield 18, 3) := by decide +kernel
theorem dX0_gatherToday_45 : decode cX0_gatherToday 45 = .ok (.aload_n 0, 1) := by decide +kernel
theorem dX0_gatherToday_46 : decode cX0_gatherToday 46 = .ok (.getfield 12, 3) := by decide +kernel
theorem dX0_gatherToday_49 : decode cX0_gatherToday 49 = .ok (.iload_n 1, 1) := by decide +kernel
theorem dX0_gatherToday_50 : decode cX0_gatherToday 50 = .ok (.iload_n 2, 1) := by decide +kernel
theorem dX0_gatherToday_51 : decode cX0_gatherToday 51 = .ok (.invokevirtual 97, 3) := by decide +kernel
theorem dX0_gatherToday_54 : decode cX0_gatherToday 54 = .ok (.ifCond .eq 20, 3) := by decide +kernel
theorem dX0_gatherToday_57 : decode cX0_gatherToday 57 = .ok (.aload_n 0, 1) := by decide +kernel
theorem dX0_gatherToday_58 : decode cX0_gatherToday 58 = .ok (.getfield 12, 3) := by decide +kernel
theorem dX0_gatherToday_61 : decode cX0_gatherToday 61 = .ok (.iload_n 1, 1) := by decide +kernel
theorem dX0_gatherToday_62 : decode cX0_gatherToday 62 = .ok (.iload_n 2, 1) := by decide +kernel
theorem dX0_gatherToday_63 : decode cX0_gatherToday 63 = .ok (.aload_n 0, 1) := by decide +kernel
theorem dX0_gatherToday_64 : decode cX0_gatherToday 64 = .ok (.getfield 18, 3) := by decide +kernel
theorem dX0_gatherToday_67 : decode cX0_gatherToday 67 = .ok (.iload_n 2, 1) := by decide +kernel
theorem dX0_gatherToday_68 : decode cX0_gatherToday 68 = .ok (.invokevirtual 101, 3) := by decide +kernel
theorem dX0_gatherToday_71 : decode cX0_gatherToday 71 = .ok (.invokevirtual 104, 3) := by decide +kernel
theorem dX0_gatherToday_74 : decode cX0_gatherToday 74 = .ok (.iinc 2 1, 3) := by decide +kernel
theorem dX0_gatherToday_77 : decode cX0_gatherToday 77 = .ok (.goto (-62), 3) := by decide +kernel
theorem dX0_gatherToday_80 : decode cX0_gatherToday 80 = .ok (.iinc 1 1, 3) := by decide +kernel
theorem dX0_gatherToday_83 : decode cX0_gatherToday 83 = .ok (.goto (-81), 3) := by decide +kernel
theorem dX0_gatherToday_86 : decode cX0_gatherToday 86 = .ok (.return_, 1) := by decide +kernel
theorem dX1_init_0 : decode cX1_init 0 = .ok (.aload_n 0, 1) := by decide +kernel
theorem dX1_init_1 : decode cX1_init 1 = .ok (.invokespecial 3, 3) := by decide +kernel
theorem dX1_init_4 : decode cX1_init 4 = .ok (.aload_n 0, 1) := by decide +kernel
theorem dX1_init_5 : decode cX1_init 5 = .ok (.bipush 8, 2) := by decide +kernel
theorem dX1_init_7 : decode cX1_init 7 = .ok (.newarray .int, 2) := by decide +kernel
theorem dX1_init_9 : decode cX1_init 9 = .ok (.putfield 9, 3) := by decide +kernel
theorem dX1_init_12 : decode cX1_init 12 = .ok (.aload_n 0, 1) := by decide +kernel
theorem dX1_init_13 : decode cX1_init 13 = .ok (.bipush 9, 2) := by decide +kernel
theorem dX1_init_15 : decode cX1_init 15 = .ok (.newarray .int, 2) := by decide +kernel
theorem dX1_init_17 : decode cX1_init 17 = .ok (.putfield 15, 3) := by decide +kernel
theorem dX1_init_20 : decode cX1_init 20 = .ok (.aload_n 0, 1) := by decide +kernel
theorem dX1_init_21 : decode cX1_init 21 = .ok (.iconst 4, 1) := by decide +kernel
theorem dX1_init_22 : decode cX1_init 22 = .ok (.newarray .int, 2) := by decide +kernel
theorem dX1_init_24 : decode cX1_init 24 = .ok (.putfield 18, 3) := by decide +kernel
theorem dX1_init_27 : decode cX1_init 27 = .ok (.aload_n 0, 1) := by decide +kernel
theorem dX1_init_28 : decode cX1_init 28 = .ok (.bipush 8, 2) := by decide +kernel
theorem dX1_init_30 : decode cX1_init 30 = .ok (.newarray .int, 2) := by decide +kernel
theorem dX1_init_32 : decode cX1_init 32 = .ok (.putfield 21, 3) := by decide +kernel
theorem dX1_init_35 : decode cX1_init 35 = .ok (.aload_n 0, 1) := by decide +kernel
theorem dX1_init_36 : decode cX1_init 36 = .ok (.bipush 8, 2) := by decide +kernel
theorem dX1_init_38 : decode cX1_init 38 = .ok (.newarray .int, 2) := by decide +kernel
theorem dX1_init_40 : decode cX1_init 40 = .ok (.putfield 24, 3) := by decide +kernel
theorem dX1_init_43 : decode cX1_init 43 = .ok (.aload_n 0, 1) := by decide +kernel
theorem dX1_init_44 : decode cX1_init 44 = .ok (.aload_n 1, 1) := by decide +kernel
theorem dX1_init_45 : decode cX1_init 45 = .ok (.putfield 27, 3) := by decide +kernel
theorem dX1_init_48 : decode cX1_init 48 = .ok (.return_, 1) := by decide +kernel
theorem dX1_whoHas_0 : decode cX1_whoHas 0 = .ok (.iload_n 1, 1) := by decide +kernel
theorem dX1_whoHas_1 : decode cX1_whoHas 1 = .ok (.ifCond .lt 21, 3) := by decide +kernel
theorem dX1_whoHas_4 : decode cX1_whoHas 4 = .ok (.iload_n 1, 1) := by decide +kernel
theorem dX1_whoHas_5 : decode cX1_whoHas 5 = .ok (.aload_n 0, 1) := by decide +kernel
theorem dX1_whoHas_6 : decode cX1_whoHas 6 = .ok (.getfield 24, 3) := by decide +kernel
theorem dX1_whoHas_9 : decode cX1_whoHas 9 = .ok (.arraylength, 1) := by decide +kernel
theorem dX1_whoHas_10 : decode cX1_whoHas 10 = .ok (.if_icmp .ge 12, 3) := by decide +kernel
theorem dX1_whoHas_13 : decode cX1_whoHas 13 = .ok (.aload_n 0, 1) := by decide +kernel
theorem dX1_whoHas_14 : decode cX1_whoHas 14 = .ok (.getfield 24, 3) := by decide +kernel
theorem dX1_whoHas_17 : decode cX1_whoHas 17 = .ok (.iload_n 1, 1) := by decide +kernel
theorem dX1_whoHas_18 : decode cX1_whoHas 18 = .ok (.iaload, 1) := by decide +kernel
theorem dX1_whoHas_19 : decode cX1_whoHas 19 = .ok (.goto 5, 3) := by decide +kernel
theorem dX1_whoHas_22 : decode cX1_whoHas 22 = .ok (.bipush (-4), 2) := by decide +kernel
theorem dX1_whoHas_24 : decode cX1_whoHas 24 = .ok (.ireturn, 1) := by decide +kernel
theorem dX1_find_0 : decode cX1_find 0 = .ok (.iconst 0, 1) := by decide +kernel
theorem dX1_find_1 : decode cX1_find 1 = .ok (.istore_n 2, 1) := by decide +kernel
theorem dX1_find_2 : decode cX1_find 2 = .ok (.iconst 0, 1) := by decide +kernel
theorem dX1_find_3 : decode cX1_find 3 = .ok (.istore_n 3, 1) := by decide +kernel
theorem dX1_find_4 : decode cX1_find 4 = .ok (.iload_n 3, 1) := by decide +kernel
theorem dX1_find_5 : decode cX1_find 5 = .ok (.iconst 4, 1) := by decide +kernel
theorem dX1_find_6 : decode cX1_find 6 = .ok (.if_icmp .ge 53, 3) := by decide +kernel
theorem dX1_find_9 : decode cX1_find 9 = .ok (.aload_n 0, 1) := by decide +kernel
theorem dX1_find_10 : decode cX1_find 10 = .ok (.getfield 18, 3) := by decide +kernel
theorem dX1_find_13 : decode cX1_find 13 = .ok (.iload_n 3, 1) := by decide +kernel
theorem dX1_find_14 : decode cX1_find 14 = .ok (.aload_n 0, 1) := by decide +kernel
theorem dX1_find_15 : decode cX1_find 15 = .ok (.getfield 27, 3) := by decide +kernel
theorem dX1_find_18 : decode cX1_find 18 = .ok (.iload_n 3, 1) := by decide +kernel
theorem dX1_find_19 : decode cX1_find 19 = .ok (.invokevirtual 31, 3) := by decide +kernel
theorem dX1_find_22 : decode cX1_find 22 = .ok (.ifCond .eq 20, 3) := by decide +kernel
theorem dX1_find_25 : decode cX1_find 25 = .ok (.aload_n 0, 1) := by decide +kernel
theorem dX1_find_26 : decode cX1_find 26 = .ok (.getfield 27, 3) := by decide +kernel
theorem dX1_find_29 : decode cX1_find 29 = .ok (.iload_n 3, 1) := by decide +kernel
theorem dX1_find_30 : decode cX1_find 30 = .ok (.invokevirtual 37, 3) := by decide +kernel
theorem dX1_find_33 : decode cX1_find 33 = .ok (.aload_n 1, 1) := by decide +kernel
theorem dX1_find_34 : decode cX1_find 34 = .ok (.iload_n 3, 1) := by decide +kernel
theorem dX1_find_35 : decode cX1_find 35 = .ok (.invokevirtual 41, 3) := by decide +kernel
theorem dX1_find_38 : decode cX1_find 38 = .ok (.isub, 1) := by decide +kernel
theorem dX1_find_39 : decode cX1_find 39 = .ok (.goto 4, 3) := by decide +kernel
theorem dX1_find_42 : decode cX1_find 42 = .ok (.iconst 0, 1) := by decide +kernel
theorem dX1_find_43 : decode cX1_find 43 = .ok (.iastore, 1) := by decide +kernel
theorem dX1_find_44 : decode cX1_find 44 = .ok (.iload_n 2, 1) := by decide +kernel
theorem dX1_find_45 : decode cX1_find 45 = .ok (.aload_n 0, 1) := by decide +kernel
theorem dX1_find_46 : decode cX1_find 46 = .ok (.getfield 18, 3) := by decide +kernel
theorem dX1_find_49 : decode cX1_find 49 = .ok (.iload_n 3, 1) := by decide +kernel
theorem dX1_find_50 : decode cX1_find 50 = .ok (.iaload, 1) := by decide +kernel
theorem dX1_find_51 : decode cX1_find 51 = .ok (.iadd, 1) := by decide +kernel
theorem dX1_find_52 : decode cX1_find 52 = .ok (.istore_n 2, 1) := by decide +kernel
theorem dX1_find_53 : decode cX1_find 53 = .ok (.iinc 3 1, 3) := by decide +kernel
theorem dX1_find_56 : decode cX1_find 56 = .ok (.goto (-52), 3) := by decide +kernel
theorem dX1_find_59 : decode cX1_find 59 = .ok (.aload_n 0, 1) := by decide +kernel
theorem dX1_find_60 : decode cX1_find 60 = .ok (.getfield 15, 3) := by decide +kernel
theorem dX1_find_63 : decode cX1_find 63 = .ok (.bipush 8, 2) := by decide +kernel
theorem dX1_find_65 : decode cX1_find 65 = .ok (.iconst 0, 1) := by decide +kernel
theorem dX1_find_66 : decode cX1_find 66 = .ok (.iastore, 1) := by decide +kernel
theorem dX1_find_67 : decode cX1_find 67 = .ok (.bipush 7, 2) := by decide +kernel
theorem dX1_find_69 : decode cX1_find 69 = .ok (.istore_n 3, 1) := by decide +kernel
theorem dX1_find_70 : decode cX1_find 70 = .ok (.iload_n 3, 1) := by decide +kernel
theorem dX1_find_71 : decode cX1_find 71 = .ok (.ifCond .lt 72, 3) := by decide +kernel
theorem dX1_find_74 : decode cX1_find 74 = .ok (.aload_n 0, 1) := by decide +kernel
theorem dX1_find_75 : decode cX1_find 75 = .ok (.getfield 9, 3) := by decide +kernel
theorem dX1_find_78 : decode cX1_find 78 = .ok (.iload_n 3, 1) := by decide +kernel
theorem dX1_find_79 : decode cX1_find 79 = .ok (.aload_n 0, 1) := by decide +kernel
theorem dX1_find_80 : decode cX1_find 80 = .ok (.getfield 27, 3) := by decide +kernel
theorem dX1_find_83 : decode cX1_find 83 = .ok (.iload_n 3, 1) := by decide +kernel
theorem dX1_find_84 : decode cX1_find 84 = .ok (.invokevirtual 46, 3) := by decide +kernel
theorem dX1_find_87 : decode cX1_find 87 = .ok (.ifCond .eq 12, 3) := by decide +kernel
theorem dX1_find_90 : decode cX1_find 90 = .ok (.aload_n 0, 1) := by decide +kernel
theorem dX1_find_91 : decode cX1_find 91 = .ok (.aload_n 1, 1) := by decide +kernel
theorem dX1_find_92 : decode cX1_find 92 = .ok (.iload_n 3, 1) := by decide +kernel
theorem dX1_find_93 : decode cX1_find 93 = .ok (.invokevirtual 49, 3) := by decide +kernel
theorem dX1_find_96 : decode cX1_find 96 = .ok (.goto 4, 3) := by decide +kernel
theorem dX1_find_99 : decode cX1_find 99 = .ok (.iconst 0, 1) := by decide +kernel
theorem dX1_find_100 : decode cX1_find 100 = .ok (.iastore, 1) := by decide +kernel
theorem dX1_find_101 : decode cX1_find 101 = .ok (.aload_n 0, 1) := by decide +kernel
theorem dX1_find_102 : decode cX1_find 102 = .ok (.getfield 15, 3) := by decide +kernel
theorem dX1_find_105 : decode cX1_find 105 = .ok (.iload_n 3, 1) := by decide +kernel
theorem dX1_find_106 : decode cX1_find 106 = .ok (.aload_n 0, 1) := by decide +kernel
theorem dX1_find_107 : decode cX1_find 107 = .ok (.getfield 15, 3) := by decide +kernel
theorem dX1_find_110 : decode cX1_find 110 = .ok (.iload_n 3, 1) := by decide +kernel
theorem dX1_find_111 : decode cX1_find 111 = .ok (.iconst 1, 1) := by decide +kernel
theorem dX1_find_112 : decode cX1_find 112 = .ok (.iadd, 1) := by decide +kernel
theorem dX1_find_113 : decode cX1_find 113 = .ok (.iaload, 1) := by decide +kernel
theorem dX1_find_114 : decode cX1_find 114 = .ok (.aload_n 0, 1) := by decide +kernel
theorem dX1_find_115 : decode cX1_find 115 = .ok (.getfield 9, 3) := by decide +kernel
theorem dX1_find_118 : decode cX1_find 118 = .ok (.iload_n 3, 1) := by decide +kernel
theorem dX1_find_119 : decode cX1_find 119 = .ok (.iaload, 1) := by decide +kernel
theorem dX1_find_120 : decode cX1_find 120 = .ok (.ifCond .ne 7, 3) := by decide +kernel
theorem dX1_find_123 : decode cX1_find 123 = .ok (.iconst 0, 1) := by decide +kernel
theorem dX1_find_124 : decode cX1_find 124 = .ok (.goto 11, 3) := by decide +kernel
theorem dX1_find_127 : decode cX1_find 127 = .ok (.aload_n 0, 1) := by decide +kernel
theorem dX1_find_128 : decode cX1_find 128 = .ok (.getfield 27, 3) := by decide +kernel
theorem dX1_find_131 : decode cX1_find 131 = .ok (.iload_n 3, 1) := by decide +kernel
theorem dX1_find_132 : decode cX1_find 132 = .ok (.invokevirtual 53, 3) := by decide +kernel
theorem dX1_find_135 : decode cX1_find 135 = .ok (.iadd, 1) := by decide +kernel
theorem dX1_find_136 : decode cX1_find 136 = .ok (.iastore, 1) := by decide +kernel
theorem dX1_find_137 : decode cX1_find 137 = .ok (.iinc 3 (-1), 3) := by decide +kernel
theorem dX1_find_140 : decode cX1_find 140 = .ok (.goto (-70), 3) := by decide +kernel
theorem dX1_find_143 : decode cX1_find 143 = .ok (.aload_n 0, 1) := by decide +kernel
theorem dX1_find_144 : decode cX1_find 144 = .ok (.iconst (-1), 1) := by decide +kernel
theorem dX1_find_145 : decode cX1_find 145 = .ok (.putfield 56, 3) := by decide +kernel
theorem dX1_find_148 : decode cX1_find 148 = .ok (.aload_n 0, 1) := by decide +kernel
theorem dX1_find_149 : decode cX1_find 149 = .ok (.iconst 0, 1) := by decide +kernel
theorem dX1_find_150 : decode cX1_find 150 = .ok (.iconst 0, 1) := by decide +kernel
theorem dX1_find_151 : decode cX1_find 151 = .ok (.iload_n 2, 1) := by decide +kernel
theorem dX1_find_152 : decode cX1_find 152 = .ok (.invokestatic 60, 3) := by decide +kernel
theorem dX1_find_155 : decode cX1_find 155 = .ok (.return_, 1) := by decide +kernel
theorem dX1_takersOf_0 : decode cX1_takersOf 0 = .ok (.iconst 0, 1) := by decide +kernel
theorem dX1_takersOf_1 : decode cX1_takersOf 1 = .ok (.istore_n 3, 1) := by decide +kernel
theorem dX1_takersOf_2 : decode cX1_takersOf 2 = .ok (.iconst 0, 1) := by decide +kernel
theorem dX1_takersOf_3 : decode cX1_takersOf 3 = .ok (.istore 4, 2) := by decide +kernel
theorem dX1_takersOf_5 : decode cX1_takersOf 5 = .ok (.iload 4, 2) := by decide +kernel
theorem dX1_takersOf_7 : decode cX1_takersOf 7 = .ok (.aload_n 0, 1) := by decide +kernel
theorem dX1_takersOf_8 : decode cX1_takersOf 8 = .ok (.getfield 27, 3) := by decide +kernel
theorem dX1_takersOf_11 : decode cX1_takersOf 11 = .ok (.getfield 64, 3) := by decide +kernel
theorem dX1_takersOf_14 : decode cX1_takersOf 14 = .ok (.if_icmp .ge 30, 3) := by decide +kernel
theorem dX1_takersOf_17 : decode cX1_takersOf 17 = .ok (.aload_n 0, 1) := by decide +kernel
theorem dX1_takersOf_18 : decode cX1_takersOf 18 = .ok (.getfield 27, 3) := by decide +kernel
theorem dX1_takersOf_21 : decode cX1_takersOf 21 = .ok (.aload_n 1, 1) := by decide +kernel
theorem dX1_takersOf_22 : decode cX1_takersOf 22 = .ok (.iload 4, 2) := by decide +kernel
theorem dX1_takersOf_24 : decode cX1_takersOf 24 = .ok (.iload_n 2, 1) := by decide +kernel
theorem dX1_takersOf_25 : decode cX1_takersOf 25 = .ok (.invokevirtual 67, 3) := by decide +kernel
theorem dX1_takersOf_28 : decode cX1_takersOf 28 = .ok (.ifCond .eq 10, 3) := by decide +kernel
theorem dX1_takersOf_31 : decode cX1_takersOf 31 = .ok (.iload_n 3, 1) := by decide +kernel
theorem dX1_takersOf_32 : decode cX1_takersOf 32 = .ok (.iconst 1, 1) := by decide +kernel
theorem dX1_takersOf_33 : decode cX1_takersOf 33 = .ok (.iload 4, 2) := by decide +kernel
theorem dX1_takersOf_35 : decode cX1_takersOf 35 = .ok (.ishl, 1) := by decide +kernel
theorem dX1_takersOf_36 : decode cX1_takersOf 36 = .ok (.ior, 1) := by decide +kernel
theorem dX1_takersOf_37 : decode cX1_takersOf 37 = .ok (.istore_n 3, 1) := by decide +kernel
theorem dX1_takersOf_38 : decode cX1_takersOf 38 = .ok (.iinc 4 1, 3) := by decide +kernel
theorem dX1_takersOf_41 : decode cX1_takersOf 41 = .ok (.goto (-36), 3) := by decide +kernel
theorem dX1_takersOf_44 : decode cX1_takersOf 44 = .ok (.iload_n 3, 1) := by decide +kernel
theorem dX1_takersOf_45 : decode cX1_takersOf 45 = .ok (.ireturn, 1) := by decide +kernel
theorem dX1_deal_0 : decode cX1_deal 0 = .ok (.iload_n 1, 1) := by decide +kernel
theorem dX1_deal_1 : decode cX1_deal 1 = .ok (.ifCond .lt 9, 3) := by decide +kernel
theorem dX1_deal_4 : decode cX1_deal 4 = .ok (.iload_n 1, 1) := by decide +kernel
theorem dX1_deal_5 : decode cX1_deal 5 = .ok (.bipush 8, 2) := by decide +kernel
theorem dX1_deal_7 : decode cX1_deal 7 = .ok (.if_icmp .lt 9, 3) := by decide +kernel
theorem dX1_deal_10 : decode cX1_deal 10 = .ok (.aload_n 0, 1) := by decide +kernel
theorem dX1_deal_11 : decode cX1_deal 11 = .ok (.iload_n 2, 1) := by decide +kernel
theorem dX1_deal_12 : decode cX1_deal 12 = .ok (.invokevirtual 71, 3) := by decide +kernel
theorem dX1_deal_15 : decode cX1_deal 15 = .ok (.return_, 1) := by decide +kernel
theorem dX1_deal_16 : decode cX1_deal 16 = .ok (.iload_n 2, 1) := by decide +kernel
theorem dX1_deal_17 : decode cX1_deal 17 = .ok (.aload_n 0, 1) := by decide +kernel
theorem dX1_deal_18 : decode cX1_deal 18 = .ok (.getfield 15, 3) := by decide +kernel
theorem dX1_deal_21 : decode cX1_deal 21 = .ok (.iload_n 1, 1) := by decide +kernel
theorem dX1_deal_22 : decode cX1_deal 22 = .ok (.iaload, 1) := by decide +kernel
theorem dX1_deal_23 : decode cX1_deal 23 = .ok (.iload_n 3, 1) := by decide +kernel
theorem dX1_deal_24 : decode cX1_deal 24 = .ok (.invokestatic 75, 3) := by decide +kernel
theorem dX1_deal_27 : decode cX1_deal 27 = .ok (.iadd, 1) := by decide +kernel
theorem dX1_deal_28 : decode cX1_deal 28 = .ok (.aload_n 0, 1) := by decide +kernel
theorem dX1_deal_29 : decode cX1_deal 29 = .ok (.getfield 56, 3) := by decide +kernel
theorem dX1_deal_32 : decode cX1_deal 32 = .ok (.if_icmp .gt 4, 3) := by decide +kernel
theorem dX1_deal_35 : decode cX1_deal 35 = .ok (.return_, 1) := by decide +kernel
theorem dX1_deal_36 : decode cX1_deal 36 = .ok (.aload_n 0, 1) := by decide +kernel
theorem dX1_deal_37 : decode cX1_deal 37 = .ok (.getfield 27, 3) := by decide +kernel
theorem dX1_deal_40 : decode cX1_deal 40 = .ok (.iload_n 1, 1) := by decide +kernel
theorem dX1_deal_41 : decode cX1_deal 41 = .ok (.invokevirtual 53, 3) := by decide +kernel
theorem dX1_deal_44 : decode cX1_deal 44 = .ok (.istore 4, 2) := by decide +kernel
theorem dX1_deal_46 : decode cX1_deal 46 = .ok (.iconst 0, 1) := by decide +kernel
theorem dX1_deal_47 : decode cX1_deal 47 = .ok (.istore 5, 2) := by decide +kernel
theorem dX1_deal_49 : decode cX1_deal 49 = .ok (.iload 5, 2) := by decide +kernel
theorem dX1_deal_51 : decode cX1_deal 51 = .ok (.iconst 4, 1) := by decide +kernel
theorem dX1_deal_52 : decode cX1_deal 52 = .ok (.if_icmp .ge 83, 3) := by decide +kernel
theorem dX1_deal_55 : decode cX1_deal 55 = .ok (.aload_n 0, 1) := by decide +kernel
theorem dX1_deal_56 : decode cX1_deal 56 = .ok (.getfield 9, 3) := by decide +kernel
theorem dX1_deal_59 : decode cX1_deal 59 = .ok (.iload_n 1, 1) := by decide +kernel
theorem dX1_deal_60 : decode cX1_deal 60 = .ok (.iaload, 1) := by decide +kernel
theorem dX1_deal_61 : decode cX1_deal 61 = .ok (.iload 5, 2) := by decide +kernel
theorem dX1_deal_63 : decode cX1_deal 63 = .ok (.ishr, 1) := by decide +kernel
theorem dX1_deal_64 : decode cX1_deal 64 = .ok (.iconst 1, 1) := by decide +kernel
theorem dX1_deal_65 : decode cX1_deal 65 = .ok (.iand, 1) := by decide +kernel
theorem dX1_deal_66 : decode cX1_deal 66 = .ok (.iconst 1, 1) := by decide +kernel
theorem dX1_deal_67 : decode cX1_deal 67 = .ok (.if_icmp .ne 62, 3) := by decide +kernel
theorem dX1_deal_70 : decode cX1_deal 70 = .ok (.iload 4, 2) := by decide +kernel
theorem dX1_deal_72 : decode cX1_deal 72 = .ok (.aload_n 0, 1) := by decide +kernel
theorem dX1_deal_73 : decode cX1_deal 73 = .ok (.getfield 18, 3) := by decide +kernel
theorem dX1_deal_76 : decode cX1_deal 76 = .ok (.iload 5, 2) := by decide +kernel
theorem dX1_deal_78 : decode cX1_deal 78 = .ok (.iaload, 1) := by decide +kernel
theorem dX1_deal_79 : decode cX1_deal 79 = .ok (.if_icmp .gt 50, 3) := by decide +kernel
theorem dX1_deal_82 : decode cX1_deal 82 = .ok (.aload_n 0, 1) := by decide +kernel
theorem dX1_deal_83 : decode cX1_deal 83 = .ok (.getfield 18, 3) := by decide +kernel
theorem dX1_deal_86 : decode cX1_deal 86 = .ok (.iload 5, 2) := by decide +kernel
theorem dX1_deal_88 : decode cX1_deal 88 = .ok (.dup2, 1) := by decide +kernel
theorem dX1_deal_89 : decode cX1_deal 89 = .ok (.iaload, 1) := by decide +kernel
theorem dX1_deal_90 : decode cX1_deal 90 = .ok (.iload 4, 2) := by decide +kernel
theorem dX1_deal_92 : decode cX1_deal 92 = .ok (.isub, 1) := by decide +kernel
theorem dX1_deal_93 : decode cX1_deal 93 = .ok (.iastore, 1) := by decide +kernel
theorem dX1_deal_94 : decode cX1_deal 94 = .ok (.aload_n 0, 1) := by decide +kernel
theorem dX1_deal_95 : decode cX1_deal 95 = .ok (.getfield 21, 3) := by decide +kernel
theorem dX1_deal_98 : decode cX1_deal 98 = .ok (.iload_n 1, 1) := by decide +kernel
theorem dX1_deal_99 : decode cX1_deal 99 = .ok (.iload 5, 2) := by decide +kernel
theorem dX1_deal_101 : decode cX1_deal 101 = .ok (.iastore, 1) := by decide +kernel
theorem dX1_deal_102 : decode cX1_deal 102 = .ok (.aload_n 0, 1) := by decide +kernel
theorem dX1_deal_103 : decode cX1_deal 103 = .ok (.iload_n 1, 1) := by decide +kernel
theorem dX1_deal_104 : decode cX1_deal 104 = .ok (.iconst 1, 1) := by decide +kernel
theorem dX1_deal_105 : decode cX1_deal 105 = .ok (.iadd, 1) := by decide +kernel
theorem dX1_deal_106 : decode cX1_deal 106 = .ok (.iload_n 2, 1) := by decide +kernel
theorem dX1_deal_107 : decode cX1_deal 107 = .ok (.iload 4, 2) := by decide +kernel
theorem dX1_deal_109 : decode cX1_deal 109 = .ok (.iadd, 1) := by decide +kernel
theorem dX1_deal_110 : decode cX1_deal 110 = .ok (.iload_n 3, 1) := by decide +kernel
theorem dX1_deal_111 : decode cX1_deal 111 = .ok (.iload 4, 2) := by decide +kernel
theorem dX1_deal_113 : decode cX1_deal 113 = .ok (.isub, 1) := by decide +kernel
theorem dX1_deal_114 : decode cX1_deal 114 = .ok (.invokestatic 60, 3) := by decide +kernel
theorem dX1_deal_117 : decode cX1_deal 117 = .ok (.aload_n 0, 1) := by decide +kernel
theorem dX1_deal_118 : decode cX1_deal 118 = .ok (.getfield 18, 3) := by decide +kernel
theorem dX1_deal_121 : decode cX1_deal 121 = .ok (.iload 5, 2) := by decide +kernel
theorem dX1_deal_123 : decode cX1_deal 123 = .ok (.dup2, 1) := by decide +kernel
theorem dX1_deal_124 : decode cX1_deal 124 = .ok (.iaload, 1) := by decide +kernel
theorem dX1_deal_125 : decode cX1_deal 125 = .ok (.iload 4, 2) := by decide +kernel
theorem dX1_deal_127 : decode cX1_deal 127 = .ok (.iadd, 1) := by decide +kernel
theorem dX1_deal_128 : decode cX1_deal 128 = .ok (.iastore, 1) := by decide +kernel
theorem dX1_deal_129 : decode cX1_deal 129 = .ok (.iinc 5 1, 3) := by decide +kernel
theorem dX1_deal_132 : decode cX1_deal 132 = .ok (.goto (-83), 3) := by decide +kernel
theorem dX1_deal_135 : decode cX1_deal 135 = .ok (.aload_n 0, 1) := by decide +kernel
theorem dX1_deal_136 : decode cX1_deal 136 = .ok (.getfield 21, 3) := by decide +kernel
theorem dX1_deal_139 : decode cX1_deal 139 = .ok (.iload_n 1, 1) := by decide +kernel
theorem dX1_deal_140 : decode cX1_deal 140 = .ok (.bipush (-4), 2) := by decide +kernel
theorem dX1_deal_142 : decode cX1_deal 142 = .ok (.iastore, 1) := by decide +kernel
theorem dX1_deal_143 : decode cX1_deal 143 = .ok (.aload_n 0, 1) := by decide +kernel
theorem dX1_deal_144 : decode cX1_deal 144 = .ok (.iload_n 1, 1) := by decide +kernel
theorem dX1_deal_145 : decode cX1_deal 145 = .ok (.iconst 1, 1) := by decide +kernel
theorem dX1_deal_146 : decode cX1_deal 146 = .ok (.iadd, 1) := by decide +kernel
theorem dX1_deal_147 : decode cX1_deal 147 = .ok (.iload_n 2, 1) := by decide +kernel
theorem dX1_deal_148 : decode cX1_deal 148 = .ok (.iload_n 3, 1) := by decide +kernel
theorem dX1_deal_149 : decode cX1_deal 149 = .ok (.invokestatic 60, 3) := by decide +kernel
theorem dX1_deal_152 : decode cX1_deal 152 = .ok (.return_, 1) := by decide +kernel
theorem dX1_keepIfBetter_0 : decode cX1_keepIfBetter 0 = .ok (.iload_n 1, 1) := by decide +kernel
theorem dX1_keepIfBetter_1 : decode cX1_keepIfBetter 1 = .ok (.aload_n 0, 1) := by decide +kernel
theorem dX1_keepIfBetter_2 : decode cX1_keepIfBetter 2 = .ok (.getfield 56, 3) := by decide +kernel
theorem dX1_keepIfBetter_5 : decode cX1_keepIfBetter 5 = .ok (.if_icmp .le 23, 3) := by decide +kernel
theorem dX1_keepIfBetter_8 : decode cX1_keepIfBetter 8 = .ok (.aload_n 0, 1) := by decide +kernel
theorem dX1_keepIfBetter_9 : decode cX1_keepIfBetter 9 = .ok (.iload_n 1, 1) := by decide +kernel
theorem dX1_keepIfBetter_10 : decode cX1_keepIfBetter 10 = .ok (.putfield 56, 3) := by decide +kernel
theorem dX1_keepIfBetter_13 : decode cX1_keepIfBetter 13 = .ok (.aload_n 0, 1) := by decide +kernel
theorem dX1_keepIfBetter_14 : decode cX1_keepIfBetter 14 = .ok (.getfield 21, 3) := by decide +kernel
theorem dX1_keepIfBetter_17 : decode cX1_keepIfBetter 17 = .ok (.iconst 0, 1) := by decide +kernel
theorem dX1_keepIfBetter_18 : decode cX1_keepIfBetter 18 = .ok (.aload_n 0, 1) := by decide +kernel
theorem dX1_keepIfBetter_19 : decode cX1_keepIfBetter 19 = .ok (.getfield 24, 3) := by decide +kernel
theorem dX1_keepIfBetter_22 : decode cX1_keepIfBetter 22 = .ok (.iconst 0, 1) := by decide +kernel
theorem dX1_keepIfBetter_23 : decode cX1_keepIfBetter 23 = .ok (.bipush 8, 2) := by decide +kernel
theorem dX1_keepIfBetter_25 : decode cX1_keepIfBetter 25 = .ok (.invokestatic 81, 3) := by decide +kernel
theorem dX1_keepIfBetter_28 : decode cX1_keepIfBetter 28 = .ok (.return_, 1) := by decide +kernel
theorem dX2_init_0 : decode cX2_init 0 = .ok (.aload_n 0, 1) := by decide +kernel
theorem dX2_init_1 : decode cX2_init 1 = .ok (.invokespecial 3, 3) := by decide +kernel
theorem dX2_init_4 : decode cX2_init 4 = .ok (.aload_n 0, 1) := by decide +kernel
theorem dX2_init_5 : decode cX2_init 5 = .ok (.bipush 8, 2) := by decide +kernel
theorem dX2_init_7 : decode cX2_init 7 = .ok (.newarray .int, 2) := by decide +kernel
theorem dX2_init_9 : decode cX2_init 9 = .ok (.putfield 9, 3) := by decide +kernel
theorem dX2_init_12 : decode cX2_init 12 = .ok (.aload_n 0, 1) := by decide +kernel
theorem dX2_init_13 : decode cX2_init 13 = .ok (.bipush 8, 2) := by decide +kernel
theorem dX2_init_15 : decode cX2_init 15 = .ok (.newarray .int, 2) := by decide +kernel
theorem dX2_init_17 : decode cX2_init 17 = .ok (.putfield 15, 3) := by decide +kernel
theorem dX2_init_20 : decode cX2_init 20 = .ok (.aload_n 0, 1) := by decide +kernel
theorem dX2_init_21 : decode cX2_init 21 = .ok (.bipush 8, 2) := by decide +kernel
theorem dX2_init_23 : decode cX2_init 23 = .ok (.newarray .int, 2) := by decide +kernel
theorem dX2_init_25 : decode cX2_init 25 = .ok (.putfield 18, 3) := by decide +kernel
theorem dX2_init_28 : decode cX2_init 28 = .ok (.aload_n 0, 1) := by decide +kernel
theorem dX2_init_29 : decode cX2_init 29 = .ok (.iconst 4, 1) := by decide +kernel
theorem dX2_init_30 : decode cX2_init 30 = .ok (.newarray .int, 2) := by decide +kernel
theorem dX2_init_32 : decode cX2_init 32 = .ok (.putfield 21, 3) := by decide +kernel
theorem dX2_init_35 : decode cX2_init 35 = .ok (.aload_n 0, 1) := by decide +kernel
theorem dX2_init_36 : decode cX2_init 36 = .ok (.iconst 4, 1) := by decide +kernel
theorem dX2_init_37 : decode cX2_init 37 = .ok (.newarray .int, 2) := by decide +kernel
theorem dX2_init_39 : decode cX2_init 39 = .ok (.putfield 24, 3) := by decide +kernel
theorem dX2_init_42 : decode cX2_init 42 = .ok (.return_, 1) := by decide +kernel
theorem dX2_read_0 : decode cX2_read 0 = .ok (.aload_n 0, 1) := by decide +kernel
theorem dX2_read_1 : decode cX2_read 1 = .ok (.iconst 0, 1) := by decide +kernel
theorem dX2_read_2 : decode cX2_read 2 = .ok (.putfield 27, 3) := by decide +kernel
theorem dX2_read_5 : decode cX2_read 5 = .ok (.aload_n 0, 1) := by decide +kernel
theorem dX2_read_6 : decode cX2_read 6 = .ok (.iconst 0, 1) := by decide +kernel
theorem dX2_read_7 : decode cX2_read 7 = .ok (.putfield 31, 3) := by decide +kernel
theorem dX2_read_10 : decode cX2_read 10 = .ok (.aload_n 0, 1) := by decide +kernel
theorem dX2_read_11 : decode cX2_read 11 = .ok (.bipush 20, 2) := by decide +kernel
theorem dX2_read_13 : decode cX2_read 13 = .ok (.putfield 34, 3) := by decide +kernel
theorem dX2_read_16 : decode cX2_read 16 = .ok (.aload_n 0, 1) := by decide +kernel
theorem dX2_read_17 : decode cX2_read 17 = .ok (.iconst 3, 1) := by decide +kernel
theorem dX2_read_18 : decode cX2_read 18 = .ok (.putfield 37, 3) := by decide +kernel
theorem dX2_read_21 : decode cX2_read 21 = .ok (.aload_n 0, 1) := by decide +kernel
theorem dX2_read_22 : decode cX2_read 22 = .ok (.bipush 10, 2) := by decide +kernel
theorem dX2_read_24 : decode cX2_read 24 = .ok (.putfield 40, 3) := by decide +kernel
theorem dX2_read_27 : decode cX2_read 27 = .ok (.aload_n 2, 1) := by decide +kernel
theorem dX2_read_28 : decode cX2_read 28 = .ok (.invokevirtual 43, 3) := by decide +kernel
theorem dX2_read_31 : decode cX2_read 31 = .ok (.iconst 0, 1) := by decide +kernel
theorem dX2_read_32 : decode cX2_read 32 = .ok (.istore_n 3, 1) := by decide +kernel
theorem dX2_read_33 : decode cX2_read 33 = .ok (.iconst 0, 1) := by decide +kernel
theorem dX2_read_34 : decode cX2_read 34 = .ok (.istore 4, 2) := by decide +kernel
theorem dX2_read_36 : decode cX2_read 36 = .ok (.iload 4, 2) := by decide +kernel
theorem dX2_read_38 : decode cX2_read 38 = .ok (.sipush 200, 3) := by decide +kernel
theorem dX2_read_41 : decode cX2_read 41 = .ok (.if_icmp .ge 42, 3) := by decide +kernel
theorem dX2_read_44 : decode cX2_read 44 = .ok (.iload_n 3, 1) := by decide +kernel
theorem dX2_read_45 : decode cX2_read 45 = .ok (.ifCond .lt 38, 3) := by decide +kernel
theorem dX2_read_48 : decode cX2_read 48 = .ok (.iload_n 3, 1) := by decide +kernel
theorem dX2_read_49 : decode cX2_read 49 = .ok (.aload_n 1, 1) := by decide +kernel
theorem dX2_read_50 : decode cX2_read 50 = .ok (.getfield 50, 3) := by decide +kernel
theorem dX2_read_53 : decode cX2_read 53 = .ok (.if_icmp .ge 30, 3) := by decide +kernel
theorem dX2_read_56 : decode cX2_read 56 = .ok (.aload_n 1, 1) := by decide +kernel
theorem dX2_read_57 : decode cX2_read 57 = .ok (.iload_n 3, 1) := by decide +kernel
theorem dX2_read_58 : decode cX2_read 58 = .ok (.invokevirtual 53, 3) := by decide +kernel
theorem dX2_read_61 : decode cX2_read 61 = .ok (.istore 5, 2) := by decide +kernel
theorem dX2_read_63 : decode cX2_read 63 = .ok (.aload_n 0, 1) := by decide +kernel
theorem dX2_read_64 : decode cX2_read 64 = .ok (.aload_n 1, 1) := by decide +kernel
theorem dX2_read_65 : decode cX2_read 65 = .ok (.iload_n 3, 1) := by decide +kernel
theorem dX2_read_66 : decode cX2_read 66 = .ok (.invokevirtual 57, 3) := by decide +kernel
theorem dX2_read_69 : decode cX2_read 69 = .ok (.aload_n 1, 1) := by decide +kernel
theorem dX2_read_70 : decode cX2_read 70 = .ok (.aload_n 2, 1) := by decide +kernel
theorem dX2_read_71 : decode cX2_read 71 = .ok (.invokevirtual 61, 3) := by decide +kernel
theorem dX2_read_74 : decode cX2_read 74 = .ok (.iload 5, 2) := by decide +kernel
theorem dX2_read_76 : decode cX2_read 76 = .ok (.istore_n 3, 1) := by decide +kernel
theorem dX2_read_77 : decode cX2_read 77 = .ok (.iinc 4 1, 3) := by decide +kernel
theorem dX2_read_80 : decode cX2_read 80 = .ok (.goto (-44), 3) := by decide +kernel
theorem dX2_read_83 : decode cX2_read 83 = .ok (.return_, 1) := by decide +kernel
theorem dX2_put_0 : decode cX2_put 0 = .ok (.iload_n 1, 1) := by decide +kernel
theorem dX2_put_1 : decode cX2_put 1 = .ok (.bipush 98, 2) := by decide +kernel
theorem dX2_put_3 : decode cX2_put 3 = .ok (.if_icmp .ne 12, 3) := by decide +kernel
theorem dX2_put_6 : decode cX2_put 6 = .ok (.aload_n 0, 1) := by decide +kernel
theorem dX2_put_7 : decode cX2_put 7 = .ok (.aload_n 2, 1) := by decide +kernel
theorem dX2_put_8 : decode cX2_put 8 = .ok (.aload_n 3, 1) := by decide +kernel
theorem dX2_put_9 : decode cX2_put 9 = .ok (.invokevirtual 65, 3) := by decide +kernel
theorem dX2_put_12 : decode cX2_put 12 = .ok (.goto 60, 3) := by decide +kernel
theorem dX2_put_15 : decode cX2_put 15 = .ok (.iload_n 1, 1) := by decide +kernel
theorem dX2_put_16 : decode cX2_put 16 = .ok (.bipush 116, 2) := by decide +kernel
theorem dX2_put_18 : decode cX2_put 18 = .ok (.if_icmp .ne 12, 3) := by decide +kernel
theorem dX2_put_21 : decode cX2_put 21 = .ok (.aload_n 0, 1) := by decide +kernel
theorem dX2_put_22 : decode cX2_put 22 = .ok (.aload_n 2, 1) := by decide +kernel
theorem dX2_put_23 : decode cX2_put 23 = .ok (.aload_n 3, 1) := by decide +kernel
theorem dX2_put_24 : decode cX2_put 24 = .ok (.invokevirtual 69, 3) := by decide +kernel
theorem dX2_put_27 : decode cX2_put 27 = .ok (.goto 45, 3) := by decide +kernel
theorem dX2_put_30 : decode cX2_put 30 = .ok (.iload_n 1, 1) := by decide +kernel
theorem dX2_put_31 : decode cX2_put 31 = .ok (.bipush 107, 2) := by decide +kernel
theorem dX2_put_33 : decode cX2_put 33 = .ok (.if_icmp .ne 24, 3) := by decide +kernel
theorem dX2_put_36 : decode cX2_put 36 = .ok (.aload_n 0, 1) := by decide +kernel
theorem dX2_put_37 : decode cX2_put 37 = .ok (.aload_n 2, 1) := by decide +kernel
theorem dX2_put_38 : decode cX2_put 38 = .ok (.iconst 0, 1) := by decide +kernel
theorem dX2_put_39 : decode cX2_put 39 = .ok (.invokevirtual 72, 3) := by decide +kernel
theorem dX2_put_42 : decode cX2_put 42 = .ok (.putfield 34, 3) := by decide +kernel
theorem dX2_put_45 : decode cX2_put 45 = .ok (.aload_n 0, 1) := by decide +kernel
theorem dX2_put_46 : decode cX2_put 46 = .ok (.aload_n 2, 1) := by decide +kernel
theorem dX2_put_47 : decode cX2_put 47 = .ok (.iconst 1, 1) := by decide +kernel
theorem dX2_put_48 : decode cX2_put 48 = .ok (.invokevirtual 72, 3) := by decide +kernel
theorem dX2_put_51 : decode cX2_put 51 = .ok (.putfield 37, 3) := by decide +kernel
theorem dX2_put_54 : decode cX2_put 54 = .ok (.goto 18, 3) := by decide +kernel
theorem dX2_put_57 : decode cX2_put 57 = .ok (.iload_n 1, 1) := by decide +kernel
theorem dX2_put_58 : decode cX2_put 58 = .ok (.bipush 102, 2) := by decide +kernel
theorem dX2_put_60 : decode cX2_put 60 = .ok (.if_icmp .ne 12, 3) := by decide +kernel
theorem dX2_put_63 : decode cX2_put 63 = .ok (.aload_n 0, 1) := by decide +kernel
theorem dX2_put_64 : decode cX2_put 64 = .ok (.aload_n 2, 1) := by decide +kernel
theorem dX2_put_65 : decode cX2_put 65 = .ok (.iconst 0, 1) := by decide +kernel
theorem dX2_put_66 : decode cX2_put 66 = .ok (.invokevirtual 72, 3) := by decide +kernel
theorem dX2_put_69 : decode cX2_put 69 = .ok (.putfield 40, 3) := by decide +kernel
theorem dX2_put_72 : decode cX2_put 72 = .ok (.return_, 1) := by decide +kernel
theorem dX2_putBough_0 : decode cX2_putBough 0 = .ok (.aload_n 0, 1) := by decide +kernel
theorem dX2_putBough_1 : decode cX2_putBough 1 = .ok (.getfield 27, 3) := by decide +kernel
theorem dX2_putBough_4 : decode cX2_putBough 4 = .ok (.ifCond .lt 77, 3) := by decide +kernel
theorem dX2_putBough_7 : decode cX2_putBough 7 = .ok (.aload_n 0, 1) := by decide +kernel
theorem dX2_putBough_8 : decode cX2_putBough 8 = .ok (.getfield 27, 3) := by decide +kernel
theorem dX2_putBough_11 : decode cX2_putBough 11 = .ok (.bipush 8, 2) := by decide +kernel
theorem dX2_putBough_13 : decode cX2_putBough 13 = .ok (.if_icmp .ge 68, 3) := by decide +kernel
theorem dX2_putBough_16 : decode cX2_putBough 16 = .ok (.aload_n 0, 1) := by decide +kernel
theorem dX2_putBough_17 : decode cX2_putBough 17 = .ok (.getfield 9, 3) := by decide +kernel
theorem dX2_putBough_20 : decode cX2_putBough 20 = .ok (.aload_n 0, 1) := by decide +kernel
theorem dX2_putBough_21 : decode cX2_putBough 21 = .ok (.getfield 27, 3) := by decide +kernel
theorem dX2_putBough_24 : decode cX2_putBough 24 = .ok (.aload_n 1, 1) := by decide +kernel
theorem dX2_putBough_25 : decode cX2_putBough 25 = .ok (.iconst 0, 1) := by decide +kernel
theorem dX2_putBough_26 : decode cX2_putBough 26 = .ok (.invokevirtual 72, 3) := by decide +kernel
theorem dX2_putBough_29 : decode cX2_putBough 29 = .ok (.iastore, 1) := by decide +kernel
theorem dX2_putBough_30 : decode cX2_putBough 30 = .ok (.aload_n 0, 1) := by decide +kernel
theorem dX2_putBough_31 : decode cX2_putBough 31 = .ok (.getfield 15, 3) := by decide +kernel
theorem dX2_putBough_34 : decode cX2_putBough 34 = .ok (.aload_n 0, 1) := by decide +kernel
theorem dX2_putBough_35 : decode cX2_putBough 35 = .ok (.getfield 27, 3) := by decide +kernel
theorem dX2_putBough_38 : decode cX2_putBough 38 = .ok (.aload_n 1, 1) := by decide +kernel
theorem dX2_putBough_39 : decode cX2_putBough 39 = .ok (.iconst 1, 1) := by decide +kernel
theorem dX2_putBough_40 : decode cX2_putBough 40 = .ok (.invokevirtual 72, 3) := by decide +kernel
theorem dX2_putBough_43 : decode cX2_putBough 43 = .ok (.iastore, 1) := by decide +kernel
theorem dX2_putBough_44 : decode cX2_putBough 44 = .ok (.aload_n 0, 1) := by decide +kernel
theorem dX2_putBough_45 : decode cX2_putBough 45 = .ok (.getfield 18, 3) := by decide +kernel
theorem dX2_putBough_48 : decode cX2_putBough 48 = .ok (.aload_n 0, 1) := by decide +kernel
theorem dX2_putBough_49 : decode cX2_putBough 49 = .ok (.getfield 27, 3) := by decide +kernel
theorem dX2_putBough_52 : decode cX2_putBough 52 = .ok (.aload_n 1, 1) := by decide +kernel
theorem dX2_putBough_53 : decode cX2_putBough 53 = .ok (.iconst 2, 1) := by decide +kernel
theorem dX2_putBough_54 : decode cX2_putBough 54 = .ok (.invokevirtual 72, 3) := by decide +kernel
theorem dX2_putBough_57 : decode cX2_putBough 57 = .ok (.iastore, 1) := by decide +kernel
theorem dX2_putBough_58 : decode cX2_putBough 58 = .ok (.aload_n 2, 1) := by decide +kernel
theorem dX2_putBough_59 : decode cX2_putBough 59 = .ok (.aload_n 0, 1) := by decide +kernel
theorem dX2_putBough_60 : decode cX2_putBough 60 = .ok (.getfield 27, 3) := by decide +kernel
theorem dX2_putBough_63 : decode cX2_putBough 63 = .ok (.aload_n 1, 1) := by decide +kernel
theorem dX2_putBough_64 : decode cX2_putBough 64 = .ok (.iconst 3, 1) := by decide +kernel
theorem dX2_putBough_65 : decode cX2_putBough 65 = .ok (.invokevirtual 72, 3) := by decide +kernel
theorem dX2_putBough_68 : decode cX2_putBough 68 = .ok (.invokevirtual 75, 3) := by decide +kernel
theorem dX2_putBough_71 : decode cX2_putBough 71 = .ok (.aload_n 0, 1) := by decide +kernel
theorem dX2_putBough_72 : decode cX2_putBough 72 = .ok (.dup, 1) := by decide +kernel
theorem dX2_putBough_73 : decode cX2_putBough 73 = .ok (.getfield 27, 3) := by decide +kernel
theorem dX2_putBough_76 : decode cX2_putBough 76 = .ok (.iconst 1, 1) := by decide +kernel
theorem dX2_putBough_77 : decode cX2_putBough 77 = .ok (.iadd, 1) := by decide +kernel
theorem dX2_putBough_78 : decode cX2_putBough 78 = .ok (.putfield 27, 3) := by decide +kernel
theorem dX2_putBough_81 : decode cX2_putBough 81 = .ok (.return_, 1) := by decide +kernel
theorem dX2_putTenant_0 : decode cX2_putTenant 0 = .ok (.aload_n 0, 1) := by decide +kernel
theorem dX2_putTenant_1 : decode cX2_putTenant 1 = .ok (.getfield 31, 3) := by decide +kernel
theorem dX2_putTenant_4 : decode cX2_putTenant 4 = .ok (.ifCond .lt 62, 3) := by decide +kernel
theorem dX2_putTenant_7 : decode cX2_putTenant 7 = .ok (.aload_n 0, 1) := by decide +kernel
theorem dX2_putTenant_8 : decode cX2_putTenant 8 = .ok (.getfield 31, 3) := by decide +kernel
theorem dX2_putTenant_11 : decode cX2_putTenant 11 = .ok (.iconst 4, 1) := by decide +kernel
theorem dX2_putTenant_12 : decode cX2_putTenant 12 = .ok (.if_icmp .ge 54, 3) := by decide +kernel
theorem dX2_putTenant_15 : decode cX2_putTenant 15 = .ok (.aload_n 2, 1) := by decide +kernel
theorem dX2_putTenant_16 : decode cX2_putTenant 16 = .ok (.aload_n 0, 1) := by decide +kernel
theorem dX2_putTenant_17 : decode cX2_putTenant 17 = .ok (.getfield 31, 3) := by decide +kernel
theorem dX2_putTenant_20 : decode cX2_putTenant 20 = .ok (.aload_n 1, 1) := by decide +kernel
theorem dX2_putTenant_21 : decode cX2_putTenant 21 = .ok (.iconst 0, 1) := by decide +kernel
theorem dX2_putTenant_22 : decode cX2_putTenant 22 = .ok (.invokevirtual 72, 3) := by decide +kernel
theorem dX2_putTenant_25 : decode cX2_putTenant 25 = .ok (.invokevirtual 79, 3) := by decide +kernel
theorem dX2_putTenant_28 : decode cX2_putTenant 28 = .ok (.aload_n 0, 1) := by decide +kernel
theorem dX2_putTenant_29 : decode cX2_putTenant 29 = .ok (.getfield 21, 3) := by decide +kernel
theorem dX2_putTenant_32 : decode cX2_putTenant 32 = .ok (.aload_n 0, 1) := by decide +kernel
theorem dX2_putTenant_33 : decode cX2_putTenant 33 = .ok (.getfield 31, 3) := by decide +kernel
theorem dX2_putTenant_36 : decode cX2_putTenant 36 = .ok (.aload_n 1, 1) := by decide +kernel
theorem dX2_putTenant_37 : decode cX2_putTenant 37 = .ok (.iconst 1, 1) := by decide +kernel
theorem dX2_putTenant_38 : decode cX2_putTenant 38 = .ok (.invokevirtual 72, 3) := by decide +kernel
theorem dX2_putTenant_41 : decode cX2_putTenant 41 = .ok (.iastore, 1) := by decide +kernel
theorem dX2_putTenant_42 : decode cX2_putTenant 42 = .ok (.aload_n 0, 1) := by decide +kernel
theorem dX2_putTenant_43 : decode cX2_putTenant 43 = .ok (.getfield 24, 3) := by decide +kernel
theorem dX2_putTenant_46 : decode cX2_putTenant 46 = .ok (.aload_n 0, 1) := by decide +kernel
theorem dX2_putTenant_47 : decode cX2_putTenant 47 = .ok (.getfield 31, 3) := by decide +kernel
theorem dX2_putTenant_50 : decode cX2_putTenant 50 = .ok (.aload_n 1, 1) := by decide +kernel
theorem dX2_putTenant_51 : decode cX2_putTenant 51 = .ok (.iconst 2, 1) := by decide +kernel
theorem dX2_putTenant_52 : decode cX2_putTenant 52 = .ok (.invokevirtual 72, 3) := by decide +kernel
theorem dX2_putTenant_55 : decode cX2_putTenant 55 = .ok (.iastore, 1) := by decide +kernel
theorem dX2_putTenant_56 : decode cX2_putTenant 56 = .ok (.aload_n 0, 1) := by decide +kernel
theorem dX2_putTenant_57 : decode cX2_putTenant 57 = .ok (.dup, 1) := by decide +kernel
theorem dX2_putTenant_58 : decode cX2_putTenant 58 = .ok (.getfield 31, 3) := by decide +kernel
theorem dX2_putTenant_61 : decode cX2_putTenant 61 = .ok (.iconst 1, 1) := by decide +kernel
theorem dX2_putTenant_62 : decode cX2_putTenant 62 = .ok (.iadd, 1) := by decide +kernel
theorem dX2_putTenant_63 : decode cX2_putTenant 63 = .ok (.putfield 31, 3) := by decide +kernel
theorem dX2_putTenant_66 : decode cX2_putTenant 66 = .ok (.return_, 1) := by decide +kernel
theorem dX2_hasBough_0 : decode cX2_hasBough 0 = .ok (.iload_n 1, 1) := by decide +kernel
theorem dX2_hasBough_1 : decode cX2_hasBough 1 = .ok (.ifCond .lt 21, 3) := by decide +kernel
theorem dX2_hasBough_4 : decode cX2_hasBough 4 = .ok (.iload_n 1, 1) := by decide +kernel
theorem dX2_hasBough_5 : decode cX2_hasBough 5 = .ok (.aload_n 0, 1) := by decide +kernel
theorem dX2_hasBough_6 : decode cX2_hasBough 6 = .ok (.getfield 27, 3) := by decide +kernel
theorem dX2_hasBough_9 : decode cX2_hasBough 9 = .ok (.if_icmp .ge 13, 3) := by decide +kernel
theorem dX2_hasBough_12 : decode cX2_hasBough 12 = .ok (.iload_n 1, 1) := by decide +kernel
theorem dX2_hasBough_13 : decode cX2_hasBough 13 = .ok (.bipush 8, 2) := by decide +kernel
theorem dX2_hasBough_15 : decode cX2_hasBough 15 = .ok (.if_icmp .ge 7, 3) := by decide +kernel
theorem dX2_hasBough_18 : decode cX2_hasBough 18 = .ok (.iconst 1, 1) := by decide +kernel
theorem dX2_hasBough_19 : decode cX2_hasBough 19 = .ok (.goto 4, 3) := by decide +kernel
theorem dX2_hasBough_22 : decode cX2_hasBough 22 = .ok (.iconst 0, 1) := by decide +kernel
theorem dX2_hasBough_23 : decode cX2_hasBough 23 = .ok (.ireturn, 1) := by decide +kernel
theorem dX2_hasTenant_0 : decode cX2_hasTenant 0 = .ok (.iload_n 1, 1) := by decide +kernel
theorem dX2_hasTenant_1 : decode cX2_hasTenant 1 = .ok (.ifCond .lt 20, 3) := by decide +kernel
theorem dX2_hasTenant_4 : decode cX2_hasTenant 4 = .ok (.iload_n 1, 1) := by decide +kernel
theorem dX2_hasTenant_5 : decode cX2_hasTenant 5 = .ok (.aload_n 0, 1) := by decide +kernel
theorem dX2_hasTenant_6 : decode cX2_hasTenant 6 = .ok (.getfield 31, 3) := by decide +kernel
theorem dX2_hasTenant_9 : decode cX2_hasTenant 9 = .ok (.if_icmp .ge 12, 3) := by decide +kernel
theorem dX2_hasTenant_12 : decode cX2_hasTenant 12 = .ok (.iload_n 1, 1) := by decide +kernel
theorem dX2_hasTenant_13 : decode cX2_hasTenant 13 = .ok (.iconst 4, 1) := by decide +kernel
theorem dX2_hasTenant_14 : decode cX2_hasTenant 14 = .ok (.if_icmp .ge 7, 3) := by decide +kernel
theorem dX2_hasTenant_17 : decode cX2_hasTenant 17 = .ok (.iconst 1, 1) := by decide +kernel
theorem dX2_hasTenant_18 : decode cX2_hasTenant 18 = .ok (.goto 4, 3) := by decide +kernel
theorem dX2_hasTenant_21 : decode cX2_hasTenant 21 = .ok (.iconst 0, 1) := by decide +kernel
theorem dX2_hasTenant_22 : decode cX2_hasTenant 22 = .ok (.ireturn, 1) := by decide +kernel
theorem dX2_kind_0 : decode cX2_kind 0 = .ok (.iload_n 1, 1) := by decide +kernel
theorem dX2_kind_1 : decode cX2_kind 1 = .ok (.ifCond .lt 21, 3) := by decide +kernel
theorem dX2_kind_4 : decode cX2_kind 4 = .ok (.iload_n 1, 1) := by decide +kernel
theorem dX2_kind_5 : decode cX2_kind 5 = .ok (.aload_n 0, 1) := by decide +kernel
theorem dX2_kind_6 : decode cX2_kind 6 = .ok (.getfield 9, 3) := by decide +kernel
theorem dX2_kind_9 : decode cX2_kind 9 = .ok (.arraylength, 1) := by decide +kernel
theorem dX2_kind_10 : decode cX2_kind 10 = .ok (.if_icmp .ge 12, 3) := by decide +kernel
theorem dX2_kind_13 : decode cX2_kind 13 = .ok (.aload_n 0, 1) := by decide +kernel
theorem dX2_kind_14 : decode cX2_kind 14 = .ok (.getfield 9, 3) := by decide +kernel
theorem dX2_kind_17 : decode cX2_kind 17 = .ok (.iload_n 1, 1) := by decide +kernel
theorem dX2_kind_18 : decode cX2_kind 18 = .ok (.iaload, 1) := by decide +kernel
theorem dX2_kind_19 : decode cX2_kind 19 = .ok (.goto 4, 3) := by decide +kernel
theorem dX2_kind_22 : decode cX2_kind 22 = .ok (.iconst 0, 1) := by decide +kernel
theorem dX2_kind_23 : decode cX2_kind 23 = .ok (.ireturn, 1) := by decide +kernel
theorem dX2_height_0 : decode cX2_height 0 = .ok (.iload_n 1, 1) := by decide +kernel
theorem dX2_height_1 : decode cX2_height 1 = .ok (.ifCond .lt 21, 3) := by decide +kernel
theorem dX2_height_4 : decode cX2_height 4 = .ok (.iload_n 1, 1) := by decide +kernel
theorem dX2_height_5 : decode cX2_height 5 = .ok (.aload_n 0, 1) := by decide +kernel
theorem dX2_height_6 : decode cX2_height 6 = .ok (.getfield 15, 3) := by decide +kernel
theorem dX2_height_9 : decode cX2_height 9 = .ok (.arraylength, 1) := by decide +kernel
theorem dX2_height_10 : decode cX2_height 10 = .ok (.if_icmp .ge 12, 3) := by decide +kernel
theorem dX2_height_13 : decode cX2_height 13 = .ok (.aload_n 0, 1) := by decide +kernel
theorem dX2_height_14 : decode cX2_height 14 = .ok (.getfield 15, 3) := by decide +kernel
theorem dX2_height_17 : decode cX2_height 17 = .ok (.iload_n 1, 1) := by decide +kernel
theorem dX2_height_18 : decode cX2_height 18 = .ok (.iaload, 1) := by decide +kernel
theorem dX2_height_19 : decode cX2_height 19 = .ok (.goto 4, 3) := by decide +kernel
theorem dX2_height_22 : decode cX2_height 22 = .ok (.iconst 0, 1) := by decide +kernel
theorem dX2_height_23 : decode cX2_height 23 = .ok (.ireturn, 1) := by decide +kernel
theorem dX2_weight_0 : decode cX2_weight 0 = .ok (.iload_n 1, 1) := by decide +kernel
theorem dX2_weight_1 : decode cX2_weight 1 = .ok (.ifCond .lt 21, 3) := by decide +kernel
theorem dX2_weight_4 : decode cX2_weight 4 = .ok (.iload_n 1, 1) := by decide +kernel
theorem dX2_weight_5 : decode cX2_weight 5 = .ok (.aload_n 0, 1) := by decide +kernel
theorem dX2_weight_6 : decode cX2_weight 6 = .ok (.getfield 18, 3) := by decide +kernel
theorem dX2_weight_9 : decode cX2_weight 9 = .ok (.arraylength, 1) := by decide +kernel
theorem dX2_weight_10 : decode cX2_weight 10 = .ok (.if_icmp .ge 12, 3) := by decide +kernel
theorem dX2_weight_13 : decode cX2_weight 13 = .ok (.aload_n 0, 1) := by decide +kernel
theorem dX2_weight_14 : decode cX2_weight 14 = .ok (.getfield 18, 3) := by decide +kernel
theorem dX2_weight_17 : decode cX2_weight 17 = .ok (.iload_n 1, 1) := by decide +kernel
theorem dX2_weight_18 : decode cX2_weight 18 = .ok (.iaload, 1) := by decide +kernel
theorem dX2_weight_19 : decode cX2_weight 19 = .ok (.goto 4, 3) := by decide +kernel
theorem dX2_weight_22 : decode cX2_weight 22 = .ok (.iconst 0, 1) := by decide +kernel
theorem dX2_weight_23 : decode cX2_weight 23 = .ok (.ireturn, 1) := by decide +kernel
theorem dX2_strength_0 : decode cX2_strength 0 = .ok (.iload_n 1, 1) := by decide +kernel
theorem dX2_strength_1 : decode cX2_strength 1 = .ok (.ifCond .lt 21, 3) := by decide +kernel
theorem dX2_strength_4 : decode cX2_strength 4 = .ok (.iload_n 1, 1) := by decide +kernel
theorem dX2_strength_5 : decode cX2_strength 5 = .ok (.aload_n 0, 1) := by decide +kernel
theorem dX2_strength_6 : decode cX2_strength 6 = .ok (.getfield 21, 3) := by decide +kernel
theorem dX2_strength_9 : decode cX2_strength 9 = .ok (.arraylength, 1) := by decide +kernel
theorem dX2_strength_10 : decode cX2_strength 10 = .ok (.if_icmp .ge 12, 3) := by decide +kernel
theorem dX2_strength_13 : decode cX2_strength 13 = .ok (.aload_n 0, 1) := by decide +kernel
theorem dX2_strength_14 : decode cX2_strength 14 = .ok (.getfield 21, 3) := by decide +kernel
theorem dX2_strength_17 : decode cX2_strength 17 = .ok (.iload_n 1, 1) := by decide +kernel
theorem dX2_strength_18 : decode cX2_strength 18 = .ok (.iaload, 1) := by decide +kernel
theorem dX2_strength_19 : decode cX2_strength 19 = .ok (.goto 4, 3) := by decide +kernel
theorem dX2_strength_22 : decode cX2_strength 22 = .ok (.iconst 0, 1) := by decide +kernel
theorem dX2_strength_23 : decode cX2_strength 23 = .ok (.ireturn, 1) := by decide +kernel
theorem dX2_hearth_0 : decode cX2_hearth 0 = .ok (.iload_n 1, 1) := by decide +kernel
theorem dX2_hearth_1 : decode cX2_hearth 1 = .ok (.ifCond .lt 21, 3) := by decide +kernel
theorem dX2_hearth_4 : decode cX2_hearth 4 = .ok (.iload_n 1, 1) := by decide +kernel
theorem dX2_hearth_5 : decode cX2_hearth 5 = .ok (.aload_n 0, 1) := by decide +kernel
theorem dX2_hearth_6 : decode cX2_hearth 6 = .ok (.getfield 24, 3) := by decide +kernel
theorem dX2_hearth_9 : decode cX2_hearth 9 = .ok (.arraylength, 1) := by decide +kernel
theorem dX2_hearth_10 : decode cX2_hearth 10 = .ok (.if_icmp .ge 12, 3) := by decide +kernel
theorem dX2_hearth_13 : decode cX2_hearth 13 = .ok (.aload_n 0, 1) := by decide +kernel
theorem dX2_hearth_14 : decode cX2_hearth 14 = .ok (.getfield 24, 3) := by decide +kernel
theorem dX2_hearth_17 : decode cX2_hearth 17 = .ok (.iload_n 1, 1) := by decide +kernel
theorem dX2_hearth_18 : decode cX2_hearth 18 = .ok (.iaload, 1) := by decide +kernel
theorem dX2_hearth_19 : decode cX2_hearth 19 = .ok (.goto 4, 3) := by decide +kernel
theorem dX2_hearth_22 : decode cX2_hearth 22 = .ok (.iconst 0, 1) := by decide +kernel
theorem dX2_hearth_23 : decode cX2_hearth 23 = .ok (.ireturn, 1) := by decide +kernel
theorem dX2_weightOf_0 : decode cX2_weightOf 0 = .ok (.iconst 0, 1) := by decide +kernel
theorem dX2_weightOf_1 : decode cX2_weightOf 1 = .ok (.istore_n 2, 1) := by decide +kernel
theorem dX2_weightOf_2 : decode cX2_weightOf 2 = .ok (.iconst 0, 1) := by decide +kernel
theorem dX2_weightOf_3 : decode cX2_weightOf 3 = .ok (.istore_n 3, 1) := by decide +kernel
theorem dX2_weightOf_4 : decode cX2_weightOf 4 = .ok (.iload_n 3, 1) := by decide +kernel
theorem dX2_weightOf_5 : decode cX2_weightOf 5 = .ok (.aload_n 0, 1) := by decide +kernel
theorem dX2_weightOf_6 : decode cX2_weightOf 6 = .ok (.getfield 27, 3) := by decide +kernel
theorem dX2_weightOf_9 : decode cX2_weightOf 9 = .ok (.if_icmp .ge 26, 3) := by decide +kernel
theorem dX2_weightOf_12 : decode cX2_weightOf 12 = .ok (.iload_n 1, 1) := by decide +kernel
theorem dX2_weightOf_13 : decode cX2_weightOf 13 = .ok (.iload_n 3, 1) := by decide +kernel
theorem dX2_weightOf_14 : decode cX2_weightOf 14 = .ok (.ishr, 1) := by decide +kernel
theorem dX2_weightOf_15 : decode cX2_weightOf 15 = .ok (.iconst 1, 1) := by decide +kernel
theorem dX2_weightOf_16 : decode cX2_weightOf 16 = .ok (.iand, 1) := by decide +kernel
theorem dX2_weightOf_17 : decode cX2_weightOf 17 = .ok (.iconst 1, 1) := by decide +kernel
theorem dX2_weightOf_18 : decode cX2_weightOf 18 = .ok (.if_icmp .ne 11, 3) := by decide +kernel
theorem dX2_weightOf_21 : decode cX2_weightOf 21 = .ok (.iload_n 2, 1) := by decide +kernel
theorem dX2_weightOf_22 : decode cX2_weightOf 22 = .ok (.aload_n 0, 1) := by decide +kernel
theorem dX2_weightOf_23 : decode cX2_weightOf 23 = .ok (.iload_n 3, 1) := by decide +kernel
theorem dX2_weightOf_24 : decode cX2_weightOf 24 = .ok (.invokevirtual 82, 3) := by decide +kernel
theorem dX2_weightOf_27 : decode cX2_weightOf 27 = .ok (.iadd, 1) := by decide +kernel
theorem dX2_weightOf_28 : decode cX2_weightOf 28 = .ok (.istore_n 2, 1) := by decide +kernel
theorem dX2_weightOf_29 : decode cX2_weightOf 29 = .ok (.iinc 3 1, 3) := by decide +kernel
theorem dX2_weightOf_32 : decode cX2_weightOf 32 = .ok (.goto (-28), 3) := by decide +kernel
theorem dX2_weightOf_35 : decode cX2_weightOf 35 = .ok (.iload_n 2, 1) := by decide +kernel
theorem dX2_weightOf_36 : decode cX2_weightOf 36 = .ok (.ireturn, 1) := by decide +kernel
theorem dX2_isDead_0 : decode cX2_isDead 0 = .ok (.iload_n 3, 1) := by decide +kernel
theorem dX2_isDead_1 : decode cX2_isDead 1 = .ok (.aload_n 1, 1) := by decide +kernel
theorem dX2_isDead_2 : decode cX2_isDead 2 = .ok (.iload_n 2, 1) := by decide +kernel
theorem dX2_isDead_3 : decode cX2_isDead 3 = .ok (.invokevirtual 85, 3) := by decide +kernel
theorem dX2_isDead_6 : decode cX2_isDead 6 = .ok (.if_icmp .lt 7, 3) := by decide +kernel
theorem dX2_isDead_9 : decode cX2_isDead 9 = .ok (.iconst 1, 1) := by decide +kernel
theorem dX2_isDead_10 : decode cX2_isDead 10 = .ok (.goto 4, 3) := by decide +kernel
theorem dX2_isDead_13 : decode cX2_isDead 13 = .ok (.iconst 0, 1) := by decide +kernel
theorem dX2_isDead_14 : decode cX2_isDead 14 = .ok (.ireturn, 1) := by decide +kernel
theorem dX2_hasFallen_0 : decode cX2_hasFallen 0 = .ok (.iload_n 3, 1) := by decide +kernel
theorem dX2_hasFallen_1 : decode cX2_hasFallen 1 = .ok (.aload_n 1, 1) := by decide +kernel
theorem dX2_hasFallen_2 : decode cX2_hasFallen 2 = .ok (.iload_n 2, 1) := by decide +kernel
theorem dX2_hasFallen_3 : decode cX2_hasFallen 3 = .ok (.invokevirtual 85, 3) := by decide +kernel
theorem dX2_hasFallen_6 : decode cX2_hasFallen 6 = .ok (.aload_n 0, 1) := by decide +kernel
theorem dX2_hasFallen_7 : decode cX2_hasFallen 7 = .ok (.getfield 40, 3) := by decide +kernel
theorem dX2_hasFallen_10 : decode cX2_hasFallen 10 = .ok (.iadd, 1) := by decide +kernel
theorem dX2_hasFallen_11 : decode cX2_hasFallen 11 = .ok (.if_icmp .lt 7, 3) := by decide +kernel
theorem dX2_hasFallen_14 : decode cX2_hasFallen 14 = .ok (.iconst 1, 1) := by decide +kernel
theorem dX2_hasFallen_15 : decode cX2_hasFallen 15 = .ok (.goto 4, 3) := by decide +kernel
theorem dX2_hasFallen_18 : decode cX2_hasFallen 18 = .ok (.iconst 0, 1) := by decide +kernel
theorem dX2_hasFallen_19 : decode cX2_hasFallen 19 = .ok (.ireturn, 1) := by decide +kernel
theorem dX2_isInReach_0 : decode cX2_isInReach 0 = .ok (.aload_n 0, 1) := by decide +kernel
theorem dX2_isInReach_1 : decode cX2_isInReach 1 = .ok (.iload_n 3, 1) := by decide +kernel
theorem dX2_isInReach_2 : decode cX2_isInReach 2 = .ok (.invokevirtual 88, 3) := by decide +kernel
theorem dX2_isInReach_5 : decode cX2_isInReach 5 = .ok (.tableswitch 73 0 3 #[31, 73, 50, 71], 31) := by decide +kernel
theorem dX2_isInReach_36 : decode cX2_isInReach 36 = .ok (.aload_n 0, 1) := by decide +kernel
theorem dX2_isInReach_37 : decode cX2_isInReach 37 = .ok (.iload_n 3, 1) := by decide +kernel
theorem dX2_isInReach_38 : decode cX2_isInReach 38 = .ok (.invokevirtual 91, 3) := by decide +kernel
theorem dX2_isInReach_41 : decode cX2_isInReach 41 = .ok (.aload_n 1, 1) := by decide +kernel
theorem dX2_isInReach_42 : decode cX2_isInReach 42 = .ok (.iload_n 2, 1) := by decide +kernel
theorem dX2_isInReach_43 : decode cX2_isInReach 43 = .ok (.invokevirtual 94, 3) := by decide +kernel
theorem dX2_isInReach_46 : decode cX2_isInReach 46 = .ok (.if_icmp .gt 7, 3) := by decide +kernel
theorem dX2_isInReach_49 : decode cX2_isInReach 49 = .ok (.iconst 1, 1) := by decide +kernel
theorem dX2_isInReach_50 : decode cX2_isInReach 50 = .ok (.goto 4, 3) := by decide +kernel
theorem dX2_isInReach_53 : decode cX2_isInReach 53 = .ok (.iconst 0, 1) := by decide +kernel
theorem dX2_isInReach_54 : decode cX2_isInReach 54 = .ok (.ireturn, 1) := by decide +kernel
theorem dX2_isInReach_55 : decode cX2_isInReach 55 = .ok (.aload_n 0, 1) := by decide +kernel
theorem dX2_isInReach_56 : decode cX2_isInReach 56 = .ok (.iload_n 3, 1) := by decide +kernel
theorem dX2_isInReach_57 : decode cX2_isInReach 57 = .ok (.invokevirtual 91, 3) := by decide +kernel
theorem dX2_isInReach_60 : decode cX2_isInReach 60 = .ok (.iconst 3, 1) := by decide +kernel
theorem dX2_isInReach_61 : decode cX2_isInReach 61 = .ok (.iadd, 1) := by decide +kernel
theorem dX2_isInReach_62 : decode cX2_isInReach 62 = .ok (.aload_n 1, 1) := by decide +kernel
theorem dX2_isInReach_63 : decode cX2_isInReach 63 = .ok (.iload_n 2, 1) := by decide +kernel
theorem dX2_isInReach_64 : decode cX2_isInReach 64 = .ok (.invokevirtual 94, 3) := by decide +kernel
theorem dX2_isInReach_67 : decode cX2_isInReach 67 = .ok (.if_icmp .gt 7, 3) := by decide +kernel
theorem dX2_isInReach_70 : decode cX2_isInReach 70 = .ok (.iconst 1, 1) := by decide +kernel
theorem dX2_isInReach_71 : decode cX2_isInReach 71 = .ok (.goto 4, 3) := by decide +kernel
theorem dX2_isInReach_74 : decode cX2_isInReach 74 = .ok (.iconst 0, 1) := by decide +kernel
theorem dX2_isInReach_75 : decode cX2_isInReach 75 = .ok (.ireturn, 1) := by decide +kernel
theorem dX2_isInReach_76 : decode cX2_isInReach 76 = .ok (.iconst 1, 1) := by decide +kernel
theorem dX2_isInReach_77 : decode cX2_isInReach 77 = .ok (.ireturn, 1) := by decide +kernel
theorem dX2_isInReach_78 : decode cX2_isInReach 78 = .ok (.iconst 0, 1) := by decide +kernel
theorem dX2_isInReach_79 : decode cX2_isInReach 79 = .ok (.ireturn, 1) := by decide +kernel
theorem dX2_couldTake_0 : decode cX2_couldTake 0 = .ok (.aload_n 0, 1) := by decide +kernel
theorem dX2_couldTake_1 : decode cX2_couldTake 1 = .ok (.aload_n 1, 1) := by decide +kernel
theorem dX2_couldTake_2 : decode cX2_couldTake 2 = .ok (.iload_n 3, 1) := by decide +kernel
theorem dX2_couldTake_3 : decode cX2_couldTake 3 = .ok (.iload 4, 2) := by decide +kernel
theorem dX2_couldTake_5 : decode cX2_couldTake 5 = .ok (.invokevirtual 97, 3) := by decide +kernel
theorem dX2_couldTake_8 : decode cX2_couldTake 8 = .ok (.ifCond .eq 44, 3) := by decide +kernel
theorem dX2_couldTake_11 : decode cX2_couldTake 11 = .ok (.iload 5, 2) := by decide +kernel
theorem dX2_couldTake_13 : decode cX2_couldTake 13 = .ok (.aload_n 0, 1) := by decide +kernel
theorem dX2_couldTake_14 : decode cX2_couldTake 14 = .ok (.iload_n 3, 1) := by decide +kernel
theorem dX2_couldTake_15 : decode cX2_couldTake 15 = .ok (.invokevirtual 82, 3) := by decide +kernel
theorem dX2_couldTake_18 : decode cX2_couldTake 18 = .ok (.iadd, 1) := by decide +kernel
theorem dX2_couldTake_19 : decode cX2_couldTake 19 = .ok (.aload_n 0, 1) := by decide +kernel
theorem dX2_couldTake_20 : decode cX2_couldTake 20 = .ok (.iload_n 2, 1) := by decide +kernel
theorem dX2_couldTake_21 : decode cX2_couldTake 21 = .ok (.invokevirtual 101, 3) := by decide +kernel
theorem dX2_couldTake_24 : decode cX2_couldTake 24 = .ok (.if_icmp .gt 28, 3) := by decide +kernel
theorem dX2_couldTake_27 : decode cX2_couldTake 27 = .ok (.aload_n 0, 1) := by decide +kernel
theorem dX2_couldTake_28 : decode cX2_couldTake 28 = .ok (.aload_n 1, 1) := by decide +kernel
theorem dX2_couldTake_29 : decode cX2_couldTake 29 = .ok (.iload_n 3, 1) := by decide +kernel
theorem dX2_couldTake_30 : decode cX2_couldTake 30 = .ok (.iload 4, 2) := by decide +kernel
theorem dX2_couldTake_32 : decode cX2_couldTake 32 = .ok (.invokevirtual 104, 3) := by decide +kernel
theorem dX2_couldTake_35 : decode cX2_couldTake 35 = .ok (.ifCond .ne 13, 3) := by decide +kernel
theorem dX2_couldTake_38 : decode cX2_couldTake 38 = .ok (.aload_n 0, 1) := by decide +kernel
theorem dX2_couldTake_39 : decode cX2_couldTake 39 = .ok (.aload_n 1, 1) := by decide +kernel
theorem dX2_couldTake_40 : decode cX2_couldTake 40 = .ok (.iload_n 2, 1) := by decide +kernel
theorem dX2_couldTake_41 : decode cX2_couldTake 41 = .ok (.iload_n 3, 1) := by decide +kernel
theorem dX2_couldTake_42 : decode cX2_couldTake 42 = .ok (.invokevirtual 107, 3) := by decide +kernel
theorem dX2_couldTake_45 : decode cX2_couldTake 45 = .ok (.ifCond .eq 7, 3) := by decide +kernel
theorem dX2_couldTake_48 : decode cX2_couldTake 48 = .ok (.iconst 1, 1) := by decide +kernel
theorem dX2_couldTake_49 : decode cX2_couldTake 49 = .ok (.goto 4, 3) := by decide +kernel
theorem dX2_couldTake_52 : decode cX2_couldTake 52 = .ok (.iconst 0, 1) := by decide +kernel
theorem dX2_couldTake_53 : decode cX2_couldTake 53 = .ok (.ireturn, 1) := by decide +kernel
theorem dX2_canTake_0 : decode cX2_canTake 0 = .ok (.aload_n 1, 1) := by decide +kernel
theorem dX2_canTake_1 : decode cX2_canTake 1 = .ok (.iload_n 3, 1) := by decide +kernel
theorem dX2_canTake_2 : decode cX2_canTake 2 = .ok (.invokevirtual 110, 3) := by decide +kernel
theorem dX2_canTake_5 : decode cX2_canTake 5 = .ok (.ifCond .ne 26, 3) := by decide +kernel
theorem dX2_canTake_8 : decode cX2_canTake 8 = .ok (.aload_n 0, 1) := by decide +kernel
theorem dX2_canTake_9 : decode cX2_canTake 9 = .ok (.aload_n 1, 1) := by decide +kernel
theorem dX2_canTake_10 : decode cX2_canTake 10 = .ok (.iload_n 2, 1) := by decide +kernel
theorem dX2_canTake_11 : decode cX2_canTake 11 = .ok (.iload_n 3, 1) := by decide +kernel
theorem dX2_canTake_12 : decode cX2_canTake 12 = .ok (.aload_n 1, 1) := by decide +kernel
theorem dX2_canTake_13 : decode cX2_canTake 13 = .ok (.getfield 114, 3) := by decide +kernel
theorem dX2_canTake_16 : decode cX2_canTake 16 = .ok (.aload_n 1, 1) := by decide +kernel
theorem dX2_canTake_17 : decode cX2_canTake 17 = .ok (.iload_n 2, 1) := by decide +kernel
theorem dX2_canTake_18 : decode cX2_canTake 18 = .ok (.invokevirtual 117, 3) := by decide +kernel
theorem dX2_canTake_21 : decode cX2_canTake 21 = .ok (.invokevirtual 120, 3) := by decide +kernel
theorem dX2_canTake_24 : decode cX2_canTake 24 = .ok (.ifCond .eq 7, 3) := by decide +kernel
theorem dX2_canTake_27 : decode cX2_canTake 27 = .ok (.iconst 1, 1) := by decide +kernel
theorem dX2_canTake_28 : decode cX2_canTake 28 = .ok (.goto 4, 3) := by decide +kernel
theorem dX2_canTake_31 : decode cX2_canTake 31 = .ok (.iconst 0, 1) := by decide +kernel
theorem dX2_canTake_32 : decode cX2_canTake 32 = .ok (.ireturn, 1) := by decide +kernel
theorem dX2_isCaught_0 : decode cX2_isCaught 0 = .ok (.aload_n 0, 1) := by decide +kernel
theorem dX2_isCaught_1 : decode cX2_isCaught 1 = .ok (.getfield 37, 3) := by decide +kernel
theorem dX2_isCaught_4 : decode cX2_isCaught 4 = .ok (.ifCond .le 53, 3) := by decide +kernel
theorem dX2_isCaught_7 : decode cX2_isCaught 7 = .ok (.aload_n 1, 1) := by decide +kernel
theorem dX2_isCaught_8 : decode cX2_isCaught 8 = .ok (.getfield 114, 3) := by decide +kernel
theorem dX2_isCaught_11 : decode cX2_isCaught 11 = .ok (.aload_n 0, 1) := by decide +kernel
theorem dX2_isCaught_12 : decode cX2_isCaught 12 = .ok (.getfield 37, 3) := by decide +kernel
theorem dX2_isCaught_15 : decode cX2_isCaught 15 = .ok (.irem, 1) := by decide +kernel
theorem dX2_isCaught_16 : decode cX2_isCaught 16 = .ok (.ifCond .ne 41, 3) := by decide +kernel
theorem dX2_isCaught_19 : decode cX2_isCaught 19 = .ok (.aload_n 1, 1) := by decide +kernel
theorem dX2_isCaught_20 : decode cX2_isCaught 20 = .ok (.iload_n 2, 1) := by decide +kernel
theorem dX2_isCaught_21 : decode cX2_isCaught 21 = .ok (.invokevirtual 94, 3) := by decide +kernel
theorem dX2_isCaught_24 : decode cX2_isCaught 24 = .ok (.aload_n 0, 1) := by decide +kernel
theorem dX2_isCaught_25 : decode cX2_isCaught 25 = .ok (.getfield 34, 3) := by decide +kernel
theorem dX2_isCaught_28 : decode cX2_isCaught 28 = .ok (.if_icmp .le 29, 3) := by decide +kernel
theorem dX2_isCaught_31 : decode cX2_isCaught 31 = .ok (.aload_n 0, 1) := by decide +kernel
theorem dX2_isCaught_32 : decode cX2_isCaught 32 = .ok (.iload_n 3, 1) := by decide +kernel
theorem dX2_isCaught_33 : decode cX2_isCaught 33 = .ok (.invokevirtual 88, 3) := by decide +kernel
theorem dX2_isCaught_36 : decode cX2_isCaught 36 = .ok (.iconst 3, 1) := by decide +kernel
theorem dX2_isCaught_37 : decode cX2_isCaught 37 = .ok (.if_icmp .eq 20, 3) := by decide +kernel
theorem dX2_isCaught_40 : decode cX2_isCaught 40 = .ok (.aload_n 0, 1) := by decide +kernel
theorem dX2_isCaught_41 : decode cX2_isCaught 41 = .ok (.aload_n 1, 1) := by decide +kernel
theorem dX2_isCaught_42 : decode cX2_isCaught 42 = .ok (.iload_n 3, 1) := by decide +kernel
theorem dX2_isCaught_43 : decode cX2_isCaught 43 = .ok (.aload_n 1, 1) := by decide +kernel
theorem dX2_isCaught_44 : decode cX2_isCaught 44 = .ok (.getfield 114, 3) := by decide +kernel
theorem dX2_isCaught_47 : decode cX2_isCaught 47 = .ok (.invokevirtual 104, 3) := by decide +kernel
theorem dX2_isCaught_50 : decode cX2_isCaught 50 = .ok (.ifCond .ne 7, 3) := by decide +kernel
theorem dX2_isCaught_53 : decode cX2_isCaught 53 = .ok (.iconst 1, 1) := by decide +kernel
theorem dX2_isCaught_54 : decode cX2_isCaught 54 = .ok (.goto 4, 3) := by decide +kernel
theorem dX2_isCaught_57 : decode cX2_isCaught 57 = .ok (.iconst 0, 1) := by decide +kernel
theorem dX2_isCaught_58 : decode cX2_isCaught 58 = .ok (.ireturn, 1) := by decide +kernel
theorem dX2_isWarm_0 : decode cX2_isWarm 0 = .ok (.aload_n 1, 1) := by decide +kernel
theorem dX2_isWarm_1 : decode cX2_isWarm 1 = .ok (.iload_n 2, 1) := by decide +kernel
theorem dX2_isWarm_2 : decode cX2_isWarm 2 = .ok (.invokevirtual 124, 3) := by decide +kernel
theorem dX2_isWarm_5 : decode cX2_isWarm 5 = .ok (.aload_n 0, 1) := by decide +kernel
theorem dX2_isWarm_6 : decode cX2_isWarm 6 = .ok (.iload_n 2, 1) := by decide +kernel
theorem dX2_isWarm_7 : decode cX2_isWarm 7 = .ok (.invokevirtual 127, 3) := by decide +kernel
theorem dX2_isWarm_10 : decode cX2_isWarm 10 = .ok (.if_icmp .lt 7, 3) := by decide +kernel
theorem dX2_isWarm_13 : decode cX2_isWarm 13 = .ok (.iconst 1, 1) := by decide +kernel
theorem dX2_isWarm_14 : decode cX2_isWarm 14 = .ok (.goto 4, 3) := by decide +kernel
theorem dX2_isWarm_17 : decode cX2_isWarm 17 = .ok (.iconst 0, 1) := by decide +kernel
theorem dX2_isWarm_18 : decode cX2_isWarm 18 = .ok (.ireturn, 1) := by decide +kernel
theorem dX2_warmOnes_0 : decode cX2_warmOnes 0 = .ok (.iconst 0, 1) := by decide +kernel
theorem dX2_warmOnes_1 : decode cX2_warmOnes 1 = .ok (.istore_n 2, 1) := by decide +kernel
theorem dX2_warmOnes_2 : decode cX2_warmOnes 2 = .ok (.iconst 0, 1) := by decide +kernel
theorem dX2_warmOnes_3 : decode cX2_warmOnes 3 = .ok (.istore_n 3, 1) := by decide +kernel
theorem dX2_warmOnes_4 : decode cX2_warmOnes 4 = .ok (.iload_n 3, 1) := by decide +kernel
theorem dX2_warmOnes_5 : decode cX2_warmOnes 5 = .ok (.aload_n 0, 1) := by decide +kernel
theorem dX2_warmOnes_6 : decode cX2_warmOnes 6 = .ok (.getfield 31, 3) := by decide +kernel
theorem dX2_warmOnes_9 : decode cX2_warmOnes 9 = .ok (.if_icmp .ge 24, 3) := by decide +kernel
theorem dX2_warmOnes_12 : decode cX2_warmOnes 12 = .ok (.aload_n 0, 1) := by decide +kernel
theorem dX2_warmOnes_13 : decode cX2_warmOnes 13 = .ok (.aload_n 1, 1) := by decide +kernel
theorem dX2_warmOnes_14 : decode cX2_warmOnes 14 = .ok (.iload_n 3, 1) := by decide +kernel
theorem dX2_warmOnes_15 : decode cX2_warmOnes 15 = .ok (.invokevirtual 130, 3) := by decide +kernel
theorem dX2_warmOnes_18 : decode cX2_warmOnes 18 = .ok (.ifCond .eq 9, 3) := by decide +kernel
theorem dX2_warmOnes_21 : decode cX2_warmOnes 21 = .ok (.iload_n 2, 1) := by decide +kernel
theorem dX2_warmOnes_22 : decode cX2_warmOnes 22 = .ok (.iconst 1, 1) := by decide +kernel
theorem dX2_warmOnes_23 : decode cX2_warmOnes 23 = .ok (.iload_n 3, 1) := by decide +kernel
theorem dX2_warmOnes_24 : decode cX2_warmOnes 24 = .ok (.ishl, 1) := by decide +kernel
theorem dX2_warmOnes_25 : decode cX2_warmOnes 25 = .ok (.ior, 1) := by decide +kernel
theorem dX2_warmOnes_26 : decode cX2_warmOnes 26 = .ok (.istore_n 2, 1) := by decide +kernel
theorem dX2_warmOnes_27 : decode cX2_warmOnes 27 = .ok (.iinc 3 1, 3) := by decide +kernel
theorem dX2_warmOnes_30 : decode cX2_warmOnes 30 = .ok (.goto (-26), 3) := by decide +kernel
theorem dX2_warmOnes_33 : decode cX2_warmOnes 33 = .ok (.iload_n 2, 1) := by decide +kernel
theorem dX2_warmOnes_34 : decode cX2_warmOnes 34 = .ok (.ireturn, 1) := by decide +kernel
theorem dX2_areAllWarm_0 : decode cX2_areAllWarm 0 = .ok (.aload_n 0, 1) := by decide +kernel
theorem dX2_areAllWarm_1 : decode cX2_areAllWarm 1 = .ok (.aload_n 1, 1) := by decide +kernel
theorem dX2_areAllWarm_2 : decode cX2_areAllWarm 2 = .ok (.invokevirtual 134, 3) := by decide +kernel
theorem dX2_areAllWarm_5 : decode cX2_areAllWarm 5 = .ok (.iconst 1, 1) := by decide +kernel
theorem dX2_areAllWarm_6 : decode cX2_areAllWarm 6 = .ok (.aload_n 0, 1) := by decide +kernel
theorem dX2_areAllWarm_7 : decode cX2_areAllWarm 7 = .ok (.getfield 31, 3) := by decide +kernel
theorem dX2_areAllWarm_10 : decode cX2_areAllWarm 10 = .ok (.ishl, 1) := by decide +kernel
theorem dX2_areAllWarm_11 : decode cX2_areAllWarm 11 = .ok (.iconst 1, 1) := by decide +kernel
theorem dX2_areAllWarm_12 : decode cX2_areAllWarm 12 = .ok (.isub, 1) := by decide +kernel
theorem dX2_areAllWarm_13 : decode cX2_areAllWarm 13 = .ok (.if_icmp .ne 7, 3) := by decide +kernel
theorem dX2_areAllWarm_16 : decode cX2_areAllWarm 16 = .ok (.iconst 1, 1) := by decide +kernel
theorem dX2_areAllWarm_17 : decode cX2_areAllWarm 17 = .ok (.goto 4, 3) := by decide +kernel
theorem dX2_areAllWarm_20 : decode cX2_areAllWarm 20 = .ok (.iconst 0, 1) := by decide +kernel
theorem dX2_areAllWarm_21 : decode cX2_areAllWarm 21 = .ok (.ireturn, 1) := by decide +kernel
theorem dX2_firstDayFor_0 : decode cX2_firstDayFor 0 = .ok (.aload_n 1, 1) := by decide +kernel
theorem dX2_firstDayFor_1 : decode cX2_firstDayFor 1 = .ok (.iload_n 3, 1) := by decide +kernel
theorem dX2_firstDayFor_2 : decode cX2_firstDayFor 2 = .ok (.invokevirtual 110, 3) := by decide +kernel
theorem dX2_firstDayFor_5 : decode cX2_firstDayFor 5 = .ok (.ifCond .eq 6, 3) := by decide +kernel
theorem dX2_firstDayFor_8 : decode cX2_firstDayFor 8 = .ok (.bipush (-4), 2) := by decide +kernel
theorem dX2_firstDayFor_10 : decode cX2_firstDayFor 10 = .ok (.ireturn, 1) := by decide +kernel
theorem dX2_firstDayFor_11 : decode cX2_firstDayFor 11 = .ok (.aload_n 1, 1) := by decide +kernel
theorem dX2_firstDayFor_12 : decode cX2_firstDayFor 12 = .ok (.getfield 114, 3) := by decide +kernel
theorem dX2_firstDayFor_15 : decode cX2_firstDayFor 15 = .ok (.istore 4, 2) := by decide +kernel
theorem dX2_firstDayFor_17 : decode cX2_firstDayFor 17 = .ok (.iload 4, 2) := by decide +kernel
theorem dX2_firstDayFor_19 : decode cX2_firstDayFor 19 = .ok (.bipush 99, 2) := by decide +kernel
theorem dX2_firstDayFor_21 : decode cX2_firstDayFor 21 = .ok (.if_icmp .gt 25, 3) := by decide +kernel
theorem dX2_firstDayFor_24 : decode cX2_firstDayFor 24 = .ok (.aload_n 0, 1) := by decide +kernel
theorem dX2_firstDayFor_25 : decode cX2_firstDayFor 25 = .ok (.aload_n 1, 1) := by decide +kernel
theorem dX2_firstDayFor_26 : decode cX2_firstDayFor 26 = .ok (.iload_n 2, 1) := by decide +kernel
theorem dX2_firstDayFor_27 : decode cX2_firstDayFor 27 = .ok (.iload_n 3, 1) := by decide +kernel
theorem dX2_firstDayFor_28 : decode cX2_firstDayFor 28 = .ok (.iload 4, 2) := by decide +kernel
theorem dX2_firstDayFor_30 : decode cX2_firstDayFor 30 = .ok (.iconst 0, 1) := by decide +kernel
theorem dX2_firstDayFor_31 : decode cX2_firstDayFor 31 = .ok (.invokevirtual 120, 3) := by decide +kernel
theorem dX2_firstDayFor_34 : decode cX2_firstDayFor 34 = .ok (.ifCond .eq 6, 3) := by decide +kernel
theorem dX2_firstDayFor_37 : decode cX2_firstDayFor 37 = .ok (.iload 4, 2) := by decide +kernel
theorem dX2_firstDayFor_39 : decode cX2_firstDayFor 39 = .ok (.ireturn, 1) := by decide +kernel
theorem dX2_firstDayFor_40 : decode cX2_firstDayFor 40 = .ok (.iinc 4 1, 3) := by decide +kernel
theorem dX2_firstDayFor_43 : decode cX2_firstDayFor 43 = .ok (.goto (-26), 3) := by decide +kernel
theorem dX2_firstDayFor_46 : decode cX2_firstDayFor 46 = .ok (.bipush (-4), 2) := by decide +kernel
theorem dX2_firstDayFor_48 : decode cX2_firstDayFor 48 = .ok (.ireturn, 1) := by decide +kernel
theorem dX2_nobodyEverTakes_0 : decode cX2_nobodyEverTakes 0 = .ok (.iconst 0, 1) := by decide +kernel
theorem dX2_nobodyEverTakes_1 : decode cX2_nobodyEverTakes 1 = .ok (.istore_n 3, 1) := by decide +kernel
theorem dX2_nobodyEverTakes_2 : decode cX2_nobodyEverTakes 2 = .ok (.iload_n 3, 1) := by decide +kernel
theorem dX2_nobodyEverTakes_3 : decode cX2_nobodyEverTakes 3 = .ok (.aload_n 0, 1) := by decide +kernel
theorem dX2_nobodyEverTakes_4 : decode cX2_nobodyEverTakes 4 = .ok (.getfield 31, 3) := by decide +kernel
theorem dX2_nobodyEverTakes_7 : decode cX2_nobodyEverTakes 7 = .ok (.if_icmp .ge 23, 3) := by decide +kernel
theorem dX2_nobodyEverTakes_10 : decode cX2_nobodyEverTakes 10 = .ok (.aload_n 0, 1) := by decide +kernel
theorem dX2_nobodyEverTakes_11 : decode cX2_nobodyEverTakes 11 = .ok (.aload_n 1, 1) := by decide +kernel
theorem dX2_nobodyEverTakes_12 : decode cX2_nobodyEverTakes 12 = .ok (.iload_n 3, 1) := by decide +kernel
theorem dX2_nobodyEverTakes_13 : decode cX2_nobodyEverTakes 13 = .ok (.iload_n 2, 1) := by decide +kernel
theorem dX2_nobodyEverTakes_14 : decode cX2_nobodyEverTakes 14 = .ok (.invokevirtual 138, 3) := by decide +kernel
theorem dX2_nobodyEverTakes_17 : decode cX2_nobodyEverTakes 17 = .ok (.bipush (-4), 2) := by decide +kernel
theorem dX2_nobodyEverTakes_19 : decode cX2_nobodyEverTakes 19 = .ok (.if_icmp .eq 5, 3) := by decide +kernel
theorem dX2_nobodyEverTakes_22 : decode cX2_nobodyEverTakes 22 = .ok (.iconst 0, 1) := by decide +kernel
theorem dX2_nobodyEverTakes_23 : decode cX2_nobodyEverTakes 23 = .ok (.ireturn, 1) := by decide +kernel
theorem dX2_nobodyEverTakes_24 : decode cX2_nobodyEverTakes 24 = .ok (.iinc 3 1, 3) := by decide +kernel
theorem dX2_nobodyEverTakes_27 : decode cX2_nobodyEverTakes 27 = .ok (.goto (-25), 3) := by decide +kernel
theorem dX2_nobodyEverTakes_30 : decode cX2_nobodyEverTakes 30 = .ok (.iconst 1, 1) := by decide +kernel
theorem dX2_nobodyEverTakes_31 : decode cX2_nobodyEverTakes 31 = .ok (.ireturn, 1) := by decide +kernel
theorem dX3_init_0 : decode cX3_init 0 = .ok (.aload_n 0, 1) := by decide +kernel
theorem dX3_init_1 : decode cX3_init 1 = .ok (.invokespecial 1, 3) := by decide +kernel
theorem dX3_init_4 : decode cX3_init 4 = .ok (.aload_n 0, 1) := by decide +kernel
theorem dX3_init_5 : decode cX3_init 5 = .ok (.iconst 0, 1) := by decide +kernel
theorem dX3_init_6 : decode cX3_init 6 = .ok (.iload_n 1, 1) := by decide +kernel
theorem dX3_init_7 : decode cX3_init 7 = .ok (.invokestatic 7, 3) := by decide +kernel
theorem dX3_init_10 : decode cX3_init 10 = .ok (.anewarray 13, 3) := by decide +kernel
theorem dX3_init_13 : decode cX3_init 13 = .ok (.putfield 15, 3) := by decide +kernel
theorem dX3_init_16 : decode cX3_init 16 = .ok (.iconst 0, 1) := by decide +kernel
theorem dX3_init_17 : decode cX3_init 17 = .ok (.istore_n 2, 1) := by decide +kernel
theorem dX3_init_18 : decode cX3_init 18 = .ok (.iload_n 2, 1) := by decide +kernel
theorem dX3_init_19 : decode cX3_init 19 = .ok (.aload_n 0, 1) := by decide +kernel
theorem dX3_init_20 : decode cX3_init 20 = .ok (.getfield 15, 3) := by decide +kernel
theorem dX3_init_23 : decode cX3_init 23 = .ok (.arraylength, 1) := by decide +kernel
theorem dX3_init_24 : decode cX3_init 24 = .ok (.if_icmp .ge 22, 3) := by decide +kernel
theorem dX3_init_27 : decode cX3_init 27 = .ok (.aload_n 0, 1) := by decide +kernel
theorem dX3_init_28 : decode cX3_init 28 = .ok (.getfield 15, 3) := by decide +kernel
theorem dX3_init_31 : decode cX3_init 31 = .ok (.iload_n 2, 1) := by decide +kernel
theorem dX3_init_32 : decode cX3_init 32 = .ok (.new 13, 3) := by decide +kernel
theorem dX3_init_35 : decode cX3_init 35 = .ok (.dup, 1) := by decide +kernel
theorem dX3_init_36 : decode cX3_init 36 = .ok (.invokespecial 21, 3) := by decide +kernel
theorem dX3_init_39 : decode cX3_init 39 = .ok (.aastore, 1) := by decide +kernel
theorem dX3_init_40 : decode cX3_init 40 = .ok (.iinc 2 1, 3) := by decide +kernel
theorem dX3_init_43 : decode cX3_init 43 = .ok (.goto (-25), 3) := by decide +kernel
theorem dX3_init_46 : decode cX3_init 46 = .ok (.return_, 1) := by decide +kernel
theorem dX3_isFull_0 : decode cX3_isFull 0 = .ok (.aload_n 0, 1) := by decide +kernel
theorem dX3_isFull_1 : decode cX3_isFull 1 = .ok (.getfield 22, 3) := by decide +kernel
theorem dX3_isFull_4 : decode cX3_isFull 4 = .ok (.aload_n 0, 1) := by decide +kernel
theorem dX3_isFull_5 : decode cX3_isFull 5 = .ok (.getfield 15, 3) := by decide +kernel
theorem dX3_isFull_8 : decode cX3_isFull 8 = .ok (.arraylength, 1) := by decide +kernel
theorem dX3_isFull_9 : decode cX3_isFull 9 = .ok (.if_icmp .lt 7, 3) := by decide +kernel
theorem dX3_isFull_12 : decode cX3_isFull 12 = .ok (.iconst 1, 1) := by decide +kernel
theorem dX3_isFull_13 : decode cX3_isFull 13 = .ok (.goto 4, 3) := by decide +kernel
theorem dX3_isFull_16 : decode cX3_isFull 16 = .ok (.iconst 0, 1) := by decide +kernel
theorem dX3_isFull_17 : decode cX3_isFull 17 = .ok (.ireturn, 1) := by decide +kernel
theorem dX3_clear_0 : decode cX3_clear 0 = .ok (.aload_n 0, 1) := by decide +kernel
theorem dX3_clear_1 : decode cX3_clear 1 = .ok (.iconst 0, 1) := by decide +kernel
theorem dX3_clear_2 : decode cX3_clear 2 = .ok (.putfield 22, 3) := by decide +kernel
theorem dX3_clear_5 : decode cX3_clear 5 = .ok (.return_, 1) := by decide +kernel
theorem dX3_add_0 : decode cX3_add 0 = .ok (.aload_n 0, 1) := by decide +kernel
theorem dX3_add_1 : decode cX3_add 1 = .ok (.invokevirtual 26, 3) := by decide +kernel
theorem dX3_add_4 : decode cX3_add 4 = .ok (.ifCond .eq 7, 3) := by decide +kernel
theorem dX3_add_7 : decode cX3_add 7 = .ok (.aload_n 0, 1) := by decide +kernel
theorem dX3_add_8 : decode cX3_add 8 = .ok (.invokevirtual 30, 3) := by decide +kernel
theorem dX3_add_11 : decode cX3_add 11 = .ok (.aload_n 0, 1) := by decide +kernel
theorem dX3_add_12 : decode cX3_add 12 = .ok (.getfield 22, 3) := by decide +kernel
theorem dX3_add_15 : decode cX3_add 15 = .ok (.ifCond .lt 50, 3) := by decide +kernel
theorem dX3_add_18 : decode cX3_add 18 = .ok (.aload_n 0, 1) := by decide +kernel
theorem dX3_add_19 : decode cX3_add 19 = .ok (.getfield 22, 3) := by decide +kernel
theorem dX3_add_22 : decode cX3_add 22 = .ok (.aload_n 0, 1) := by decide +kernel
theorem dX3_add_23 : decode cX3_add 23 = .ok (.getfield 15, 3) := by decide +kernel
theorem dX3_add_26 : decode cX3_add 26 = .ok (.arraylength, 1) := by decide +kernel
theorem dX3_add_27 : decode cX3_add 27 = .ok (.if_icmp .ge 38, 3) := by decide +kernel
theorem dX3_add_30 : decode cX3_add 30 = .ok (.aload_n 0, 1) := by decide +kernel
theorem dX3_add_31 : decode cX3_add 31 = .ok (.getfield 15, 3) := by decide +kernel
theorem dX3_add_34 : decode cX3_add 34 = .ok (.aload_n 0, 1) := by decide +kernel
theorem dX3_add_35 : decode cX3_add 35 = .ok (.getfield 22, 3) := by decide +kernel
theorem dX3_add_38 : decode cX3_add 38 = .ok (.aaload, 1) := by decide +kernel
theorem dX3_add_39 : decode cX3_add 39 = .ok (.ifnull 26, 3) := by decide +kernel
theorem dX3_add_42 : decode cX3_add 42 = .ok (.aload_n 0, 1) := by decide +kernel
theorem dX3_add_43 : decode cX3_add 43 = .ok (.getfield 15, 3) := by decide +kernel
theorem dX3_add_46 : decode cX3_add 46 = .ok (.aload_n 0, 1) := by decide +kernel
theorem dX3_add_47 : decode cX3_add 47 = .ok (.getfield 22, 3) := by decide +kernel
theorem dX3_add_50 : decode cX3_add 50 = .ok (.aaload, 1) := by decide +kernel
theorem dX3_add_51 : decode cX3_add 51 = .ok (.aload_n 1, 1) := by decide +kernel
theorem dX3_add_52 : decode cX3_add 52 = .ok (.invokevirtual 33, 3) := by decide +kernel
theorem dX3_add_55 : decode cX3_add 55 = .ok (.aload_n 0, 1) := by decide +kernel
theorem dX3_add_56 : decode cX3_add 56 = .ok (.dup, 1) := by decide +kernel
theorem dX3_add_57 : decode cX3_add 57 = .ok (.getfield 22, 3) := by decide +kernel
theorem dX3_add_60 : decode cX3_add 60 = .ok (.iconst 1, 1) := by decide +kernel
theorem dX3_add_61 : decode cX3_add 61 = .ok (.iadd, 1) := by decide +kernel
theorem dX3_add_62 : decode cX3_add 62 = .ok (.putfield 22, 3) := by decide +kernel
theorem dX3_add_65 : decode cX3_add 65 = .ok (.return_, 1) := by decide +kernel
theorem dX3_moveLastTo_0 : decode cX3_moveLastTo 0 = .ok (.aload_n 0, 1) := by decide +kernel
theorem dX3_moveLastTo_1 : decode cX3_moveLastTo 1 = .ok (.getfield 22, 3) := by decide +kernel
theorem dX3_moveLastTo_4 : decode cX3_moveLastTo 4 = .ok (.ifCond .le 38, 3) := by decide +kernel
theorem dX3_moveLastTo_7 : decode cX3_moveLastTo 7 = .ok (.aload_n 0, 1) := by decide +kernel
theorem dX3_moveLastTo_8 : decode cX3_moveLastTo 8 = .ok (.getfield 22, 3) := by decide +kernel
theorem dX3_moveLastTo_11 : decode cX3_moveLastTo 11 = .ok (.aload_n 0, 1) := by decide +kernel
theorem dX3_moveLastTo_12 : decode cX3_moveLastTo 12 = .ok (.getfield 15, 3) := by decide +kernel
theorem dX3_moveLastTo_15 : decode cX3_moveLastTo 15 = .ok (.arraylength, 1) := by decide +kernel
theorem dX3_moveLastTo_16 : decode cX3_moveLastTo 16 = .ok (.if_icmp .gt 26, 3) := by decide +kernel
theorem dX3_moveLastTo_19 : decode cX3_moveLastTo 19 = .ok (.aload_n 0, 1) := by decide +kernel
theorem dX3_moveLastTo_20 : decode cX3_moveLastTo 20 = .ok (.dup, 1) := by decide +kernel
theorem dX3_moveLastTo_21 : decode cX3_moveLastTo 21 = .ok (.getfield 22, 3) := by decide +kernel
theorem dX3_moveLastTo_24 : decode cX3_moveLastTo 24 = .ok (.iconst 1, 1) := by decide +kernel
theorem dX3_moveLastTo_25 : decode cX3_moveLastTo 25 = .ok (.isub, 1) := by decide +kernel
theorem dX3_moveLastTo_26 : decode cX3_moveLastTo 26 = .ok (.putfield 22, 3) := by decide +kernel
theorem dX3_moveLastTo_29 : decode cX3_moveLastTo 29 = .ok (.aload_n 1, 1) := by decide +kernel
theorem dX3_moveLastTo_30 : decode cX3_moveLastTo 30 = .ok (.aload_n 0, 1) := by decide +kernel
theorem dX3_moveLastTo_31 : decode cX3_moveLastTo 31 = .ok (.getfield 15, 3) := by decide +kernel
theorem dX3_moveLastTo_34 : decode cX3_moveLastTo 34 = .ok (.aload_n 0, 1) := by decide +kernel
theorem dX3_moveLastTo_35 : decode cX3_moveLastTo 35 = .ok (.getfield 22, 3) := by decide +kernel
theorem dX3_moveLastTo_38 : decode cX3_moveLastTo 38 = .ok (.aaload, 1) := by decide +kernel
theorem dX3_moveLastTo_39 : decode cX3_moveLastTo 39 = .ok (.invokevirtual 33, 3) := by decide +kernel
theorem dX3_moveLastTo_42 : decode cX3_moveLastTo 42 = .ok (.return_, 1) := by decide +kernel
theorem dX3_dropOldest_0 : decode cX3_dropOldest 0 = .ok (.aload_n 0, 1) := by decide +kernel
theorem dX3_dropOldest_1 : decode cX3_dropOldest 1 = .ok (.getfield 22, 3) := by decide +kernel
theorem dX3_dropOldest_4 : decode cX3_dropOldest 4 = .ok (.ifCond .le 72, 3) := by decide +kernel
theorem dX3_dropOldest_7 : decode cX3_dropOldest 7 = .ok (.aload_n 0, 1) := by decide +kernel
theorem dX3_dropOldest_8 : decode cX3_dropOldest 8 = .ok (.getfield 22, 3) := by decide +kernel
theorem dX3_dropOldest_11 : decode cX3_dropOldest 11 = .ok (.aload_n 0, 1) := by decide +kernel
theorem dX3_dropOldest_12 : decode cX3_dropOldest 12 = .ok (.getfield 15, 3) := by decide +kernel
theorem dX3_dropOldest_15 : decode cX3_dropOldest 15 = .ok (.arraylength, 1) := by decide +kernel
theorem dX3_dropOldest_16 : decode cX3_dropOldest 16 = .ok (.if_icmp .gt 60, 3) := by decide +kernel
theorem dX3_dropOldest_19 : decode cX3_dropOldest 19 = .ok (.aload_n 0, 1) := by decide +kernel
theorem dX3_dropOldest_20 : decode cX3_dropOldest 20 = .ok (.getfield 15, 3) := by decide +kernel
theorem dX3_dropOldest_23 : decode cX3_dropOldest 23 = .ok (.iconst 0, 1) := by decide +kernel
theorem dX3_dropOldest_24 : decode cX3_dropOldest 24 = .ok (.aaload, 1) := by decide +kernel
theorem dX3_dropOldest_25 : decode cX3_dropOldest 25 = .ok (.astore_n 1, 1) := by decide +kernel
theorem dX3_dropOldest_26 : decode cX3_dropOldest 26 = .ok (.iconst 1, 1) := by decide +kernel
theorem dX3_dropOldest_27 : decode cX3_dropOldest 27 = .ok (.istore_n 2, 1) := by decide +kernel
theorem dX3_dropOldest_28 : decode cX3_dropOldest 28 = .ok (.iload_n 2, 1) := by decide +kernel
theorem dX3_dropOldest_29 : decode cX3_dropOldest 29 = .ok (.aload_n 0, 1) := by decide +kernel
theorem dX3_dropOldest_30 : decode cX3_dropOldest 30 = .ok (.getfield 22, 3) := by decide +kernel
theorem dX3_dropOldest_33 : decode cX3_dropOldest 33 = .ok (.if_icmp .ge 23, 3) := by decide +kernel
theorem dX3_dropOldest_36 : decode cX3_dropOldest 36 = .ok (.aload_n 0, 1) := by decide +kernel
theorem dX3_dropOldest_37 : decode cX3_dropOldest 37 = .ok (.getfield 15, 3) := by decide +kernel
theorem dX3_dropOldest_40 : decode cX3_dropOldest 40 = .ok (.iload_n 2, 1) := by decide +kernel
theorem dX3_dropOldest_41 : decode cX3_dropOldest 41 = .ok (.iconst 1, 1) := by decide +kernel
theorem dX3_dropOldest_42 : decode cX3_dropOldest 42 = .ok (.isub, 1) := by decide +kernel
theorem dX3_dropOldest_43 : decode cX3_dropOldest 43 = .ok (.aload_n 0, 1) := by decide +kernel
theorem dX3_dropOldest_44 : decode cX3_dropOldest 44 = .ok (.getfield 15, 3) := by decide +kernel
theorem dX3_dropOldest_47 : decode cX3_dropOldest 47 = .ok (.iload_n 2, 1) := by decide +kernel
theorem dX3_dropOldest_48 : decode cX3_dropOldest 48 = .ok (.aaload, 1) := by decide +kernel
theorem dX3_dropOldest_49 : decode cX3_dropOldest 49 = .ok (.aastore, 1) := by decide +kernel
theorem dX3_dropOldest_50 : decode cX3_dropOldest 50 = .ok (.iinc 2 1, 3) := by decide +kernel
theorem dX3_dropOldest_53 : decode cX3_dropOldest 53 = .ok (.goto (-25), 3) := by decide +kernel
theorem dX3_dropOldest_56 : decode cX3_dropOldest 56 = .ok (.aload_n 0, 1) := by decide +kernel
theorem dX3_dropOldest_57 : decode cX3_dropOldest 57 = .ok (.dup, 1) := by decide +kernel
theorem dX3_dropOldest_58 : decode cX3_dropOldest 58 = .ok (.getfield 22, 3) := by decide +kernel
theorem dX3_dropOldest_61 : decode cX3_dropOldest 61 = .ok (.iconst 1, 1) := by decide +kernel
theorem dX3_dropOldest_62 : decode cX3_dropOldest 62 = .ok (.isub, 1) := by decide +kernel
theorem dX3_dropOldest_63 : decode cX3_dropOldest 63 = .ok (.putfield 22, 3) := by decide +kernel
theorem dX3_dropOldest_66 : decode cX3_dropOldest 66 = .ok (.aload_n 0, 1) := by decide +kernel
theorem dX3_dropOldest_67 : decode cX3_dropOldest 67 = .ok (.getfield 15, 3) := by decide +kernel
theorem dX3_dropOldest_70 : decode cX3_dropOldest 70 = .ok (.aload_n 0, 1) := by decide +kernel
theorem dX3_dropOldest_71 : decode cX3_dropOldest 71 = .ok (.getfield 22, 3) := by decide +kernel
theorem dX3_dropOldest_74 : decode cX3_dropOldest 74 = .ok (.aload_n 1, 1) := by decide +kernel
theorem dX3_dropOldest_75 : decode cX3_dropOldest 75 = .ok (.aastore, 1) := by decide +kernel
theorem dX3_dropOldest_76 : decode cX3_dropOldest 76 = .ok (.return_, 1) := by decide +kernel
theorem dX4_init_0 : decode cX4_init 0 = .ok (.aload_n 0, 1) := by decide +kernel
theorem dX4_init_1 : decode cX4_init 1 = .ok (.invokespecial 5, 3) := by decide +kernel
theorem dX4_init_4 : decode cX4_init 4 = .ok (.aload_n 0, 1) := by decide +kernel
theorem dX4_init_5 : decode cX4_init 5 = .ok (.bipush 20, 2) := by decide +kernel
theorem dX4_init_7 : decode cX4_init 7 = .ok (.newarray .int, 2) := by decide +kernel
theorem dX4_init_9 : decode cX4_init 9 = .ok (.putfield 11, 3) := by decide +kernel
theorem dX4_init_12 : decode cX4_init 12 = .ok (.return_, 1) := by decide +kernel
theorem dX4_become_0 : decode cX4_become 0 = .ok (.aload_n 1, 1) := by decide +kernel
theorem dX4_become_1 : decode cX4_become 1 = .ok (.ifnull 34, 3) := by decide +kernel
theorem dX4_become_4 : decode cX4_become 4 = .ok (.aload_n 0, 1) := by decide +kernel
theorem dX4_become_5 : decode cX4_become 5 = .ok (.aload_n 1, 1) := by decide +kernel
theorem dX4_become_6 : decode cX4_become 6 = .ok (.getfield 15, 3) := by decide +kernel
theorem dX4_become_9 : decode cX4_become 9 = .ok (.putfield 15, 3) := by decide +kernel
theorem dX4_become_12 : decode cX4_become 12 = .ok (.aload_n 0, 1) := by decide +kernel
theorem dX4_become_13 : decode cX4_become 13 = .ok (.aload_n 1, 1) := by decide +kernel
theorem dX4_become_14 : decode cX4_become 14 = .ok (.getfield 19, 3) := by decide +kernel
theorem dX4_become_17 : decode cX4_become 17 = .ok (.putfield 19, 3) := by decide +kernel
theorem dX4_become_20 : decode cX4_become 20 = .ok (.aload_n 1, 1) := by decide +kernel
theorem dX4_become_21 : decode cX4_become 21 = .ok (.getfield 11, 3) := by decide +kernel
theorem dX4_become_24 : decode cX4_become 24 = .ok (.iconst 0, 1) := by decide +kernel
theorem dX4_become_25 : decode cX4_become 25 = .ok (.aload_n 0, 1) := by decide +kernel
theorem dX4_become_26 : decode cX4_become 26 = .ok (.getfield 11, 3) := by decide +kernel
theorem dX4_become_29 : decode cX4_become 29 = .ok (.iconst 0, 1) := by decide +kernel
theorem dX4_become_30 : decode cX4_become 30 = .ok (.bipush 20, 2) := by decide +kernel
theorem dX4_become_32 : decode cX4_become 32 = .ok (.invokestatic 22, 3) := by decide +kernel
theorem dX4_become_35 : decode cX4_become 35 = .ok (.return_, 1) := by decide +kernel
theorem dX4_clear_0 : decode cX4_clear 0 = .ok (.aload_n 0, 1) := by decide +kernel
theorem dX4_clear_1 : decode cX4_clear 1 = .ok (.iconst 0, 1) := by decide +kernel
theorem dX4_clear_2 : decode cX4_clear 2 = .ok (.putfield 15, 3) := by decide +kernel
theorem dX4_clear_5 : decode cX4_clear 5 = .ok (.aload_n 0, 1) := by decide +kernel
theorem dX4_clear_6 : decode cX4_clear 6 = .ok (.iconst 0, 1) := by decide +kernel
theorem dX4_clear_7 : decode cX4_clear 7 = .ok (.putfield 19, 3) := by decide +kernel
theorem dX4_clear_10 : decode cX4_clear 10 = .ok (.iconst 0, 1) := by decide +kernel
theorem dX4_clear_11 : decode cX4_clear 11 = .ok (.istore_n 1, 1) := by decide +kernel
theorem dX4_clear_12 : decode cX4_clear 12 = .ok (.iload_n 1, 1) := by decide +kernel
theorem dX4_clear_13 : decode cX4_clear 13 = .ok (.aload_n 0, 1) := by decide +kernel
theorem dX4_clear_14 : decode cX4_clear 14 = .ok (.getfield 11, 3) := by decide +kernel
theorem dX4_clear_17 : decode cX4_clear 17 = .ok (.arraylength, 1) := by decide +kernel
theorem dX4_clear_18 : decode cX4_clear 18 = .ok (.if_icmp .ge 16, 3) := by decide +kernel
theorem dX4_clear_21 : decode cX4_clear 21 = .ok (.aload_n 0, 1) := by decide +kernel
theorem dX4_clear_22 : decode cX4_clear 22 = .ok (.getfield 11, 3) := by decide +kernel
theorem dX4_clear_25 : decode cX4_clear 25 = .ok (.iload_n 1, 1) := by decide +kernel
theorem dX4_clear_26 : decode cX4_clear 26 = .ok (.iconst 0, 1) := by decide +kernel
theorem dX4_clear_27 : decode cX4_clear 27 = .ok (.iastore, 1) := by decide +kernel
theorem dX4_clear_28 : decode cX4_clear 28 = .ok (.iinc 1 1, 3) := by decide +kernel
theorem dX4_clear_31 : decode cX4_clear 31 = .ok (.goto (-19), 3) := by decide +kernel
theorem dX4_clear_34 : decode cX4_clear 34 = .ok (.return_, 1) := by decide +kernel
theorem dX4_deadFrom_0 : decode cX4_deadFrom 0 = .ok (.iload_n 1, 1) := by decide +kernel
theorem dX4_deadFrom_1 : decode cX4_deadFrom 1 = .ok (.ifCond .lt 18, 3) := by decide +kernel
theorem dX4_deadFrom_4 : decode cX4_deadFrom 4 = .ok (.iload_n 1, 1) := by decide +kernel
theorem dX4_deadFrom_5 : decode cX4_deadFrom 5 = .ok (.bipush 8, 2) := by decide +kernel
theorem dX4_deadFrom_7 : decode cX4_deadFrom 7 = .ok (.if_icmp .ge 12, 3) := by decide +kernel
theorem dX4_deadFrom_10 : decode cX4_deadFrom 10 = .ok (.aload_n 0, 1) := by decide +kernel
theorem dX4_deadFrom_11 : decode cX4_deadFrom 11 = .ok (.getfield 11, 3) := by decide +kernel
theorem dX4_deadFrom_14 : decode cX4_deadFrom 14 = .ok (.iload_n 1, 1) := by decide +kernel
theorem dX4_deadFrom_15 : decode cX4_deadFrom 15 = .ok (.iaload, 1) := by decide +kernel
theorem dX4_deadFrom_16 : decode cX4_deadFrom 16 = .ok (.goto 5, 3) := by decide +kernel
theorem dX4_deadFrom_19 : decode cX4_deadFrom 19 = .ok (.bipush 100, 2) := by decide +kernel
theorem dX4_deadFrom_21 : decode cX4_deadFrom 21 = .ok (.ireturn, 1) := by decide +kernel
theorem dX4_setDeadFrom_0 : decode cX4_setDeadFrom 0 = .ok (.iload_n 1, 1) := by decide +kernel
theorem dX4_setDeadFrom_1 : decode cX4_setDeadFrom 1 = .ok (.ifCond .lt 16, 3) := by decide +kernel
theorem dX4_setDeadFrom_4 : decode cX4_setDeadFrom 4 = .ok (.iload_n 1, 1) := by decide +kernel
theorem dX4_setDeadFrom_5 : decode cX4_setDeadFrom 5 = .ok (.bipush 8, 2) := by decide +kernel
theorem dX4_setDeadFrom_7 : decode cX4_setDeadFrom 7 = .ok (.if_icmp .ge 10, 3) := by decide +kernel
theorem dX4_setDeadFrom_10 : decode cX4_setDeadFrom 10 = .ok (.aload_n 0, 1) := by decide +kernel
theorem dX4_setDeadFrom_11 : decode cX4_setDeadFrom 11 = .ok (.getfield 11, 3) := by decide +kernel
theorem dX4_setDeadFrom_14 : decode cX4_setDeadFrom 14 = .ok (.iload_n 1, 1) := by decide +kernel
theorem dX4_setDeadFrom_15 : decode cX4_setDeadFrom 15 = .ok (.iload_n 2, 1) := by decide +kernel
theorem dX4_setDeadFrom_16 : decode cX4_setDeadFrom 16 = .ok (.iastore, 1) := by decide +kernel
theorem dX4_setDeadFrom_17 : decode cX4_setDeadFrom 17 = .ok (.return_, 1) := by decide +kernel
theorem dX4_isGone_0 : decode cX4_isGone 0 = .ok (.iload_n 1, 1) := by decide +kernel
theorem dX4_isGone_1 : decode cX4_isGone 1 = .ok (.ifCond .lt 25, 3) := by decide +kernel
theorem dX4_isGone_4 : decode cX4_isGone 4 = .ok (.iload_n 1, 1) := by decide +kernel
theorem dX4_isGone_5 : decode cX4_isGone 5 = .ok (.bipush 8, 2) := by decide +kernel
theorem dX4_isGone_7 : decode cX4_isGone 7 = .ok (.if_icmp .ge 19, 3) := by decide +kernel
theorem dX4_isGone_10 : decode cX4_isGone 10 = .ok (.aload_n 0, 1) := by decide +kernel
theorem dX4_isGone_11 : decode cX4_isGone 11 = .ok (.getfield 19, 3) := by decide +kernel
theorem dX4_isGone_14 : decode cX4_isGone 14 = .ok (.iload_n 1, 1) := by decide +kernel
theorem dX4_isGone_15 : decode cX4_isGone 15 = .ok (.ishr, 1) := by decide +kernel
theorem dX4_isGone_16 : decode cX4_isGone 16 = .ok (.iconst 1, 1) := by decide +kernel
theorem dX4_isGone_17 : decode cX4_isGone 17 = .ok (.iand, 1) := by decide +kernel
theorem dX4_isGone_18 : decode cX4_isGone 18 = .ok (.iconst 1, 1) := by decide +kernel
theorem dX4_isGone_19 : decode cX4_isGone 19 = .ok (.if_icmp .ne 7, 3) := by decide +kernel
theorem dX4_isGone_22 : decode cX4_isGone 22 = .ok (.iconst 1, 1) := by decide +kernel
theorem dX4_isGone_23 : decode cX4_isGone 23 = .ok (.goto 4, 3) := by decide +kernel
theorem dX4_isGone_26 : decode cX4_isGone 26 = .ok (.iconst 0, 1) := by decide +kernel
theorem dX4_isGone_27 : decode cX4_isGone 27 = .ok (.ireturn, 1) := by decide +kernel
theorem dX4_stack_0 : decode cX4_stack 0 = .ok (.iload_n 1, 1) := by decide +kernel
theorem dX4_stack_1 : decode cX4_stack 1 = .ok (.ifCond .lt 20, 3) := by decide +kernel
theorem dX4_stack_4 : decode cX4_stack 4 = .ok (.iload_n 1, 1) := by decide +kernel
theorem dX4_stack_5 : decode cX4_stack 5 = .ok (.iconst 4, 1) := by decide +kernel
theorem dX4_stack_6 : decode cX4_stack 6 = .ok (.if_icmp .ge 15, 3) := by decide +kernel
theorem dX4_stack_9 : decode cX4_stack 9 = .ok (.aload_n 0, 1) := by decide +kernel
theorem dX4_stack_10 : decode cX4_stack 10 = .ok (.getfield 11, 3) := by decide +kernel
theorem dX4_stack_13 : decode cX4_stack 13 = .ok (.bipush 8, 2) := by decide +kernel
theorem dX4_stack_15 : decode cX4_stack 15 = .ok (.iload_n 1, 1) := by decide +kernel
theorem dX4_stack_16 : decode cX4_stack 16 = .ok (.iadd, 1) := by decide +kernel
theorem dX4_stack_17 : decode cX4_stack 17 = .ok (.iaload, 1) := by decide +kernel
theorem dX4_stack_18 : decode cX4_stack 18 = .ok (.goto 4, 3) := by decide +kernel
theorem dX4_stack_21 : decode cX4_stack 21 = .ok (.iconst 0, 1) := by decide +kernel
theorem dX4_stack_22 : decode cX4_stack 22 = .ok (.ireturn, 1) := by decide +kernel
theorem dX4_reach_0 : decode cX4_reach 0 = .ok (.iload_n 1, 1) := by decide +kernel
theorem dX4_reach_1 : decode cX4_reach 1 = .ok (.ifCond .lt 20, 3) := by decide +kernel
theorem dX4_reach_4 : decode cX4_reach 4 = .ok (.iload_n 1, 1) := by decide +kernel
theorem dX4_reach_5 : decode cX4_reach 5 = .ok (.iconst 4, 1) := by decide +kernel
theorem dX4_reach_6 : decode cX4_reach 6 = .ok (.if_icmp .ge 15, 3) := by decide +kernel
theorem dX4_reach_9 : decode cX4_reach 9 = .ok (.aload_n 0, 1) := by decide +kernel
theorem dX4_reach_10 : decode cX4_reach 10 = .ok (.getfield 11, 3) := by decide +kernel
theorem dX4_reach_13 : decode cX4_reach 13 = .ok (.bipush 12, 2) := by decide +kernel
theorem dX4_reach_15 : decode cX4_reach 15 = .ok (.iload_n 1, 1) := by decide +kernel
theorem dX4_reach_16 : decode cX4_reach 16 = .ok (.iadd, 1) := by decide +kernel
theorem dX4_reach_17 : decode cX4_reach 17 = .ok (.iaload, 1) := by decide +kernel
theorem dX4_reach_18 : decode cX4_reach 18 = .ok (.goto 4, 3) := by decide +kernel
theorem dX4_reach_21 : decode cX4_reach 21 = .ok (.iconst 0, 1) := by decide +kernel
theorem dX4_reach_22 : decode cX4_reach 22 = .ok (.ireturn, 1) := by decide +kernel
theorem dX4_setReach_0 : decode cX4_setReach 0 = .ok (.iload_n 1, 1) := by decide +kernel
theorem dX4_setReach_1 : decode cX4_setReach 1 = .ok (.ifCond .lt 18, 3) := by decide +kernel
theorem dX4_setReach_4 : decode cX4_setReach 4 = .ok (.iload_n 1, 1) := by decide +kernel
theorem dX4_setReach_5 : decode cX4_setReach 5 = .ok (.iconst 4, 1) := by decide +kernel
theorem dX4_setReach_6 : decode cX4_setReach 6 = .ok (.if_icmp .ge 13, 3) := by decide +kernel
theorem dX4_setReach_9 : decode cX4_setReach 9 = .ok (.aload_n 0, 1) := by decide +kernel
theorem dX4_setReach_10 : decode cX4_setReach 10 = .ok (.getfield 11, 3) := by decide +kernel
theorem dX4_setReach_13 : decode cX4_setReach 13 = .ok (.bipush 12, 2) := by decide +kernel
theorem dX4_setReach_15 : decode cX4_setReach 15 = .ok (.iload_n 1, 1) := by decide +kernel
theorem dX4_setReach_16 : decode cX4_setReach 16 = .ok (.iadd, 1) := by decide +kernel
theorem dX4_setReach_17 : decode cX4_setReach 17 = .ok (.iload_n 2, 1) := by decide +kernel
theorem dX4_setReach_18 : decode cX4_setReach 18 = .ok (.iastore, 1) := by decide +kernel
theorem dX4_setReach_19 : decode cX4_setReach 19 = .ok (.return_, 1) := by decide +kernel
theorem dX4_carried_0 : decode cX4_carried 0 = .ok (.iload_n 1, 1) := by decide +kernel
theorem dX4_carried_1 : decode cX4_carried 1 = .ok (.ifCond .lt 20, 3) := by decide +kernel
theorem dX4_carried_4 : decode cX4_carried 4 = .ok (.iload_n 1, 1) := by decide +kernel
theorem dX4_carried_5 : decode cX4_carried 5 = .ok (.iconst 4, 1) := by decide +kernel
theorem dX4_carried_6 : decode cX4_carried 6 = .ok (.if_icmp .ge 15, 3) := by decide +kernel
theorem dX4_carried_9 : decode cX4_carried 9 = .ok (.aload_n 0, 1) := by decide +kernel
theorem dX4_carried_10 : decode cX4_carried 10 = .ok (.getfield 11, 3) := by decide +kernel
theorem dX4_carried_13 : decode cX4_carried 13 = .ok (.bipush 16, 2) := by decide +kernel
theorem dX4_carried_15 : decode cX4_carried 15 = .ok (.iload_n 1, 1) := by decide +kernel
theorem dX4_carried_16 : decode cX4_carried 16 = .ok (.iadd, 1) := by decide +kernel
theorem dX4_carried_17 : decode cX4_carried 17 = .ok (.iaload, 1) := by decide +kernel
theorem dX4_carried_18 : decode cX4_carried 18 = .ok (.goto 4, 3) := by decide +kernel
theorem dX4_carried_21 : decode cX4_carried 21 = .ok (.iconst 0, 1) := by decide +kernel
theorem dX4_carried_22 : decode cX4_carried 22 = .ok (.ireturn, 1) := by decide +kernel
theorem dX4_pick_0 : decode cX4_pick 0 = .ok (.iload_n 1, 1) := by decide +kernel
theorem dX4_pick_1 : decode cX4_pick 1 = .ok (.ifCond .lt 56, 3) := by decide +kernel
theorem dX4_pick_4 : decode cX4_pick 4 = .ok (.iload_n 1, 1) := by decide +kernel
theorem dX4_pick_5 : decode cX4_pick 5 = .ok (.iconst 4, 1) := by decide +kernel
theorem dX4_pick_6 : decode cX4_pick 6 = .ok (.if_icmp .ge 51, 3) := by decide +kernel
theorem dX4_pick_9 : decode cX4_pick 9 = .ok (.iload_n 2, 1) := by decide +kernel
theorem dX4_pick_10 : decode cX4_pick 10 = .ok (.ifCond .lt 47, 3) := by decide +kernel
theorem dX4_pick_13 : decode cX4_pick 13 = .ok (.iload_n 2, 1) := by decide +kernel
theorem dX4_pick_14 : decode cX4_pick 14 = .ok (.bipush 8, 2) := by decide +kernel
theorem dX4_pick_16 : decode cX4_pick 16 = .ok (.if_icmp .ge 41, 3) := by decide +kernel
theorem dX4_pick_19 : decode cX4_pick 19 = .ok (.aload_n 0, 1) := by decide +kernel
theorem dX4_pick_20 : decode cX4_pick 20 = .ok (.dup, 1) := by decide +kernel
theorem dX4_pick_21 : decode cX4_pick 21 = .ok (.getfield 19, 3) := by decide +kernel
theorem dX4_pick_24 : decode cX4_pick 24 = .ok (.iconst 1, 1) := by decide +kernel
theorem dX4_pick_25 : decode cX4_pick 25 = .ok (.iload_n 2, 1) := by decide +kernel
theorem dX4_pick_26 : decode cX4_pick 26 = .ok (.ishl, 1) := by decide +kernel
theorem dX4_pick_27 : decode cX4_pick 27 = .ok (.ior, 1) := by decide +kernel
theorem dX4_pick_28 : decode cX4_pick 28 = .ok (.putfield 19, 3) := by decide +kernel
theorem dX4_pick_31 : decode cX4_pick 31 = .ok (.aload_n 0, 1) := by decide +kernel
theorem dX4_pick_32 : decode cX4_pick 32 = .ok (.getfield 11, 3) := by decide +kernel
theorem dX4_pick_35 : decode cX4_pick 35 = .ok (.bipush 8, 2) := by decide +kernel
theorem dX4_pick_37 : decode cX4_pick 37 = .ok (.iload_n 1, 1) := by decide +kernel
theorem dX4_pick_38 : decode cX4_pick 38 = .ok (.iadd, 1) := by decide +kernel
theorem dX4_pick_39 : decode cX4_pick 39 = .ok (.dup2, 1) := by decide +kernel
theorem dX4_pick_40 : decode cX4_pick 40 = .ok (.iaload, 1) := by decide +kernel
theorem dX4_pick_41 : decode cX4_pick 41 = .ok (.iload_n 3, 1) := by decide +kernel
theorem dX4_pick_42 : decode cX4_pick 42 = .ok (.iadd, 1) := by decide +kernel
theorem dX4_pick_43 : decode cX4_pick 43 = .ok (.iastore, 1) := by decide +kernel
theorem dX4_pick_44 : decode cX4_pick 44 = .ok (.aload_n 0, 1) := by decide +kernel
theorem dX4_pick_45 : decode cX4_pick 45 = .ok (.getfield 11, 3) := by decide +kernel
theorem dX4_pick_48 : decode cX4_pick 48 = .ok (.bipush 16, 2) := by decide +kernel
theorem dX4_pick_50 : decode cX4_pick 50 = .ok (.iload_n 1, 1) := by decide +kernel
theorem dX4_pick_51 : decode cX4_pick 51 = .ok (.iadd, 1) := by decide +kernel
theorem dX4_pick_52 : decode cX4_pick 52 = .ok (.dup2, 1) := by decide +kernel
theorem dX4_pick_53 : decode cX4_pick 53 = .ok (.iaload, 1) := by decide +kernel
theorem dX4_pick_54 : decode cX4_pick 54 = .ok (.iload_n 3, 1) := by decide +kernel
theorem dX4_pick_55 : decode cX4_pick 55 = .ok (.iadd, 1) := by decide +kernel
theorem dX4_pick_56 : decode cX4_pick 56 = .ok (.iastore, 1) := by decide +kernel
theorem dX4_pick_57 : decode cX4_pick 57 = .ok (.return_, 1) := by decide +kernel
theorem dX4_loseStack_0 : decode cX4_loseStack 0 = .ok (.iload_n 1, 1) := by decide +kernel
theorem dX4_loseStack_1 : decode cX4_loseStack 1 = .ok (.ifCond .lt 18, 3) := by decide +kernel
theorem dX4_loseStack_4 : decode cX4_loseStack 4 = .ok (.iload_n 1, 1) := by decide +kernel
theorem dX4_loseStack_5 : decode cX4_loseStack 5 = .ok (.iconst 4, 1) := by decide +kernel
theorem dX4_loseStack_6 : decode cX4_loseStack 6 = .ok (.if_icmp .ge 13, 3) := by decide +kernel
theorem dX4_loseStack_9 : decode cX4_loseStack 9 = .ok (.aload_n 0, 1) := by decide +kernel
theorem dX4_loseStack_10 : decode cX4_loseStack 10 = .ok (.getfield 11, 3) := by decide +kernel
theorem dX4_loseStack_13 : decode cX4_loseStack 13 = .ok (.bipush 8, 2) := by decide +kernel
theorem dX4_loseStack_15 : decode cX4_loseStack 15 = .ok (.iload_n 1, 1) := by decide +kernel
theorem dX4_loseStack_16 : decode cX4_loseStack 16 = .ok (.iadd, 1) := by decide +kernel
theorem dX4_loseStack_17 : decode cX4_loseStack 17 = .ok (.iconst 0, 1) := by decide +kernel
theorem dX4_loseStack_18 : decode cX4_loseStack 18 = .ok (.iastore, 1) := by decide +kernel
theorem dX4_loseStack_19 : decode cX4_loseStack 19 = .ok (.return_, 1) := by decide +kernel
theorem dX4_goBy_0 : decode cX4_goBy 0 = .ok (.aload_n 0, 1) := by decide +kernel
theorem dX4_goBy_1 : decode cX4_goBy 1 = .ok (.dup, 1) := by decide +kernel
theorem dX4_goBy_2 : decode cX4_goBy 2 = .ok (.getfield 15, 3) := by decide +kernel
theorem dX4_goBy_5 : decode cX4_goBy 5 = .ok (.iload_n 1, 1) := by decide +kernel
theorem dX4_goBy_6 : decode cX4_goBy 6 = .ok (.iadd, 1) := by decide +kernel
theorem dX4_goBy_7 : decode cX4_goBy 7 = .ok (.putfield 15, 3) := by decide +kernel
theorem dX4_goBy_10 : decode cX4_goBy 10 = .ok (.iconst 0, 1) := by decide +kernel
theorem dX4_goBy_11 : decode cX4_goBy 11 = .ok (.istore_n 2, 1) := by decide +kernel
theorem dX4_goBy_12 : decode cX4_goBy 12 = .ok (.iload_n 2, 1) := by decide +kernel
theorem dX4_goBy_13 : decode cX4_goBy 13 = .ok (.iconst 4, 1) := by decide +kernel
theorem dX4_goBy_14 : decode cX4_goBy 14 = .ok (.if_icmp .ge 19, 3) := by decide +kernel
theorem dX4_goBy_17 : decode cX4_goBy 17 = .ok (.aload_n 0, 1) := by decide +kernel
theorem dX4_goBy_18 : decode cX4_goBy 18 = .ok (.getfield 11, 3) := by decide +kernel
theorem dX4_goBy_21 : decode cX4_goBy 21 = .ok (.bipush 16, 2) := by decide +kernel
theorem dX4_goBy_23 : decode cX4_goBy 23 = .ok (.iload_n 2, 1) := by decide +kernel
theorem dX4_goBy_24 : decode cX4_goBy 24 = .ok (.iadd, 1) := by decide +kernel
theorem dX4_goBy_25 : decode cX4_goBy 25 = .ok (.iconst 0, 1) := by decide +kernel
theorem dX4_goBy_26 : decode cX4_goBy 26 = .ok (.iastore, 1) := by decide +kernel
theorem dX4_goBy_27 : decode cX4_goBy 27 = .ok (.iinc 2 1, 3) := by decide +kernel
theorem dX4_goBy_30 : decode cX4_goBy 30 = .ok (.goto (-18), 3) := by decide +kernel
theorem dX4_goBy_33 : decode cX4_goBy 33 = .ok (.return_, 1) := by decide +kernel
theorem dX5_init_0 : decode cX5_init 0 = .ok (.aload_n 0, 1) := by decide +kernel
theorem dX5_init_1 : decode cX5_init 1 = .ok (.invokespecial 3, 3) := by decide +kernel
theorem dX5_init_4 : decode cX5_init 4 = .ok (.aload_n 0, 1) := by decide +kernel
theorem dX5_init_5 : decode cX5_init 5 = .ok (.sipush 200, 3) := by decide +kernel
theorem dX5_init_8 : decode cX5_init 8 = .ok (.newarray .char, 2) := by decide +kernel
theorem dX5_init_10 : decode cX5_init 10 = .ok (.putfield 11, 3) := by decide +kernel
theorem dX5_init_13 : decode cX5_init 13 = .ok (.aload_n 0, 1) := by decide +kernel
theorem dX5_init_14 : decode cX5_init 14 = .ok (.iconst 4, 1) := by decide +kernel
theorem dX5_init_15 : decode cX5_init 15 = .ok (.newarray .int, 2) := by decide +kernel
theorem dX5_init_17 : decode cX5_init 17 = .ok (.putfield 15, 3) := by decide +kernel
theorem dX5_init_20 : decode cX5_init 20 = .ok (.return_, 1) := by decide +kernel
theorem dX5_isFull_0 : decode cX5_isFull 0 = .ok (.aload_n 0, 1) := by decide +kernel
theorem dX5_isFull_1 : decode cX5_isFull 1 = .ok (.getfield 19, 3) := by decide +kernel
theorem dX5_isFull_4 : decode cX5_isFull 4 = .ok (.sipush 200, 3) := by decide +kernel
theorem dX5_isFull_7 : decode cX5_isFull 7 = .ok (.if_icmp .lt 7, 3) := by decide +kernel
theorem dX5_isFull_10 : decode cX5_isFull 10 = .ok (.iconst 1, 1) := by decide +kernel
theorem dX5_isFull_11 : decode cX5_isFull 11 = .ok (.goto 4, 3) := by decide +kernel
theorem dX5_isFull_14 : decode cX5_isFull 14 = .ok (.iconst 0, 1) := by decide +kernel
theorem dX5_isFull_15 : decode cX5_isFull 15 = .ok (.ireturn, 1) := by decide +kernel
theorem dX5_add_0 : decode cX5_add 0 = .ok (.aload_n 0, 1) := by decide +kernel
theorem dX5_add_1 : decode cX5_add 1 = .ok (.getfield 19, 3) := by decide +kernel
theorem dX5_add_4 : decode cX5_add 4 = .ok (.ifCond .lt 35, 3) := by decide +kernel
theorem dX5_add_7 : decode cX5_add 7 = .ok (.aload_n 0, 1) := by decide +kernel
theorem dX5_add_8 : decode cX5_add 8 = .ok (.getfield 19, 3) := by decide +kernel
theorem dX5_add_11 : decode cX5_add 11 = .ok (.aload_n 0, 1) := by decide +kernel
theorem dX5_add_12 : decode cX5_add 12 = .ok (.getfield 11, 3) := by decide +kernel
theorem dX5_add_15 : decode cX5_add 15 = .ok (.arraylength, 1) := by decide +kernel
theorem dX5_add_16 : decode cX5_add 16 = .ok (.if_icmp .ge 23, 3) := by decide +kernel
theorem dX5_add_19 : decode cX5_add 19 = .ok (.aload_n 0, 1) := by decide +kernel
theorem dX5_add_20 : decode cX5_add 20 = .ok (.getfield 11, 3) := by decide +kernel
theorem dX5_add_23 : decode cX5_add 23 = .ok (.aload_n 0, 1) := by decide +kernel
theorem dX5_add_24 : decode cX5_add 24 = .ok (.getfield 19, 3) := by decide +kernel
theorem dX5_add_27 : decode cX5_add 27 = .ok (.iload_n 1, 1) := by decide +kernel
theorem dX5_add_28 : decode cX5_add 28 = .ok (.castore, 1) := by decide +kernel
theorem dX5_add_29 : decode cX5_add 29 = .ok (.aload_n 0, 1) := by decide +kernel
theorem dX5_add_30 : decode cX5_add 30 = .ok (.dup, 1) := by decide +kernel
theorem dX5_add_31 : decode cX5_add 31 = .ok (.getfield 19, 3) := by decide +kernel
theorem dX5_add_34 : decode cX5_add 34 = .ok (.iconst 1, 1) := by decide +kernel
theorem dX5_add_35 : decode cX5_add 35 = .ok (.iadd, 1) := by decide +kernel
theorem dX5_add_36 : decode cX5_add 36 = .ok (.putfield 19, 3) := by decide +kernel
theorem dX5_add_39 : decode cX5_add 39 = .ok (.return_, 1) := by decide +kernel
theorem dX5_become_0 : decode cX5_become 0 = .ok (.aload_n 0, 1) := by decide +kernel
theorem dX5_become_1 : decode cX5_become 1 = .ok (.iconst 0, 1) := by decide +kernel
theorem dX5_become_2 : decode cX5_become 2 = .ok (.putfield 19, 3) := by decide +kernel
theorem dX5_become_5 : decode cX5_become 5 = .ok (.iconst 0, 1) := by decide +kernel
theorem dX5_become_6 : decode cX5_become 6 = .ok (.istore_n 2, 1) := by decide +kernel
theorem dX5_become_7 : decode cX5_become 7 = .ok (.iload_n 2, 1) := by decide +kernel
theorem dX5_become_8 : decode cX5_become 8 = .ok (.aload_n 1, 1) := by decide +kernel
theorem dX5_become_9 : decode cX5_become 9 = .ok (.invokevirtual 23, 3) := by decide +kernel
theorem dX5_become_12 : decode cX5_become 12 = .ok (.if_icmp .ge 18, 3) := by decide +kernel
theorem dX5_become_15 : decode cX5_become 15 = .ok (.aload_n 0, 1) := by decide +kernel
theorem dX5_become_16 : decode cX5_become 16 = .ok (.aload_n 1, 1) := by decide +kernel
theorem dX5_become_17 : decode cX5_become 17 = .ok (.iload_n 2, 1) := by decide +kernel
theorem dX5_become_18 : decode cX5_become 18 = .ok (.invokevirtual 28, 3) := by decide +kernel
theorem dX5_become_21 : decode cX5_become 21 = .ok (.invokevirtual 32, 3) := by decide +kernel
theorem dX5_become_24 : decode cX5_become 24 = .ok (.iinc 2 1, 3) := by decide +kernel
theorem dX5_become_27 : decode cX5_become 27 = .ok (.goto (-20), 3) := by decide +kernel
theorem dX5_become_30 : decode cX5_become 30 = .ok (.return_, 1) := by decide +kernel
theorem dX5_letter_0 : decode cX5_letter 0 = .ok (.iload_n 1, 1) := by decide +kernel
theorem dX5_letter_1 : decode cX5_letter 1 = .ok (.ifCond .lt 29, 3) := by decide +kernel
theorem dX5_letter_4 : decode cX5_letter 4 = .ok (.iload_n 1, 1) := by decide +kernel
theorem dX5_letter_5 : decode cX5_letter 5 = .ok (.aload_n 0, 1) := by decide +kernel
theorem dX5_letter_6 : decode cX5_letter 6 = .ok (.getfield 19, 3) := by decide +kernel
theorem dX5_letter_9 : decode cX5_letter 9 = .ok (.if_icmp .ge 21, 3) := by decide +kernel
theorem dX5_letter_12 : decode cX5_letter 12 = .ok (.iload_n 1, 1) := by decide +kernel
theorem dX5_letter_13 : decode cX5_letter 13 = .ok (.aload_n 0, 1) := by decide +kernel
theorem dX5_letter_14 : decode cX5_letter 14 = .ok (.getfield 11, 3) := by decide +kernel
theorem dX5_letter_17 : decode cX5_letter 17 = .ok (.arraylength, 1) := by decide +kernel
theorem dX5_letter_18 : decode cX5_letter 18 = .ok (.if_icmp .ge 12, 3) := by decide +kernel
theorem dX5_letter_21 : decode cX5_letter 21 = .ok (.aload_n 0, 1) := by decide +kernel
theorem dX5_letter_22 : decode cX5_letter 22 = .ok (.getfield 11, 3) := by decide +kernel
theorem dX5_letter_25 : decode cX5_letter 25 = .ok (.iload_n 1, 1) := by decide +kernel
theorem dX5_letter_26 : decode cX5_letter 26 = .ok (.caload, 1) := by decide +kernel
theorem dX5_letter_27 : decode cX5_letter 27 = .ok (.goto 4, 3) := by decide +kernel
theorem dX5_letter_30 : decode cX5_letter 30 = .ok (.iconst 0, 1) := by decide +kernel
theorem dX5_letter_31 : decode cX5_letter 31 = .ok (.ireturn, 1) := by decide +kernel
theorem dX5_number_0 : decode cX5_number 0 = .ok (.iload_n 1, 1) := by decide +kernel
theorem dX5_number_1 : decode cX5_number 1 = .ok (.ifCond .lt 21, 3) := by decide +kernel
theorem dX5_number_4 : decode cX5_number 4 = .ok (.iload_n 1, 1) := by decide +kernel
theorem dX5_number_5 : decode cX5_number 5 = .ok (.aload_n 0, 1) := by decide +kernel
theorem dX5_number_6 : decode cX5_number 6 = .ok (.getfield 15, 3) := by decide +kernel
theorem dX5_number_9 : decode cX5_number 9 = .ok (.arraylength, 1) := by decide +kernel
theorem dX5_number_10 : decode cX5_number 10 = .ok (.if_icmp .ge 12, 3) := by decide +kernel
theorem dX5_number_13 : decode cX5_number 13 = .ok (.aload_n 0, 1) := by decide +kernel
theorem dX5_number_14 : decode cX5_number 14 = .ok (.getfield 15, 3) := by decide +kernel
theorem dX5_number_17 : decode cX5_number 17 = .ok (.iload_n 1, 1) := by decide +kernel
theorem dX5_number_18 : decode cX5_number 18 = .ok (.iaload, 1) := by decide +kernel
theorem dX5_number_19 : decode cX5_number 19 = .ok (.goto 4, 3) := by decide +kernel
theorem dX5_number_22 : decode cX5_number 22 = .ok (.iconst 0, 1) := by decide +kernel
theorem dX5_number_23 : decode cX5_number 23 = .ok (.ireturn, 1) := by decide +kernel
theorem dX5_firstFault_0 : decode cX5_firstFault 0 = .ok (.iconst 0, 1) := by decide +kernel
theorem dX5_firstFault_1 : decode cX5_firstFault 1 = .ok (.istore_n 1, 1) := by decide +kernel
theorem dX5_firstFault_2 : decode cX5_firstFault 2 = .ok (.iconst 0, 1) := by decide +kernel
theorem dX5_firstFault_3 : decode cX5_firstFault 3 = .ok (.istore_n 2, 1) := by decide +kernel
theorem dX5_firstFault_4 : decode cX5_firstFault 4 = .ok (.iconst 0, 1) := by decide +kernel
theorem dX5_firstFault_5 : decode cX5_firstFault 5 = .ok (.istore_n 3, 1) := by decide +kernel
theorem dX5_firstFault_6 : decode cX5_firstFault 6 = .ok (.iconst 0, 1) := by decide +kernel
theorem dX5_firstFault_7 : decode cX5_firstFault 7 = .ok (.istore 4, 2) := by decide +kernel
theorem dX5_firstFault_9 : decode cX5_firstFault 9 = .ok (.iload 4, 2) := by decide +kernel
theorem dX5_firstFault_11 : decode cX5_firstFault 11 = .ok (.sipush 200, 3) := by decide +kernel
theorem dX5_firstFault_14 : decode cX5_firstFault 14 = .ok (.if_icmp .ge 74, 3) := by decide +kernel
theorem dX5_firstFault_17 : decode cX5_firstFault 17 = .ok (.iload_n 3, 1) := by decide +kernel
theorem dX5_firstFault_18 : decode cX5_firstFault 18 = .ok (.aload_n 0, 1) := by decide +kernel
theorem dX5_firstFault_19 : decode cX5_firstFault 19 = .ok (.getfield 19, 3) := by decide +kernel
theorem dX5_firstFault_22 : decode cX5_firstFault 22 = .ok (.if_icmp .ge 66, 3) := by decide +kernel
theorem dX5_firstFault_25 : decode cX5_firstFault 25 = .ok (.aload_n 0, 1) := by decide +kernel
theorem dX5_firstFault_26 : decode cX5_firstFault 26 = .ok (.iload_n 3, 1) := by decide +kernel
theorem dX5_firstFault_27 : decode cX5_firstFault 27 = .ok (.invokevirtual 36, 3) := by decide +kernel
end
section
theorem dX5_firstFault_30 : decode cX5_firstFault 30 = .ok (.istore 5, 2) := by decide +kernel
theorem dX5_firstFault_32 : decode cX5_firstFault 32 = .ok (.aload_n 0, 1) := by decide +kernel
theorem dX5_firstFault_33 : decode cX5_firstFault 33 = .ok (.iload_n 3, 1) := by decide +kernel
theorem dX5_firstFault_34 : decode cX5_firstFault 34 = .ok (.invokevirtual 40, 3) := by decide +kernel
theorem dX5_firstFault_37 : decode cX5_firstFault 37 = .ok (.bipush 98, 2) := by decide +kernel
theorem dX5_firstFault_39 : decode cX5_firstFault 39 = .ok (.if_icmp .ne 9, 3) := by decide +kernel
theorem dX5_firstFault_42 : decode cX5_firstFault 42 = .ok (.iinc 1 1, 3) := by decide +kernel
theorem dX5_firstFault_45 : decode cX5_firstFault 45 = .ok (.goto 16, 3) := by decide +kernel
theorem dX5_firstFault_48 : decode cX5_firstFault 48 = .ok (.aload_n 0, 1) := by decide +kernel
theorem dX5_firstFault_49 : decode cX5_firstFault 49 = .ok (.iload_n 3, 1) := by decide +kernel
theorem dX5_firstFault_50 : decode cX5_firstFault 50 = .ok (.invokevirtual 40, 3) := by decide +kernel
theorem dX5_firstFault_53 : decode cX5_firstFault 53 = .ok (.bipush 116, 2) := by decide +kernel
theorem dX5_firstFault_55 : decode cX5_firstFault 55 = .ok (.if_icmp .ne 6, 3) := by decide +kernel
theorem dX5_firstFault_58 : decode cX5_firstFault 58 = .ok (.iinc 2 1, 3) := by decide +kernel
theorem dX5_firstFault_61 : decode cX5_firstFault 61 = .ok (.iload 5, 2) := by decide +kernel
theorem dX5_firstFault_63 : decode cX5_firstFault 63 = .ok (.ifCond .lt 14, 3) := by decide +kernel
theorem dX5_firstFault_66 : decode cX5_firstFault 66 = .ok (.iload_n 1, 1) := by decide +kernel
theorem dX5_firstFault_67 : decode cX5_firstFault 67 = .ok (.bipush 8, 2) := by decide +kernel
theorem dX5_firstFault_69 : decode cX5_firstFault 69 = .ok (.if_icmp .gt 8, 3) := by decide +kernel
theorem dX5_firstFault_72 : decode cX5_firstFault 72 = .ok (.iload_n 2, 1) := by decide +kernel
theorem dX5_firstFault_73 : decode cX5_firstFault 73 = .ok (.iconst 4, 1) := by decide +kernel
theorem dX5_firstFault_74 : decode cX5_firstFault 74 = .ok (.if_icmp .le 5, 3) := by decide +kernel
theorem dX5_firstFault_77 : decode cX5_firstFault 77 = .ok (.iload_n 3, 1) := by decide +kernel
theorem dX5_firstFault_78 : decode cX5_firstFault 78 = .ok (.ireturn, 1) := by decide +kernel
theorem dX5_firstFault_79 : decode cX5_firstFault 79 = .ok (.iload 5, 2) := by decide +kernel
theorem dX5_firstFault_81 : decode cX5_firstFault 81 = .ok (.istore_n 3, 1) := by decide +kernel
theorem dX5_firstFault_82 : decode cX5_firstFault 82 = .ok (.iinc 4 1, 3) := by decide +kernel
theorem dX5_firstFault_85 : decode cX5_firstFault 85 = .ok (.goto (-76), 3) := by decide +kernel
theorem dX5_firstFault_88 : decode cX5_firstFault 88 = .ok (.bipush (-4), 2) := by decide +kernel
theorem dX5_firstFault_90 : decode cX5_firstFault 90 = .ok (.ireturn, 1) := by decide +kernel
theorem dX5_canBeLaid_0 : decode cX5_canBeLaid 0 = .ok (.aload_n 0, 1) := by decide +kernel
theorem dX5_canBeLaid_1 : decode cX5_canBeLaid 1 = .ok (.invokevirtual 43, 3) := by decide +kernel
theorem dX5_canBeLaid_4 : decode cX5_canBeLaid 4 = .ok (.bipush (-4), 2) := by decide +kernel
theorem dX5_canBeLaid_6 : decode cX5_canBeLaid 6 = .ok (.if_icmp .ne 25, 3) := by decide +kernel
theorem dX5_canBeLaid_9 : decode cX5_canBeLaid 9 = .ok (.aload_n 0, 1) := by decide +kernel
theorem dX5_canBeLaid_10 : decode cX5_canBeLaid 10 = .ok (.bipush 98, 2) := by decide +kernel
theorem dX5_canBeLaid_12 : decode cX5_canBeLaid 12 = .ok (.invokevirtual 46, 3) := by decide +kernel
theorem dX5_canBeLaid_15 : decode cX5_canBeLaid 15 = .ok (.ifCond .eq 16, 3) := by decide +kernel
theorem dX5_canBeLaid_18 : decode cX5_canBeLaid 18 = .ok (.aload_n 0, 1) := by decide +kernel
theorem dX5_canBeLaid_19 : decode cX5_canBeLaid 19 = .ok (.bipush 116, 2) := by decide +kernel
theorem dX5_canBeLaid_21 : decode cX5_canBeLaid 21 = .ok (.invokevirtual 46, 3) := by decide +kernel
theorem dX5_canBeLaid_24 : decode cX5_canBeLaid 24 = .ok (.ifCond .eq 7, 3) := by decide +kernel
theorem dX5_canBeLaid_27 : decode cX5_canBeLaid 27 = .ok (.iconst 1, 1) := by decide +kernel
theorem dX5_canBeLaid_28 : decode cX5_canBeLaid 28 = .ok (.goto 4, 3) := by decide +kernel
theorem dX5_canBeLaid_31 : decode cX5_canBeLaid 31 = .ok (.iconst 0, 1) := by decide +kernel
theorem dX5_canBeLaid_32 : decode cX5_canBeLaid 32 = .ok (.ireturn, 1) := by decide +kernel
theorem dX5_has_0 : decode cX5_has 0 = .ok (.iconst 0, 1) := by decide +kernel
theorem dX5_has_1 : decode cX5_has 1 = .ok (.istore_n 2, 1) := by decide +kernel
theorem dX5_has_2 : decode cX5_has 2 = .ok (.iload_n 2, 1) := by decide +kernel
theorem dX5_has_3 : decode cX5_has 3 = .ok (.aload_n 0, 1) := by decide +kernel
theorem dX5_has_4 : decode cX5_has 4 = .ok (.getfield 19, 3) := by decide +kernel
theorem dX5_has_7 : decode cX5_has 7 = .ok (.if_icmp .ge 20, 3) := by decide +kernel
theorem dX5_has_10 : decode cX5_has 10 = .ok (.aload_n 0, 1) := by decide +kernel
theorem dX5_has_11 : decode cX5_has 11 = .ok (.iload_n 2, 1) := by decide +kernel
theorem dX5_has_12 : decode cX5_has 12 = .ok (.invokevirtual 40, 3) := by decide +kernel
theorem dX5_has_15 : decode cX5_has 15 = .ok (.iload_n 1, 1) := by decide +kernel
theorem dX5_has_16 : decode cX5_has 16 = .ok (.if_icmp .ne 5, 3) := by decide +kernel
theorem dX5_has_19 : decode cX5_has 19 = .ok (.iconst 1, 1) := by decide +kernel
theorem dX5_has_20 : decode cX5_has 20 = .ok (.ireturn, 1) := by decide +kernel
theorem dX5_has_21 : decode cX5_has 21 = .ok (.iinc 2 1, 3) := by decide +kernel
theorem dX5_has_24 : decode cX5_has 24 = .ok (.goto (-22), 3) := by decide +kernel
theorem dX5_has_27 : decode cX5_has 27 = .ok (.iconst 0, 1) := by decide +kernel
theorem dX5_has_28 : decode cX5_has 28 = .ok (.ireturn, 1) := by decide +kernel
theorem dX5_readItem_0 : decode cX5_readItem 0 = .ok (.aload_n 0, 1) := by decide +kernel
theorem dX5_readItem_1 : decode cX5_readItem 1 = .ok (.iload_n 1, 1) := by decide +kernel
theorem dX5_readItem_2 : decode cX5_readItem 2 = .ok (.invokevirtual 40, 3) := by decide +kernel
theorem dX5_readItem_5 : decode cX5_readItem 5 = .ok (.invokestatic 50, 3) := by decide +kernel
theorem dX5_readItem_8 : decode cX5_readItem 8 = .ok (.istore_n 2, 1) := by decide +kernel
theorem dX5_readItem_9 : decode cX5_readItem 9 = .ok (.aload_n 0, 1) := by decide +kernel
theorem dX5_readItem_10 : decode cX5_readItem 10 = .ok (.iload_n 1, 1) := by decide +kernel
theorem dX5_readItem_11 : decode cX5_readItem 11 = .ok (.invokevirtual 40, 3) := by decide +kernel
theorem dX5_readItem_14 : decode cX5_readItem 14 = .ok (.invokestatic 54, 3) := by decide +kernel
theorem dX5_readItem_17 : decode cX5_readItem 17 = .ok (.istore_n 3, 1) := by decide +kernel
theorem dX5_readItem_18 : decode cX5_readItem 18 = .ok (.iload_n 1, 1) := by decide +kernel
theorem dX5_readItem_19 : decode cX5_readItem 19 = .ok (.iconst 1, 1) := by decide +kernel
theorem dX5_readItem_20 : decode cX5_readItem 20 = .ok (.iadd, 1) := by decide +kernel
theorem dX5_readItem_21 : decode cX5_readItem 21 = .ok (.istore 4, 2) := by decide +kernel
theorem dX5_readItem_23 : decode cX5_readItem 23 = .ok (.iconst 0, 1) := by decide +kernel
theorem dX5_readItem_24 : decode cX5_readItem 24 = .ok (.istore 5, 2) := by decide +kernel
theorem dX5_readItem_26 : decode cX5_readItem 26 = .ok (.iload 5, 2) := by decide +kernel
theorem dX5_readItem_28 : decode cX5_readItem 28 = .ok (.iload_n 3, 1) := by decide +kernel
theorem dX5_readItem_29 : decode cX5_readItem 29 = .ok (.if_icmp .ge 77, 3) := by decide +kernel
theorem dX5_readItem_32 : decode cX5_readItem 32 = .ok (.aload_n 0, 1) := by decide +kernel
theorem dX5_readItem_33 : decode cX5_readItem 33 = .ok (.iload 4, 2) := by decide +kernel
theorem dX5_readItem_35 : decode cX5_readItem 35 = .ok (.invokevirtual 57, 3) := by decide +kernel
theorem dX5_readItem_38 : decode cX5_readItem 38 = .ok (.istore 6, 2) := by decide +kernel
theorem dX5_readItem_40 : decode cX5_readItem 40 = .ok (.iload 6, 2) := by decide +kernel
theorem dX5_readItem_42 : decode cX5_readItem 42 = .ok (.ifCond .eq 20, 3) := by decide +kernel
theorem dX5_readItem_45 : decode cX5_readItem 45 = .ok (.aload_n 0, 1) := by decide +kernel
theorem dX5_readItem_46 : decode cX5_readItem 46 = .ok (.iload 4, 2) := by decide +kernel
theorem dX5_readItem_48 : decode cX5_readItem 48 = .ok (.iload 6, 2) := by decide +kernel
theorem dX5_readItem_50 : decode cX5_readItem 50 = .ok (.iload 5, 2) := by decide +kernel
theorem dX5_readItem_52 : decode cX5_readItem 52 = .ok (.iload_n 2, 1) := by decide +kernel
theorem dX5_readItem_53 : decode cX5_readItem 53 = .ok (.iload 5, 2) := by decide +kernel
theorem dX5_readItem_55 : decode cX5_readItem 55 = .ok (.iadd, 1) := by decide +kernel
theorem dX5_readItem_56 : decode cX5_readItem 56 = .ok (.invokevirtual 60, 3) := by decide +kernel
theorem dX5_readItem_59 : decode cX5_readItem 59 = .ok (.ifCond .ne 5, 3) := by decide +kernel
theorem dX5_readItem_62 : decode cX5_readItem 62 = .ok (.iconst (-1), 1) := by decide +kernel
theorem dX5_readItem_63 : decode cX5_readItem 63 = .ok (.ireturn, 1) := by decide +kernel
theorem dX5_readItem_64 : decode cX5_readItem 64 = .ok (.iload 4, 2) := by decide +kernel
theorem dX5_readItem_66 : decode cX5_readItem 66 = .ok (.iload 6, 2) := by decide +kernel
theorem dX5_readItem_68 : decode cX5_readItem 68 = .ok (.iadd, 1) := by decide +kernel
theorem dX5_readItem_69 : decode cX5_readItem 69 = .ok (.istore 4, 2) := by decide +kernel
theorem dX5_readItem_71 : decode cX5_readItem 71 = .ok (.aload_n 0, 1) := by decide +kernel
theorem dX5_readItem_72 : decode cX5_readItem 72 = .ok (.iload 4, 2) := by decide +kernel
theorem dX5_readItem_74 : decode cX5_readItem 74 = .ok (.invokevirtual 40, 3) := by decide +kernel
theorem dX5_readItem_77 : decode cX5_readItem 77 = .ok (.iload 5, 2) := by decide +kernel
theorem dX5_readItem_79 : decode cX5_readItem 79 = .ok (.iload_n 3, 1) := by decide +kernel
theorem dX5_readItem_80 : decode cX5_readItem 80 = .ok (.iconst 1, 1) := by decide +kernel
theorem dX5_readItem_81 : decode cX5_readItem 81 = .ok (.isub, 1) := by decide +kernel
theorem dX5_readItem_82 : decode cX5_readItem 82 = .ok (.if_icmp .ne 8, 3) := by decide +kernel
theorem dX5_readItem_85 : decode cX5_readItem 85 = .ok (.bipush 59, 2) := by decide +kernel
theorem dX5_readItem_87 : decode cX5_readItem 87 = .ok (.goto 5, 3) := by decide +kernel
theorem dX5_readItem_90 : decode cX5_readItem 90 = .ok (.bipush 44, 2) := by decide +kernel
theorem dX5_readItem_92 : decode cX5_readItem 92 = .ok (.if_icmp .eq 5, 3) := by decide +kernel
theorem dX5_readItem_95 : decode cX5_readItem 95 = .ok (.iconst (-1), 1) := by decide +kernel
theorem dX5_readItem_96 : decode cX5_readItem 96 = .ok (.ireturn, 1) := by decide +kernel
theorem dX5_readItem_97 : decode cX5_readItem 97 = .ok (.iinc 4 1, 3) := by decide +kernel
theorem dX5_readItem_100 : decode cX5_readItem 100 = .ok (.iinc 5 1, 3) := by decide +kernel
theorem dX5_readItem_103 : decode cX5_readItem 103 = .ok (.goto (-77), 3) := by decide +kernel
theorem dX5_readItem_106 : decode cX5_readItem 106 = .ok (.iload_n 3, 1) := by decide +kernel
theorem dX5_readItem_107 : decode cX5_readItem 107 = .ok (.ifCond .ne 7, 3) := by decide +kernel
theorem dX5_readItem_110 : decode cX5_readItem 110 = .ok (.iconst (-1), 1) := by decide +kernel
theorem dX5_readItem_111 : decode cX5_readItem 111 = .ok (.goto 5, 3) := by decide +kernel
theorem dX5_readItem_114 : decode cX5_readItem 114 = .ok (.iload 4, 2) := by decide +kernel
theorem dX5_readItem_116 : decode cX5_readItem 116 = .ok (.ireturn, 1) := by decide +kernel
theorem dX5_readNumber_0 : decode cX5_readNumber 0 = .ok (.aload_n 0, 1) := by decide +kernel
theorem dX5_readNumber_1 : decode cX5_readNumber 1 = .ok (.iload_n 1, 1) := by decide +kernel
theorem dX5_readNumber_2 : decode cX5_readNumber 2 = .ok (.invokevirtual 40, 3) := by decide +kernel
theorem dX5_readNumber_5 : decode cX5_readNumber 5 = .ok (.bipush 48, 2) := by decide +kernel
theorem dX5_readNumber_7 : decode cX5_readNumber 7 = .ok (.isub, 1) := by decide +kernel
theorem dX5_readNumber_8 : decode cX5_readNumber 8 = .ok (.istore 5, 2) := by decide +kernel
theorem dX5_readNumber_10 : decode cX5_readNumber 10 = .ok (.iload_n 2, 1) := by decide +kernel
theorem dX5_readNumber_11 : decode cX5_readNumber 11 = .ok (.iconst 2, 1) := by decide +kernel
theorem dX5_readNumber_12 : decode cX5_readNumber 12 = .ok (.if_icmp .ne 21, 3) := by decide +kernel
theorem dX5_readNumber_15 : decode cX5_readNumber 15 = .ok (.bipush 10, 2) := by decide +kernel
theorem dX5_readNumber_17 : decode cX5_readNumber 17 = .ok (.iload 5, 2) := by decide +kernel
theorem dX5_readNumber_19 : decode cX5_readNumber 19 = .ok (.imul, 1) := by decide +kernel
theorem dX5_readNumber_20 : decode cX5_readNumber 20 = .ok (.aload_n 0, 1) := by decide +kernel
theorem dX5_readNumber_21 : decode cX5_readNumber 21 = .ok (.iload_n 1, 1) := by decide +kernel
theorem dX5_readNumber_22 : decode cX5_readNumber 22 = .ok (.iconst 1, 1) := by decide +kernel
theorem dX5_readNumber_23 : decode cX5_readNumber 23 = .ok (.iadd, 1) := by decide +kernel
theorem dX5_readNumber_24 : decode cX5_readNumber 24 = .ok (.invokevirtual 40, 3) := by decide +kernel
theorem dX5_readNumber_27 : decode cX5_readNumber 27 = .ok (.iadd, 1) := by decide +kernel
theorem dX5_readNumber_28 : decode cX5_readNumber 28 = .ok (.bipush 48, 2) := by decide +kernel
theorem dX5_readNumber_30 : decode cX5_readNumber 30 = .ok (.isub, 1) := by decide +kernel
theorem dX5_readNumber_31 : decode cX5_readNumber 31 = .ok (.istore 5, 2) := by decide +kernel
theorem dX5_readNumber_33 : decode cX5_readNumber 33 = .ok (.iload_n 3, 1) := by decide +kernel
theorem dX5_readNumber_34 : decode cX5_readNumber 34 = .ok (.ifCond .lt 20, 3) := by decide +kernel
theorem dX5_readNumber_37 : decode cX5_readNumber 37 = .ok (.iload_n 3, 1) := by decide +kernel
theorem dX5_readNumber_38 : decode cX5_readNumber 38 = .ok (.aload_n 0, 1) := by decide +kernel
theorem dX5_readNumber_39 : decode cX5_readNumber 39 = .ok (.getfield 15, 3) := by decide +kernel
theorem dX5_readNumber_42 : decode cX5_readNumber 42 = .ok (.arraylength, 1) := by decide +kernel
theorem dX5_readNumber_43 : decode cX5_readNumber 43 = .ok (.if_icmp .ge 11, 3) := by decide +kernel
theorem dX5_readNumber_46 : decode cX5_readNumber 46 = .ok (.aload_n 0, 1) := by decide +kernel
theorem dX5_readNumber_47 : decode cX5_readNumber 47 = .ok (.getfield 15, 3) := by decide +kernel
theorem dX5_readNumber_50 : decode cX5_readNumber 50 = .ok (.iload_n 3, 1) := by decide +kernel
theorem dX5_readNumber_51 : decode cX5_readNumber 51 = .ok (.iload 5, 2) := by decide +kernel
theorem dX5_readNumber_53 : decode cX5_readNumber 53 = .ok (.iastore, 1) := by decide +kernel
theorem dX5_readNumber_54 : decode cX5_readNumber 54 = .ok (.iload 4, 2) := by decide +kernel
theorem dX5_readNumber_56 : decode cX5_readNumber 56 = .ok (.ifCond .lt 45, 3) := by decide +kernel
theorem dX5_readNumber_59 : decode cX5_readNumber 59 = .ok (.iload 4, 2) := by decide +kernel
theorem dX5_readNumber_61 : decode cX5_readNumber 61 = .ok (.getstatic 64, 3) := by decide +kernel
theorem dX5_readNumber_64 : decode cX5_readNumber 64 = .ok (.arraylength, 1) := by decide +kernel
theorem dX5_readNumber_65 : decode cX5_readNumber 65 = .ok (.if_icmp .ge 36, 3) := by decide +kernel
theorem dX5_readNumber_68 : decode cX5_readNumber 68 = .ok (.iload 4, 2) := by decide +kernel
theorem dX5_readNumber_70 : decode cX5_readNumber 70 = .ok (.getstatic 67, 3) := by decide +kernel
theorem dX5_readNumber_73 : decode cX5_readNumber 73 = .ok (.arraylength, 1) := by decide +kernel
theorem dX5_readNumber_74 : decode cX5_readNumber 74 = .ok (.if_icmp .ge 27, 3) := by decide +kernel
theorem dX5_readNumber_77 : decode cX5_readNumber 77 = .ok (.iload 5, 2) := by decide +kernel
theorem dX5_readNumber_79 : decode cX5_readNumber 79 = .ok (.getstatic 64, 3) := by decide +kernel
theorem dX5_readNumber_82 : decode cX5_readNumber 82 = .ok (.iload 4, 2) := by decide +kernel
theorem dX5_readNumber_84 : decode cX5_readNumber 84 = .ok (.iaload, 1) := by decide +kernel
theorem dX5_readNumber_85 : decode cX5_readNumber 85 = .ok (.getstatic 67, 3) := by decide +kernel
theorem dX5_readNumber_88 : decode cX5_readNumber 88 = .ok (.iload 4, 2) := by decide +kernel
theorem dX5_readNumber_90 : decode cX5_readNumber 90 = .ok (.iaload, 1) := by decide +kernel
theorem dX5_readNumber_91 : decode cX5_readNumber 91 = .ok (.invokestatic 70, 3) := by decide +kernel
theorem dX5_readNumber_94 : decode cX5_readNumber 94 = .ok (.ifCond .eq 7, 3) := by decide +kernel
theorem dX5_readNumber_97 : decode cX5_readNumber 97 = .ok (.iconst 1, 1) := by decide +kernel
theorem dX5_readNumber_98 : decode cX5_readNumber 98 = .ok (.goto 4, 3) := by decide +kernel
theorem dX5_readNumber_101 : decode cX5_readNumber 101 = .ok (.iconst 0, 1) := by decide +kernel
theorem dX5_readNumber_102 : decode cX5_readNumber 102 = .ok (.ireturn, 1) := by decide +kernel
theorem dX5_figuresAt_0 : decode cX5_figuresAt 0 = .ok (.aload_n 0, 1) := by decide +kernel
theorem dX5_figuresAt_1 : decode cX5_figuresAt 1 = .ok (.iload_n 1, 1) := by decide +kernel
theorem dX5_figuresAt_2 : decode cX5_figuresAt 2 = .ok (.invokevirtual 40, 3) := by decide +kernel
theorem dX5_figuresAt_5 : decode cX5_figuresAt 5 = .ok (.invokestatic 74, 3) := by decide +kernel
theorem dX5_figuresAt_8 : decode cX5_figuresAt 8 = .ok (.ifCond .ne 5, 3) := by decide +kernel
theorem dX5_figuresAt_11 : decode cX5_figuresAt 11 = .ok (.iconst 0, 1) := by decide +kernel
theorem dX5_figuresAt_12 : decode cX5_figuresAt 12 = .ok (.ireturn, 1) := by decide +kernel
theorem dX5_figuresAt_13 : decode cX5_figuresAt 13 = .ok (.aload_n 0, 1) := by decide +kernel
theorem dX5_figuresAt_14 : decode cX5_figuresAt 14 = .ok (.iload_n 1, 1) := by decide +kernel
theorem dX5_figuresAt_15 : decode cX5_figuresAt 15 = .ok (.iconst 1, 1) := by decide +kernel
theorem dX5_figuresAt_16 : decode cX5_figuresAt 16 = .ok (.iadd, 1) := by decide +kernel
theorem dX5_figuresAt_17 : decode cX5_figuresAt 17 = .ok (.invokevirtual 40, 3) := by decide +kernel
theorem dX5_figuresAt_20 : decode cX5_figuresAt 20 = .ok (.invokestatic 74, 3) := by decide +kernel
theorem dX5_figuresAt_23 : decode cX5_figuresAt 23 = .ok (.ifCond .eq 7, 3) := by decide +kernel
theorem dX5_figuresAt_26 : decode cX5_figuresAt 26 = .ok (.iconst 2, 1) := by decide +kernel
theorem dX5_figuresAt_27 : decode cX5_figuresAt 27 = .ok (.goto 4, 3) := by decide +kernel
theorem dX5_figuresAt_30 : decode cX5_figuresAt 30 = .ok (.iconst 1, 1) := by decide +kernel
theorem dX5_figuresAt_31 : decode cX5_figuresAt 31 = .ok (.ireturn, 1) := by decide +kernel
theorem dX5_isFigure_0 : decode cX5_isFigure 0 = .ok (.iload_n 0, 1) := by decide +kernel
theorem dX5_isFigure_1 : decode cX5_isFigure 1 = .ok (.bipush 48, 2) := by decide +kernel
theorem dX5_isFigure_3 : decode cX5_isFigure 3 = .ok (.if_icmp .lt 13, 3) := by decide +kernel
theorem dX5_isFigure_6 : decode cX5_isFigure 6 = .ok (.iload_n 0, 1) := by decide +kernel
theorem dX5_isFigure_7 : decode cX5_isFigure 7 = .ok (.bipush 57, 2) := by decide +kernel
theorem dX5_isFigure_9 : decode cX5_isFigure 9 = .ok (.if_icmp .gt 7, 3) := by decide +kernel
theorem dX5_isFigure_12 : decode cX5_isFigure 12 = .ok (.iconst 1, 1) := by decide +kernel
theorem dX5_isFigure_13 : decode cX5_isFigure 13 = .ok (.goto 4, 3) := by decide +kernel
theorem dX5_isFigure_16 : decode cX5_isFigure 16 = .ok (.iconst 0, 1) := by decide +kernel
theorem dX5_isFigure_17 : decode cX5_isFigure 17 = .ok (.ireturn, 1) := by decide +kernel
theorem dX5_howManyNumbers_0 : decode cX5_howManyNumbers 0 = .ok (.iload_n 0, 1) := by decide +kernel
theorem dX5_howManyNumbers_1 : decode cX5_howManyNumbers 1 = .ok (.lookupswitch 51 #[(98, 43), (102, 49), (107, 47), (116, 45)], 43) := by decide +kernel
theorem dX5_howManyNumbers_44 : decode cX5_howManyNumbers 44 = .ok (.iconst 4, 1) := by decide +kernel
theorem dX5_howManyNumbers_45 : decode cX5_howManyNumbers 45 = .ok (.ireturn, 1) := by decide +kernel
theorem dX5_howManyNumbers_46 : decode cX5_howManyNumbers 46 = .ok (.iconst 3, 1) := by decide +kernel
theorem dX5_howManyNumbers_47 : decode cX5_howManyNumbers 47 = .ok (.ireturn, 1) := by decide +kernel
theorem dX5_howManyNumbers_48 : decode cX5_howManyNumbers 48 = .ok (.iconst 2, 1) := by decide +kernel
theorem dX5_howManyNumbers_49 : decode cX5_howManyNumbers 49 = .ok (.ireturn, 1) := by decide +kernel
theorem dX5_howManyNumbers_50 : decode cX5_howManyNumbers 50 = .ok (.iconst 1, 1) := by decide +kernel
theorem dX5_howManyNumbers_51 : decode cX5_howManyNumbers 51 = .ok (.ireturn, 1) := by decide +kernel
theorem dX5_howManyNumbers_52 : decode cX5_howManyNumbers 52 = .ok (.iconst 0, 1) := by decide +kernel
theorem dX5_howManyNumbers_53 : decode cX5_howManyNumbers 53 = .ok (.ireturn, 1) := by decide +kernel
theorem dX5_firstLimit_0 : decode cX5_firstLimit 0 = .ok (.iload_n 0, 1) := by decide +kernel
theorem dX5_firstLimit_1 : decode cX5_firstLimit 1 = .ok (.lookupswitch 43 #[(102, 40), (107, 37), (116, 35)], 35) := by decide +kernel
theorem dX5_firstLimit_36 : decode cX5_firstLimit 36 = .ok (.iconst 4, 1) := by decide +kernel
theorem dX5_firstLimit_37 : decode cX5_firstLimit 37 = .ok (.ireturn, 1) := by decide +kernel
theorem dX5_firstLimit_38 : decode cX5_firstLimit 38 = .ok (.bipush 7, 2) := by decide +kernel
theorem dX5_firstLimit_40 : decode cX5_firstLimit 40 = .ok (.ireturn, 1) := by decide +kernel
theorem dX5_firstLimit_41 : decode cX5_firstLimit 41 = .ok (.bipush 9, 2) := by decide +kernel
theorem dX5_firstLimit_43 : decode cX5_firstLimit 43 = .ok (.ireturn, 1) := by decide +kernel
theorem dX5_firstLimit_44 : decode cX5_firstLimit 44 = .ok (.iconst 0, 1) := by decide +kernel
theorem dX5_firstLimit_45 : decode cX5_firstLimit 45 = .ok (.ireturn, 1) := by decide +kernel
theorem dX6_init_0 : decode cX6_init 0 = .ok (.aload_n 0, 1) := by decide +kernel
theorem dX6_init_1 : decode cX6_init 1 = .ok (.invokespecial 1, 3) := by decide +kernel
theorem dX6_init_4 : decode cX6_init 4 = .ok (.aload_n 0, 1) := by decide +kernel
theorem dX6_init_5 : decode cX6_init 5 = .ok (.new 7, 3) := by decide +kernel
theorem dX6_init_8 : decode cX6_init 8 = .ok (.dup, 1) := by decide +kernel
theorem dX6_init_9 : decode cX6_init 9 = .ok (.invokespecial 9, 3) := by decide +kernel
theorem dX6_init_12 : decode cX6_init 12 = .ok (.putfield 10, 3) := by decide +kernel
theorem dX6_init_15 : decode cX6_init 15 = .ok (.aload_n 0, 1) := by decide +kernel
theorem dX6_init_16 : decode cX6_init 16 = .ok (.new 16, 3) := by decide +kernel
theorem dX6_init_19 : decode cX6_init 19 = .ok (.dup, 1) := by decide +kernel
theorem dX6_init_20 : decode cX6_init 20 = .ok (.invokespecial 18, 3) := by decide +kernel
theorem dX6_init_23 : decode cX6_init 23 = .ok (.putfield 19, 3) := by decide +kernel
theorem dX6_init_26 : decode cX6_init 26 = .ok (.aload_n 0, 1) := by decide +kernel
theorem dX6_init_27 : decode cX6_init 27 = .ok (.new 23, 3) := by decide +kernel
theorem dX6_init_30 : decode cX6_init 30 = .ok (.dup, 1) := by decide +kernel
theorem dX6_init_31 : decode cX6_init 31 = .ok (.invokespecial 25, 3) := by decide +kernel
theorem dX6_init_34 : decode cX6_init 34 = .ok (.putfield 26, 3) := by decide +kernel
theorem dX6_init_37 : decode cX6_init 37 = .ok (.aload_n 0, 1) := by decide +kernel
theorem dX6_init_38 : decode cX6_init 38 = .ok (.new 30, 3) := by decide +kernel
theorem dX6_init_41 : decode cX6_init 41 = .ok (.dup, 1) := by decide +kernel
theorem dX6_init_42 : decode cX6_init 42 = .ok (.bipush 8, 2) := by decide +kernel
theorem dX6_init_44 : decode cX6_init 44 = .ok (.invokespecial 32, 3) := by decide +kernel
theorem dX6_init_47 : decode cX6_init 47 = .ok (.putfield 35, 3) := by decide +kernel
theorem dX6_init_50 : decode cX6_init 50 = .ok (.aload_n 0, 1) := by decide +kernel
theorem dX6_init_51 : decode cX6_init 51 = .ok (.new 30, 3) := by decide +kernel
theorem dX6_init_54 : decode cX6_init 54 = .ok (.dup, 1) := by decide +kernel
theorem dX6_init_55 : decode cX6_init 55 = .ok (.iconst 2, 1) := by decide +kernel
theorem dX6_init_56 : decode cX6_init 56 = .ok (.invokespecial 32, 3) := by decide +kernel
theorem dX6_init_59 : decode cX6_init 59 = .ok (.putfield 39, 3) := by decide +kernel
theorem dX6_init_62 : decode cX6_init 62 = .ok (.aload_n 0, 1) := by decide +kernel
theorem dX6_init_63 : decode cX6_init 63 = .ok (.new 42, 3) := by decide +kernel
theorem dX6_init_66 : decode cX6_init 66 = .ok (.dup, 1) := by decide +kernel
theorem dX6_init_67 : decode cX6_init 67 = .ok (.aload_n 0, 1) := by decide +kernel
theorem dX6_init_68 : decode cX6_init 68 = .ok (.getfield 19, 3) := by decide +kernel
theorem dX6_init_71 : decode cX6_init 71 = .ok (.invokespecial 44, 3) := by decide +kernel
theorem dX6_init_74 : decode cX6_init 74 = .ok (.putfield 47, 3) := by decide +kernel
theorem dX6_init_77 : decode cX6_init 77 = .ok (.aload_n 0, 1) := by decide +kernel
theorem dX6_init_78 : decode cX6_init 78 = .ok (.new 51, 3) := by decide +kernel
theorem dX6_init_81 : decode cX6_init 81 = .ok (.dup, 1) := by decide +kernel
theorem dX6_init_82 : decode cX6_init 82 = .ok (.aload_n 0, 1) := by decide +kernel
theorem dX6_init_83 : decode cX6_init 83 = .ok (.getfield 19, 3) := by decide +kernel
theorem dX6_init_86 : decode cX6_init 86 = .ok (.invokespecial 53, 3) := by decide +kernel
theorem dX6_init_89 : decode cX6_init 89 = .ok (.putfield 54, 3) := by decide +kernel
theorem dX6_init_92 : decode cX6_init 92 = .ok (.aload_n 0, 1) := by decide +kernel
theorem dX6_init_93 : decode cX6_init 93 = .ok (.getfield 10, 3) := by decide +kernel
theorem dX6_init_96 : decode cX6_init 96 = .ok (.ldc 58, 2) := by decide +kernel
theorem dX6_init_98 : decode cX6_init 98 = .ok (.invokevirtual 60, 3) := by decide +kernel
theorem dX6_init_101 : decode cX6_init 101 = .ok (.aload_n 0, 1) := by decide +kernel
theorem dX6_init_102 : decode cX6_init 102 = .ok (.getfield 19, 3) := by decide +kernel
theorem dX6_init_105 : decode cX6_init 105 = .ok (.aload_n 0, 1) := by decide +kernel
theorem dX6_init_106 : decode cX6_init 106 = .ok (.getfield 10, 3) := by decide +kernel
theorem dX6_init_109 : decode cX6_init 109 = .ok (.aload_n 0, 1) := by decide +kernel
theorem dX6_init_110 : decode cX6_init 110 = .ok (.getfield 26, 3) := by decide +kernel
theorem dX6_init_113 : decode cX6_init 113 = .ok (.invokevirtual 64, 3) := by decide +kernel
theorem dX6_init_116 : decode cX6_init 116 = .ok (.aload_n 0, 1) := by decide +kernel
theorem dX6_init_117 : decode cX6_init 117 = .ok (.getfield 10, 3) := by decide +kernel
theorem dX6_init_120 : decode cX6_init 120 = .ok (.iconst 0, 1) := by decide +kernel
theorem dX6_init_121 : decode cX6_init 121 = .ok (.putfield 68, 3) := by decide +kernel
theorem dX6_init_124 : decode cX6_init 124 = .ok (.return_, 1) := by decide +kernel
theorem dX6_write_0 : decode cX6_write 0 = .ok (.iload_n 1, 1) := by decide +kernel
theorem dX6_write_1 : decode cX6_write 1 = .ok (.bipush 32, 2) := by decide +kernel
theorem dX6_write_3 : decode cX6_write 3 = .ok (.bipush 126, 2) := by decide +kernel
theorem dX6_write_5 : decode cX6_write 5 = .ok (.invokestatic 72, 3) := by decide +kernel
theorem dX6_write_8 : decode cX6_write 8 = .ok (.ifCond .ne 5, 3) := by decide +kernel
theorem dX6_write_11 : decode cX6_write 11 = .ok (.iconst (-1), 1) := by decide +kernel
theorem dX6_write_12 : decode cX6_write 12 = .ok (.ireturn, 1) := by decide +kernel
theorem dX6_write_13 : decode cX6_write 13 = .ok (.aload_n 0, 1) := by decide +kernel
theorem dX6_write_14 : decode cX6_write 14 = .ok (.getfield 10, 3) := by decide +kernel
theorem dX6_write_17 : decode cX6_write 17 = .ok (.invokevirtual 76, 3) := by decide +kernel
theorem dX6_write_20 : decode cX6_write 20 = .ok (.ifCond .eq 6, 3) := by decide +kernel
theorem dX6_write_23 : decode cX6_write 23 = .ok (.bipush (-3), 2) := by decide +kernel
theorem dX6_write_25 : decode cX6_write 25 = .ok (.ireturn, 1) := by decide +kernel
theorem dX6_write_26 : decode cX6_write 26 = .ok (.aload_n 0, 1) := by decide +kernel
theorem dX6_write_27 : decode cX6_write 27 = .ok (.getfield 10, 3) := by decide +kernel
theorem dX6_write_30 : decode cX6_write 30 = .ok (.iload_n 1, 1) := by decide +kernel
theorem dX6_write_31 : decode cX6_write 31 = .ok (.i2c, 1) := by decide +kernel
theorem dX6_write_32 : decode cX6_write 32 = .ok (.invokevirtual 80, 3) := by decide +kernel
theorem dX6_write_35 : decode cX6_write 35 = .ok (.aload_n 0, 1) := by decide +kernel
theorem dX6_write_36 : decode cX6_write 36 = .ok (.getfield 10, 3) := by decide +kernel
theorem dX6_write_39 : decode cX6_write 39 = .ok (.getfield 68, 3) := by decide +kernel
theorem dX6_write_42 : decode cX6_write 42 = .ok (.ireturn, 1) := by decide +kernel
theorem dX6_wipe_0 : decode cX6_wipe 0 = .ok (.aload_n 0, 1) := by decide +kernel
theorem dX6_wipe_1 : decode cX6_wipe 1 = .ok (.getfield 10, 3) := by decide +kernel
theorem dX6_wipe_4 : decode cX6_wipe 4 = .ok (.getfield 68, 3) := by decide +kernel
theorem dX6_wipe_7 : decode cX6_wipe 7 = .ok (.istore_n 1, 1) := by decide +kernel
theorem dX6_wipe_8 : decode cX6_wipe 8 = .ok (.aload_n 0, 1) := by decide +kernel
theorem dX6_wipe_9 : decode cX6_wipe 9 = .ok (.getfield 10, 3) := by decide +kernel
theorem dX6_wipe_12 : decode cX6_wipe 12 = .ok (.iconst 0, 1) := by decide +kernel
theorem dX6_wipe_13 : decode cX6_wipe 13 = .ok (.putfield 68, 3) := by decide +kernel
theorem dX6_wipe_16 : decode cX6_wipe 16 = .ok (.iload_n 1, 1) := by decide +kernel
theorem dX6_wipe_17 : decode cX6_wipe 17 = .ok (.ireturn, 1) := by decide +kernel
theorem dX6_fault_0 : decode cX6_fault 0 = .ok (.aload_n 0, 1) := by decide +kernel
theorem dX6_fault_1 : decode cX6_fault 1 = .ok (.getfield 10, 3) := by decide +kernel
theorem dX6_fault_4 : decode cX6_fault 4 = .ok (.invokevirtual 84, 3) := by decide +kernel
theorem dX6_fault_7 : decode cX6_fault 7 = .ok (.ireturn, 1) := by decide +kernel
theorem dX6_lay_0 : decode cX6_lay 0 = .ok (.aload_n 0, 1) := by decide +kernel
theorem dX6_lay_1 : decode cX6_lay 1 = .ok (.getfield 10, 3) := by decide +kernel
theorem dX6_lay_4 : decode cX6_lay 4 = .ok (.invokevirtual 88, 3) := by decide +kernel
theorem dX6_lay_7 : decode cX6_lay 7 = .ok (.ifCond .ne 6, 3) := by decide +kernel
theorem dX6_lay_10 : decode cX6_lay 10 = .ok (.bipush (-2), 2) := by decide +kernel
theorem dX6_lay_12 : decode cX6_lay 12 = .ok (.ireturn, 1) := by decide +kernel
theorem dX6_lay_13 : decode cX6_lay 13 = .ok (.aload_n 0, 1) := by decide +kernel
theorem dX6_lay_14 : decode cX6_lay 14 = .ok (.getfield 19, 3) := by decide +kernel
theorem dX6_lay_17 : decode cX6_lay 17 = .ok (.aload_n 0, 1) := by decide +kernel
theorem dX6_lay_18 : decode cX6_lay 18 = .ok (.getfield 10, 3) := by decide +kernel
theorem dX6_lay_21 : decode cX6_lay 21 = .ok (.aload_n 0, 1) := by decide +kernel
theorem dX6_lay_22 : decode cX6_lay 22 = .ok (.getfield 26, 3) := by decide +kernel
theorem dX6_lay_25 : decode cX6_lay 25 = .ok (.invokevirtual 64, 3) := by decide +kernel
theorem dX6_lay_28 : decode cX6_lay 28 = .ok (.aload_n 0, 1) := by decide +kernel
theorem dX6_lay_29 : decode cX6_lay 29 = .ok (.getfield 35, 3) := by decide +kernel
theorem dX6_lay_32 : decode cX6_lay 32 = .ok (.invokevirtual 91, 3) := by decide +kernel
theorem dX6_lay_35 : decode cX6_lay 35 = .ok (.aload_n 0, 1) := by decide +kernel
theorem dX6_lay_36 : decode cX6_lay 36 = .ok (.getfield 39, 3) := by decide +kernel
theorem dX6_lay_39 : decode cX6_lay 39 = .ok (.invokevirtual 91, 3) := by decide +kernel
theorem dX6_lay_42 : decode cX6_lay 42 = .ok (.aload_n 0, 1) := by decide +kernel
theorem dX6_lay_43 : decode cX6_lay 43 = .ok (.getfield 19, 3) := by decide +kernel
theorem dX6_lay_46 : decode cX6_lay 46 = .ok (.getfield 94, 3) := by decide +kernel
theorem dX6_lay_49 : decode cX6_lay 49 = .ok (.ireturn, 1) := by decide +kernel
theorem dX6_bough_0 : decode cX6_bough 0 = .ok (.aload_n 0, 1) := by decide +kernel
theorem dX6_bough_1 : decode cX6_bough 1 = .ok (.getfield 19, 3) := by decide +kernel
theorem dX6_bough_4 : decode cX6_bough 4 = .ok (.iload_n 1, 1) := by decide +kernel
theorem dX6_bough_5 : decode cX6_bough 5 = .ok (.invokevirtual 97, 3) := by decide +kernel
theorem dX6_bough_8 : decode cX6_bough 8 = .ok (.ifCond .ne 5, 3) := by decide +kernel
theorem dX6_bough_11 : decode cX6_bough 11 = .ok (.iconst (-1), 1) := by decide +kernel
theorem dX6_bough_12 : decode cX6_bough 12 = .ok (.ireturn, 1) := by decide +kernel
theorem dX6_bough_13 : decode cX6_bough 13 = .ok (.iload_n 2, 1) := by decide +kernel
theorem dX6_bough_14 : decode cX6_bough 14 = .ok (.tableswitch 136 0 6 #[42, 51, 60, 69, 78, 101, 124], 42) := by decide +kernel
theorem dX6_bough_56 : decode cX6_bough 56 = .ok (.aload_n 0, 1) := by decide +kernel
theorem dX6_bough_57 : decode cX6_bough 57 = .ok (.getfield 19, 3) := by decide +kernel
theorem dX6_bough_60 : decode cX6_bough 60 = .ok (.iload_n 1, 1) := by decide +kernel
theorem dX6_bough_61 : decode cX6_bough 61 = .ok (.invokevirtual 101, 3) := by decide +kernel
theorem dX6_bough_64 : decode cX6_bough 64 = .ok (.ireturn, 1) := by decide +kernel
theorem dX6_bough_65 : decode cX6_bough 65 = .ok (.aload_n 0, 1) := by decide +kernel
theorem dX6_bough_66 : decode cX6_bough 66 = .ok (.getfield 19, 3) := by decide +kernel
theorem dX6_bough_69 : decode cX6_bough 69 = .ok (.iload_n 1, 1) := by decide +kernel
theorem dX6_bough_70 : decode cX6_bough 70 = .ok (.invokevirtual 105, 3) := by decide +kernel
theorem dX6_bough_73 : decode cX6_bough 73 = .ok (.ireturn, 1) := by decide +kernel
theorem dX6_bough_74 : decode cX6_bough 74 = .ok (.aload_n 0, 1) := by decide +kernel
theorem dX6_bough_75 : decode cX6_bough 75 = .ok (.getfield 19, 3) := by decide +kernel
theorem dX6_bough_78 : decode cX6_bough 78 = .ok (.iload_n 1, 1) := by decide +kernel
theorem dX6_bough_79 : decode cX6_bough 79 = .ok (.invokevirtual 108, 3) := by decide +kernel
theorem dX6_bough_82 : decode cX6_bough 82 = .ok (.ireturn, 1) := by decide +kernel
theorem dX6_bough_83 : decode cX6_bough 83 = .ok (.aload_n 0, 1) := by decide +kernel
theorem dX6_bough_84 : decode cX6_bough 84 = .ok (.getfield 26, 3) := by decide +kernel
theorem dX6_bough_87 : decode cX6_bough 87 = .ok (.iload_n 1, 1) := by decide +kernel
theorem dX6_bough_88 : decode cX6_bough 88 = .ok (.invokevirtual 111, 3) := by decide +kernel
theorem dX6_bough_91 : decode cX6_bough 91 = .ok (.ireturn, 1) := by decide +kernel
theorem dX6_bough_92 : decode cX6_bough 92 = .ok (.aload_n 0, 1) := by decide +kernel
theorem dX6_bough_93 : decode cX6_bough 93 = .ok (.getfield 19, 3) := by decide +kernel
theorem dX6_bough_96 : decode cX6_bough 96 = .ok (.aload_n 0, 1) := by decide +kernel
theorem dX6_bough_97 : decode cX6_bough 97 = .ok (.getfield 26, 3) := by decide +kernel
theorem dX6_bough_100 : decode cX6_bough 100 = .ok (.iload_n 1, 1) := by decide +kernel
theorem dX6_bough_101 : decode cX6_bough 101 = .ok (.aload_n 0, 1) := by decide +kernel
theorem dX6_bough_102 : decode cX6_bough 102 = .ok (.getfield 26, 3) := by decide +kernel
theorem dX6_bough_105 : decode cX6_bough 105 = .ok (.getfield 114, 3) := by decide +kernel
theorem dX6_bough_108 : decode cX6_bough 108 = .ok (.invokevirtual 117, 3) := by decide +kernel
theorem dX6_bough_111 : decode cX6_bough 111 = .ok (.invokestatic 121, 3) := by decide +kernel
theorem dX6_bough_114 : decode cX6_bough 114 = .ok (.ireturn, 1) := by decide +kernel
theorem dX6_bough_115 : decode cX6_bough 115 = .ok (.aload_n 0, 1) := by decide +kernel
theorem dX6_bough_116 : decode cX6_bough 116 = .ok (.getfield 19, 3) := by decide +kernel
theorem dX6_bough_119 : decode cX6_bough 119 = .ok (.aload_n 0, 1) := by decide +kernel
theorem dX6_bough_120 : decode cX6_bough 120 = .ok (.getfield 26, 3) := by decide +kernel
theorem dX6_bough_123 : decode cX6_bough 123 = .ok (.iload_n 1, 1) := by decide +kernel
theorem dX6_bough_124 : decode cX6_bough 124 = .ok (.aload_n 0, 1) := by decide +kernel
theorem dX6_bough_125 : decode cX6_bough 125 = .ok (.getfield 26, 3) := by decide +kernel
theorem dX6_bough_128 : decode cX6_bough 128 = .ok (.getfield 114, 3) := by decide +kernel
theorem dX6_bough_131 : decode cX6_bough 131 = .ok (.invokevirtual 125, 3) := by decide +kernel
theorem dX6_bough_134 : decode cX6_bough 134 = .ok (.invokestatic 121, 3) := by decide +kernel
theorem dX6_bough_137 : decode cX6_bough 137 = .ok (.ireturn, 1) := by decide +kernel
theorem dX6_bough_138 : decode cX6_bough 138 = .ok (.aload_n 0, 1) := by decide +kernel
theorem dX6_bough_139 : decode cX6_bough 139 = .ok (.getfield 26, 3) := by decide +kernel
theorem dX6_bough_142 : decode cX6_bough 142 = .ok (.iload_n 1, 1) := by decide +kernel
theorem dX6_bough_143 : decode cX6_bough 143 = .ok (.invokevirtual 128, 3) := by decide +kernel
theorem dX6_bough_146 : decode cX6_bough 146 = .ok (.invokestatic 121, 3) := by decide +kernel
theorem dX6_bough_149 : decode cX6_bough 149 = .ok (.ireturn, 1) := by decide +kernel
theorem dX6_bough_150 : decode cX6_bough 150 = .ok (.iconst (-1), 1) := by decide +kernel
theorem dX6_bough_151 : decode cX6_bough 151 = .ok (.ireturn, 1) := by decide +kernel
theorem dX6_tenant_0 : decode cX6_tenant 0 = .ok (.aload_n 0, 1) := by decide +kernel
theorem dX6_tenant_1 : decode cX6_tenant 1 = .ok (.getfield 19, 3) := by decide +kernel
theorem dX6_tenant_4 : decode cX6_tenant 4 = .ok (.iload_n 1, 1) := by decide +kernel
theorem dX6_tenant_5 : decode cX6_tenant 5 = .ok (.invokevirtual 131, 3) := by decide +kernel
theorem dX6_tenant_8 : decode cX6_tenant 8 = .ok (.ifCond .ne 5, 3) := by decide +kernel
theorem dX6_tenant_11 : decode cX6_tenant 11 = .ok (.iconst (-1), 1) := by decide +kernel
theorem dX6_tenant_12 : decode cX6_tenant 12 = .ok (.ireturn, 1) := by decide +kernel
theorem dX6_tenant_13 : decode cX6_tenant 13 = .ok (.iload_n 2, 1) := by decide +kernel
theorem dX6_tenant_14 : decode cX6_tenant 14 = .ok (.tableswitch 99 0 5 #[38, 47, 56, 65, 74, 83], 38) := by decide +kernel
theorem dX6_tenant_52 : decode cX6_tenant 52 = .ok (.aload_n 0, 1) := by decide +kernel
theorem dX6_tenant_53 : decode cX6_tenant 53 = .ok (.getfield 26, 3) := by decide +kernel
theorem dX6_tenant_56 : decode cX6_tenant 56 = .ok (.iload_n 1, 1) := by decide +kernel
theorem dX6_tenant_57 : decode cX6_tenant 57 = .ok (.invokevirtual 134, 3) := by decide +kernel
theorem dX6_tenant_60 : decode cX6_tenant 60 = .ok (.ireturn, 1) := by decide +kernel
theorem dX6_tenant_61 : decode cX6_tenant 61 = .ok (.aload_n 0, 1) := by decide +kernel
theorem dX6_tenant_62 : decode cX6_tenant 62 = .ok (.getfield 19, 3) := by decide +kernel
theorem dX6_tenant_65 : decode cX6_tenant 65 = .ok (.iload_n 1, 1) := by decide +kernel
theorem dX6_tenant_66 : decode cX6_tenant 66 = .ok (.invokevirtual 137, 3) := by decide +kernel
theorem dX6_tenant_69 : decode cX6_tenant 69 = .ok (.ireturn, 1) := by decide +kernel
theorem dX6_tenant_70 : decode cX6_tenant 70 = .ok (.aload_n 0, 1) := by decide +kernel
theorem dX6_tenant_71 : decode cX6_tenant 71 = .ok (.getfield 19, 3) := by decide +kernel
theorem dX6_tenant_74 : decode cX6_tenant 74 = .ok (.iload_n 1, 1) := by decide +kernel
theorem dX6_tenant_75 : decode cX6_tenant 75 = .ok (.invokevirtual 140, 3) := by decide +kernel
theorem dX6_tenant_78 : decode cX6_tenant 78 = .ok (.ireturn, 1) := by decide +kernel
theorem dX6_tenant_79 : decode cX6_tenant 79 = .ok (.aload_n 0, 1) := by decide +kernel
theorem dX6_tenant_80 : decode cX6_tenant 80 = .ok (.getfield 26, 3) := by decide +kernel
theorem dX6_tenant_83 : decode cX6_tenant 83 = .ok (.iload_n 1, 1) := by decide +kernel
theorem dX6_tenant_84 : decode cX6_tenant 84 = .ok (.invokevirtual 143, 3) := by decide +kernel
theorem dX6_tenant_87 : decode cX6_tenant 87 = .ok (.ireturn, 1) := by decide +kernel
theorem dX6_tenant_88 : decode cX6_tenant 88 = .ok (.aload_n 0, 1) := by decide +kernel
theorem dX6_tenant_89 : decode cX6_tenant 89 = .ok (.getfield 26, 3) := by decide +kernel
theorem dX6_tenant_92 : decode cX6_tenant 92 = .ok (.iload_n 1, 1) := by decide +kernel
theorem dX6_tenant_93 : decode cX6_tenant 93 = .ok (.invokevirtual 146, 3) := by decide +kernel
theorem dX6_tenant_96 : decode cX6_tenant 96 = .ok (.ireturn, 1) := by decide +kernel
theorem dX6_tenant_97 : decode cX6_tenant 97 = .ok (.aload_n 0, 1) := by decide +kernel
theorem dX6_tenant_98 : decode cX6_tenant 98 = .ok (.getfield 19, 3) := by decide +kernel
theorem dX6_tenant_101 : decode cX6_tenant 101 = .ok (.aload_n 0, 1) := by decide +kernel
theorem dX6_tenant_102 : decode cX6_tenant 102 = .ok (.getfield 26, 3) := by decide +kernel
theorem dX6_tenant_105 : decode cX6_tenant 105 = .ok (.iload_n 1, 1) := by decide +kernel
theorem dX6_tenant_106 : decode cX6_tenant 106 = .ok (.invokevirtual 149, 3) := by decide +kernel
theorem dX6_tenant_109 : decode cX6_tenant 109 = .ok (.invokestatic 121, 3) := by decide +kernel
theorem dX6_tenant_112 : decode cX6_tenant 112 = .ok (.ireturn, 1) := by decide +kernel
theorem dX6_tenant_113 : decode cX6_tenant 113 = .ok (.iconst (-1), 1) := by decide +kernel
theorem dX6_tenant_114 : decode cX6_tenant 114 = .ok (.ireturn, 1) := by decide +kernel
theorem dX6_can_0 : decode cX6_can 0 = .ok (.aload_n 0, 1) := by decide +kernel
theorem dX6_can_1 : decode cX6_can 1 = .ok (.getfield 19, 3) := by decide +kernel
theorem dX6_can_4 : decode cX6_can 4 = .ok (.iload_n 1, 1) := by decide +kernel
theorem dX6_can_5 : decode cX6_can 5 = .ok (.invokevirtual 131, 3) := by decide +kernel
theorem dX6_can_8 : decode cX6_can 8 = .ok (.ifCond .eq 14, 3) := by decide +kernel
theorem dX6_can_11 : decode cX6_can 11 = .ok (.aload_n 0, 1) := by decide +kernel
theorem dX6_can_12 : decode cX6_can 12 = .ok (.getfield 19, 3) := by decide +kernel
theorem dX6_can_15 : decode cX6_can 15 = .ok (.iload_n 2, 1) := by decide +kernel
theorem dX6_can_16 : decode cX6_can 16 = .ok (.invokevirtual 97, 3) := by decide +kernel
theorem dX6_can_19 : decode cX6_can 19 = .ok (.ifCond .ne 5, 3) := by decide +kernel
theorem dX6_can_22 : decode cX6_can 22 = .ok (.iconst (-1), 1) := by decide +kernel
theorem dX6_can_23 : decode cX6_can 23 = .ok (.ireturn, 1) := by decide +kernel
theorem dX6_can_24 : decode cX6_can 24 = .ok (.aload_n 0, 1) := by decide +kernel
theorem dX6_can_25 : decode cX6_can 25 = .ok (.getfield 19, 3) := by decide +kernel
theorem dX6_can_28 : decode cX6_can 28 = .ok (.aload_n 0, 1) := by decide +kernel
theorem dX6_can_29 : decode cX6_can 29 = .ok (.getfield 26, 3) := by decide +kernel
theorem dX6_can_32 : decode cX6_can 32 = .ok (.iload_n 1, 1) := by decide +kernel
theorem dX6_can_33 : decode cX6_can 33 = .ok (.iload_n 2, 1) := by decide +kernel
theorem dX6_can_34 : decode cX6_can 34 = .ok (.invokevirtual 153, 3) := by decide +kernel
theorem dX6_can_37 : decode cX6_can 37 = .ok (.invokestatic 121, 3) := by decide +kernel
theorem dX6_can_40 : decode cX6_can 40 = .ok (.ireturn, 1) := by decide +kernel
theorem dX6_take_0 : decode cX6_take 0 = .ok (.aload_n 0, 1) := by decide +kernel
theorem dX6_take_1 : decode cX6_take 1 = .ok (.getfield 19, 3) := by decide +kernel
theorem dX6_take_4 : decode cX6_take 4 = .ok (.iload_n 1, 1) := by decide +kernel
theorem dX6_take_5 : decode cX6_take 5 = .ok (.invokevirtual 131, 3) := by decide +kernel
theorem dX6_take_8 : decode cX6_take 8 = .ok (.ifCond .eq 14, 3) := by decide +kernel
theorem dX6_take_11 : decode cX6_take 11 = .ok (.aload_n 0, 1) := by decide +kernel
theorem dX6_take_12 : decode cX6_take 12 = .ok (.getfield 19, 3) := by decide +kernel
theorem dX6_take_15 : decode cX6_take 15 = .ok (.iload_n 2, 1) := by decide +kernel
theorem dX6_take_16 : decode cX6_take 16 = .ok (.invokevirtual 97, 3) := by decide +kernel
theorem dX6_take_19 : decode cX6_take 19 = .ok (.ifCond .ne 5, 3) := by decide +kernel
theorem dX6_take_22 : decode cX6_take 22 = .ok (.iconst (-1), 1) := by decide +kernel
theorem dX6_take_23 : decode cX6_take 23 = .ok (.ireturn, 1) := by decide +kernel
theorem dX6_take_24 : decode cX6_take 24 = .ok (.aload_n 0, 1) := by decide +kernel
theorem dX6_take_25 : decode cX6_take 25 = .ok (.getfield 19, 3) := by decide +kernel
theorem dX6_take_28 : decode cX6_take 28 = .ok (.aload_n 0, 1) := by decide +kernel
theorem dX6_take_29 : decode cX6_take 29 = .ok (.getfield 26, 3) := by decide +kernel
theorem dX6_take_32 : decode cX6_take 32 = .ok (.iload_n 1, 1) := by decide +kernel
theorem dX6_take_33 : decode cX6_take 33 = .ok (.iload_n 2, 1) := by decide +kernel
theorem dX6_take_34 : decode cX6_take 34 = .ok (.invokevirtual 153, 3) := by decide +kernel
theorem dX6_take_37 : decode cX6_take 37 = .ok (.ifCond .ne 6, 3) := by decide +kernel
theorem dX6_take_40 : decode cX6_take 40 = .ok (.bipush (-2), 2) := by decide +kernel
theorem dX6_take_42 : decode cX6_take 42 = .ok (.ireturn, 1) := by decide +kernel
theorem dX6_take_43 : decode cX6_take 43 = .ok (.aload_n 0, 1) := by decide +kernel
theorem dX6_take_44 : decode cX6_take 44 = .ok (.getfield 19, 3) := by decide +kernel
theorem dX6_take_47 : decode cX6_take 47 = .ok (.aload_n 0, 1) := by decide +kernel
theorem dX6_take_48 : decode cX6_take 48 = .ok (.getfield 26, 3) := by decide +kernel
theorem dX6_take_51 : decode cX6_take 51 = .ok (.iload_n 1, 1) := by decide +kernel
theorem dX6_take_52 : decode cX6_take 52 = .ok (.iload_n 2, 1) := by decide +kernel
theorem dX6_take_53 : decode cX6_take 53 = .ok (.invokevirtual 156, 3) := by decide +kernel
theorem dX6_take_56 : decode cX6_take 56 = .ok (.istore_n 3, 1) := by decide +kernel
theorem dX6_take_57 : decode cX6_take 57 = .ok (.aload_n 0, 1) := by decide +kernel
theorem dX6_take_58 : decode cX6_take 58 = .ok (.getfield 35, 3) := by decide +kernel
theorem dX6_take_61 : decode cX6_take 61 = .ok (.aload_n 0, 1) := by decide +kernel
theorem dX6_take_62 : decode cX6_take 62 = .ok (.getfield 26, 3) := by decide +kernel
theorem dX6_take_65 : decode cX6_take 65 = .ok (.invokevirtual 159, 3) := by decide +kernel
theorem dX6_take_68 : decode cX6_take 68 = .ok (.aload_n 0, 1) := by decide +kernel
theorem dX6_take_69 : decode cX6_take 69 = .ok (.getfield 26, 3) := by decide +kernel
theorem dX6_take_72 : decode cX6_take 72 = .ok (.iload_n 1, 1) := by decide +kernel
theorem dX6_take_73 : decode cX6_take 73 = .ok (.iload_n 2, 1) := by decide +kernel
theorem dX6_take_74 : decode cX6_take 74 = .ok (.aload_n 0, 1) := by decide +kernel
theorem dX6_take_75 : decode cX6_take 75 = .ok (.getfield 19, 3) := by decide +kernel
theorem dX6_take_78 : decode cX6_take 78 = .ok (.iload_n 2, 1) := by decide +kernel
theorem dX6_take_79 : decode cX6_take 79 = .ok (.invokevirtual 108, 3) := by decide +kernel
theorem dX6_take_82 : decode cX6_take 82 = .ok (.invokevirtual 162, 3) := by decide +kernel
theorem dX6_take_85 : decode cX6_take 85 = .ok (.iload_n 3, 1) := by decide +kernel
theorem dX6_take_86 : decode cX6_take 86 = .ok (.ifCond .eq 11, 3) := by decide +kernel
theorem dX6_take_89 : decode cX6_take 89 = .ok (.aload_n 0, 1) := by decide +kernel
theorem dX6_take_90 : decode cX6_take 90 = .ok (.getfield 26, 3) := by decide +kernel
theorem dX6_take_93 : decode cX6_take 93 = .ok (.iload_n 1, 1) := by decide +kernel
theorem dX6_take_94 : decode cX6_take 94 = .ok (.invokevirtual 166, 3) := by decide +kernel
theorem dX6_take_97 : decode cX6_take 97 = .ok (.aload_n 0, 1) := by decide +kernel
theorem dX6_take_98 : decode cX6_take 98 = .ok (.getfield 26, 3) := by decide +kernel
theorem dX6_take_101 : decode cX6_take 101 = .ok (.iload_n 1, 1) := by decide +kernel
theorem dX6_take_102 : decode cX6_take 102 = .ok (.invokevirtual 143, 3) := by decide +kernel
theorem dX6_take_105 : decode cX6_take 105 = .ok (.ireturn, 1) := by decide +kernel
theorem dX6_pass_0 : decode cX6_pass 0 = .ok (.iload_n 1, 1) := by decide +kernel
theorem dX6_pass_1 : decode cX6_pass 1 = .ok (.iconst 1, 1) := by decide +kernel
theorem dX6_pass_2 : decode cX6_pass 2 = .ok (.bipush 30, 2) := by decide +kernel
theorem dX6_pass_4 : decode cX6_pass 4 = .ok (.invokestatic 72, 3) := by decide +kernel
theorem dX6_pass_7 : decode cX6_pass 7 = .ok (.ifCond .ne 5, 3) := by decide +kernel
theorem dX6_pass_10 : decode cX6_pass 10 = .ok (.iconst (-1), 1) := by decide +kernel
theorem dX6_pass_11 : decode cX6_pass 11 = .ok (.ireturn, 1) := by decide +kernel
theorem dX6_pass_12 : decode cX6_pass 12 = .ok (.aload_n 0, 1) := by decide +kernel
theorem dX6_pass_13 : decode cX6_pass 13 = .ok (.getfield 26, 3) := by decide +kernel
theorem dX6_pass_16 : decode cX6_pass 16 = .ok (.getfield 114, 3) := by decide +kernel
theorem dX6_pass_19 : decode cX6_pass 19 = .ok (.iload_n 1, 1) := by decide +kernel
theorem dX6_pass_20 : decode cX6_pass 20 = .ok (.iadd, 1) := by decide +kernel
theorem dX6_pass_21 : decode cX6_pass 21 = .ok (.bipush 99, 2) := by decide +kernel
theorem dX6_pass_23 : decode cX6_pass 23 = .ok (.if_icmp .le 6, 3) := by decide +kernel
theorem dX6_pass_26 : decode cX6_pass 26 = .ok (.bipush (-2), 2) := by decide +kernel
theorem dX6_pass_28 : decode cX6_pass 28 = .ok (.ireturn, 1) := by decide +kernel
theorem dX6_pass_29 : decode cX6_pass 29 = .ok (.aload_n 0, 1) := by decide +kernel
theorem dX6_pass_30 : decode cX6_pass 30 = .ok (.getfield 35, 3) := by decide +kernel
theorem dX6_pass_33 : decode cX6_pass 33 = .ok (.aload_n 0, 1) := by decide +kernel
theorem dX6_pass_34 : decode cX6_pass 34 = .ok (.getfield 26, 3) := by decide +kernel
theorem dX6_pass_37 : decode cX6_pass 37 = .ok (.invokevirtual 159, 3) := by decide +kernel
theorem dX6_pass_40 : decode cX6_pass 40 = .ok (.aload_n 0, 1) := by decide +kernel
theorem dX6_pass_41 : decode cX6_pass 41 = .ok (.getfield 26, 3) := by decide +kernel
theorem dX6_pass_44 : decode cX6_pass 44 = .ok (.iload_n 1, 1) := by decide +kernel
theorem dX6_pass_45 : decode cX6_pass 45 = .ok (.invokevirtual 169, 3) := by decide +kernel
theorem dX6_pass_48 : decode cX6_pass 48 = .ok (.aload_n 0, 1) := by decide +kernel
theorem dX6_pass_49 : decode cX6_pass 49 = .ok (.getfield 26, 3) := by decide +kernel
theorem dX6_pass_52 : decode cX6_pass 52 = .ok (.getfield 114, 3) := by decide +kernel
theorem dX6_pass_55 : decode cX6_pass 55 = .ok (.ireturn, 1) := by decide +kernel
theorem dX6_hook_0 : decode cX6_hook 0 = .ok (.aload_n 0, 1) := by decide +kernel
theorem dX6_hook_1 : decode cX6_hook 1 = .ok (.getfield 19, 3) := by decide +kernel
theorem dX6_hook_4 : decode cX6_hook 4 = .ok (.iload_n 1, 1) := by decide +kernel
theorem dX6_hook_5 : decode cX6_hook 5 = .ok (.invokevirtual 131, 3) := by decide +kernel
theorem dX6_hook_8 : decode cX6_hook 8 = .ok (.ifCond .eq 13, 3) := by decide +kernel
theorem dX6_hook_11 : decode cX6_hook 11 = .ok (.iload_n 2, 1) := by decide +kernel
theorem dX6_hook_12 : decode cX6_hook 12 = .ok (.iconst 1, 1) := by decide +kernel
theorem dX6_hook_13 : decode cX6_hook 13 = .ok (.bipush 20, 2) := by decide +kernel
theorem dX6_hook_15 : decode cX6_hook 15 = .ok (.invokestatic 72, 3) := by decide +kernel
theorem dX6_hook_18 : decode cX6_hook 18 = .ok (.ifCond .ne 5, 3) := by decide +kernel
theorem dX6_hook_21 : decode cX6_hook 21 = .ok (.iconst (-1), 1) := by decide +kernel
theorem dX6_hook_22 : decode cX6_hook 22 = .ok (.ireturn, 1) := by decide +kernel
theorem dX6_hook_23 : decode cX6_hook 23 = .ok (.aload_n 0, 1) := by decide +kernel
theorem dX6_hook_24 : decode cX6_hook 24 = .ok (.getfield 26, 3) := by decide +kernel
theorem dX6_hook_27 : decode cX6_hook 27 = .ok (.iload_n 1, 1) := by decide +kernel
theorem dX6_hook_28 : decode cX6_hook 28 = .ok (.invokevirtual 134, 3) := by decide +kernel
theorem dX6_hook_31 : decode cX6_hook 31 = .ok (.istore_n 3, 1) := by decide +kernel
theorem dX6_hook_32 : decode cX6_hook 32 = .ok (.aload_n 0, 1) := by decide +kernel
theorem dX6_hook_33 : decode cX6_hook 33 = .ok (.getfield 35, 3) := by decide +kernel
theorem dX6_hook_36 : decode cX6_hook 36 = .ok (.aload_n 0, 1) := by decide +kernel
theorem dX6_hook_37 : decode cX6_hook 37 = .ok (.getfield 26, 3) := by decide +kernel
theorem dX6_hook_40 : decode cX6_hook 40 = .ok (.invokevirtual 159, 3) := by decide +kernel
theorem dX6_hook_43 : decode cX6_hook 43 = .ok (.aload_n 0, 1) := by decide +kernel
theorem dX6_hook_44 : decode cX6_hook 44 = .ok (.getfield 26, 3) := by decide +kernel
theorem dX6_hook_47 : decode cX6_hook 47 = .ok (.iload_n 1, 1) := by decide +kernel
theorem dX6_hook_48 : decode cX6_hook 48 = .ok (.iload_n 2, 1) := by decide +kernel
theorem dX6_hook_49 : decode cX6_hook 49 = .ok (.invokevirtual 172, 3) := by decide +kernel
theorem dX6_hook_52 : decode cX6_hook 52 = .ok (.iload_n 3, 1) := by decide +kernel
theorem dX6_hook_53 : decode cX6_hook 53 = .ok (.ireturn, 1) := by decide +kernel
theorem dX6_ring_0 : decode cX6_ring 0 = .ok (.aload_n 0, 1) := by decide +kernel
theorem dX6_ring_1 : decode cX6_ring 1 = .ok (.getfield 19, 3) := by decide +kernel
theorem dX6_ring_4 : decode cX6_ring 4 = .ok (.iload_n 1, 1) := by decide +kernel
theorem dX6_ring_5 : decode cX6_ring 5 = .ok (.invokevirtual 97, 3) := by decide +kernel
theorem dX6_ring_8 : decode cX6_ring 8 = .ok (.ifCond .ne 5, 3) := by decide +kernel
theorem dX6_ring_11 : decode cX6_ring 11 = .ok (.iconst (-1), 1) := by decide +kernel
theorem dX6_ring_12 : decode cX6_ring 12 = .ok (.ireturn, 1) := by decide +kernel
theorem dX6_ring_13 : decode cX6_ring 13 = .ok (.aload_n 0, 1) := by decide +kernel
theorem dX6_ring_14 : decode cX6_ring 14 = .ok (.getfield 26, 3) := by decide +kernel
theorem dX6_ring_17 : decode cX6_ring 17 = .ok (.iload_n 1, 1) := by decide +kernel
theorem dX6_ring_18 : decode cX6_ring 18 = .ok (.invokevirtual 128, 3) := by decide +kernel
theorem dX6_ring_21 : decode cX6_ring 21 = .ok (.ifCond .ne 25, 3) := by decide +kernel
theorem dX6_ring_24 : decode cX6_ring 24 = .ok (.aload_n 0, 1) := by decide +kernel
theorem dX6_ring_25 : decode cX6_ring 25 = .ok (.getfield 19, 3) := by decide +kernel
theorem dX6_ring_28 : decode cX6_ring 28 = .ok (.aload_n 0, 1) := by decide +kernel
theorem dX6_ring_29 : decode cX6_ring 29 = .ok (.getfield 26, 3) := by decide +kernel
theorem dX6_ring_32 : decode cX6_ring 32 = .ok (.iload_n 1, 1) := by decide +kernel
theorem dX6_ring_33 : decode cX6_ring 33 = .ok (.aload_n 0, 1) := by decide +kernel
theorem dX6_ring_34 : decode cX6_ring 34 = .ok (.getfield 26, 3) := by decide +kernel
theorem dX6_ring_37 : decode cX6_ring 37 = .ok (.getfield 114, 3) := by decide +kernel
theorem dX6_ring_40 : decode cX6_ring 40 = .ok (.invokevirtual 117, 3) := by decide +kernel
theorem dX6_ring_43 : decode cX6_ring 43 = .ok (.ifCond .eq 6, 3) := by decide +kernel
theorem dX6_ring_46 : decode cX6_ring 46 = .ok (.bipush (-2), 2) := by decide +kernel
theorem dX6_ring_48 : decode cX6_ring 48 = .ok (.ireturn, 1) := by decide +kernel
theorem dX6_ring_49 : decode cX6_ring 49 = .ok (.aload_n 0, 1) := by decide +kernel
theorem dX6_ring_50 : decode cX6_ring 50 = .ok (.getfield 26, 3) := by decide +kernel
theorem dX6_ring_53 : decode cX6_ring 53 = .ok (.iload_n 1, 1) := by decide +kernel
theorem dX6_ring_54 : decode cX6_ring 54 = .ok (.invokevirtual 111, 3) := by decide +kernel
theorem dX6_ring_57 : decode cX6_ring 57 = .ok (.istore_n 2, 1) := by decide +kernel
theorem dX6_ring_58 : decode cX6_ring 58 = .ok (.aload_n 0, 1) := by decide +kernel
theorem dX6_ring_59 : decode cX6_ring 59 = .ok (.getfield 35, 3) := by decide +kernel
theorem dX6_ring_62 : decode cX6_ring 62 = .ok (.aload_n 0, 1) := by decide +kernel
theorem dX6_ring_63 : decode cX6_ring 63 = .ok (.getfield 26, 3) := by decide +kernel
theorem dX6_ring_66 : decode cX6_ring 66 = .ok (.invokevirtual 159, 3) := by decide +kernel
theorem dX6_ring_69 : decode cX6_ring 69 = .ok (.aload_n 0, 1) := by decide +kernel
theorem dX6_ring_70 : decode cX6_ring 70 = .ok (.getfield 26, 3) := by decide +kernel
theorem dX6_ring_73 : decode cX6_ring 73 = .ok (.iload_n 1, 1) := by decide +kernel
theorem dX6_ring_74 : decode cX6_ring 74 = .ok (.aload_n 0, 1) := by decide +kernel
theorem dX6_ring_75 : decode cX6_ring 75 = .ok (.getfield 26, 3) := by decide +kernel
theorem dX6_ring_78 : decode cX6_ring 78 = .ok (.getfield 114, 3) := by decide +kernel
theorem dX6_ring_81 : decode cX6_ring 81 = .ok (.invokevirtual 176, 3) := by decide +kernel
theorem dX6_ring_84 : decode cX6_ring 84 = .ok (.iload_n 2, 1) := by decide +kernel
theorem dX6_ring_85 : decode cX6_ring 85 = .ok (.ireturn, 1) := by decide +kernel
theorem dX6_undo_0 : decode cX6_undo 0 = .ok (.aload_n 0, 1) := by decide +kernel
theorem dX6_undo_1 : decode cX6_undo 1 = .ok (.getfield 35, 3) := by decide +kernel
theorem dX6_undo_4 : decode cX6_undo 4 = .ok (.getfield 179, 3) := by decide +kernel
theorem dX6_undo_7 : decode cX6_undo 7 = .ok (.ifCond .ne 6, 3) := by decide +kernel
theorem dX6_undo_10 : decode cX6_undo 10 = .ok (.bipush (-2), 2) := by decide +kernel
theorem dX6_undo_12 : decode cX6_undo 12 = .ok (.ireturn, 1) := by decide +kernel
theorem dX6_undo_13 : decode cX6_undo 13 = .ok (.aload_n 0, 1) := by decide +kernel
theorem dX6_undo_14 : decode cX6_undo 14 = .ok (.getfield 35, 3) := by decide +kernel
theorem dX6_undo_17 : decode cX6_undo 17 = .ok (.aload_n 0, 1) := by decide +kernel
theorem dX6_undo_18 : decode cX6_undo 18 = .ok (.getfield 26, 3) := by decide +kernel
theorem dX6_undo_21 : decode cX6_undo 21 = .ok (.invokevirtual 182, 3) := by decide +kernel
theorem dX6_undo_24 : decode cX6_undo 24 = .ok (.aload_n 0, 1) := by decide +kernel
theorem dX6_undo_25 : decode cX6_undo 25 = .ok (.getfield 35, 3) := by decide +kernel
theorem dX6_undo_28 : decode cX6_undo 28 = .ok (.getfield 179, 3) := by decide +kernel
theorem dX6_undo_31 : decode cX6_undo 31 = .ok (.ireturn, 1) := by decide +kernel
theorem dX6_warmBy_0 : decode cX6_warmBy 0 = .ok (.iload_n 1, 1) := by decide +kernel
theorem dX6_warmBy_1 : decode cX6_warmBy 1 = .ok (.aload_n 0, 1) := by decide +kernel
theorem dX6_warmBy_2 : decode cX6_warmBy 2 = .ok (.getfield 26, 3) := by decide +kernel
theorem dX6_warmBy_5 : decode cX6_warmBy 5 = .ok (.getfield 114, 3) := by decide +kernel
theorem dX6_warmBy_8 : decode cX6_warmBy 8 = .ok (.bipush 99, 2) := by decide +kernel
theorem dX6_warmBy_10 : decode cX6_warmBy 10 = .ok (.invokestatic 72, 3) := by decide +kernel
theorem dX6_warmBy_13 : decode cX6_warmBy 13 = .ok (.ifCond .ne 5, 3) := by decide +kernel
theorem dX6_warmBy_16 : decode cX6_warmBy 16 = .ok (.iconst (-1), 1) := by decide +kernel
theorem dX6_warmBy_17 : decode cX6_warmBy 17 = .ok (.ireturn, 1) := by decide +kernel
theorem dX6_warmBy_18 : decode cX6_warmBy 18 = .ok (.aload_n 0, 1) := by decide +kernel
theorem dX6_warmBy_19 : decode cX6_warmBy 19 = .ok (.getfield 47, 3) := by decide +kernel
theorem dX6_warmBy_22 : decode cX6_warmBy 22 = .ok (.aload_n 0, 1) := by decide +kernel
theorem dX6_warmBy_23 : decode cX6_warmBy 23 = .ok (.getfield 26, 3) := by decide +kernel
theorem dX6_warmBy_26 : decode cX6_warmBy 26 = .ok (.invokevirtual 185, 3) := by decide +kernel
theorem dX6_warmBy_29 : decode cX6_warmBy 29 = .ok (.aload_n 0, 1) := by decide +kernel
theorem dX6_warmBy_30 : decode cX6_warmBy 30 = .ok (.getfield 47, 3) := by decide +kernel
theorem dX6_warmBy_33 : decode cX6_warmBy 33 = .ok (.iload_n 1, 1) := by decide +kernel
theorem dX6_warmBy_34 : decode cX6_warmBy 34 = .ok (.invokevirtual 188, 3) := by decide +kernel
theorem dX6_warmBy_37 : decode cX6_warmBy 37 = .ok (.aload_n 0, 1) := by decide +kernel
theorem dX6_warmBy_38 : decode cX6_warmBy 38 = .ok (.getfield 19, 3) := by decide +kernel
theorem dX6_warmBy_41 : decode cX6_warmBy 41 = .ok (.aload_n 0, 1) := by decide +kernel
theorem dX6_warmBy_42 : decode cX6_warmBy 42 = .ok (.getfield 47, 3) := by decide +kernel
theorem dX6_warmBy_45 : decode cX6_warmBy 45 = .ok (.getfield 191, 3) := by decide +kernel
theorem dX6_warmBy_48 : decode cX6_warmBy 48 = .ok (.invokevirtual 194, 3) := by decide +kernel
theorem dX6_warmBy_51 : decode cX6_warmBy 51 = .ok (.ireturn, 1) := by decide +kernel
theorem dX6_allWarm_0 : decode cX6_allWarm 0 = .ok (.aload_n 0, 1) := by decide +kernel
theorem dX6_allWarm_1 : decode cX6_allWarm 1 = .ok (.getfield 47, 3) := by decide +kernel
theorem dX6_allWarm_4 : decode cX6_allWarm 4 = .ok (.aload_n 0, 1) := by decide +kernel
theorem dX6_allWarm_5 : decode cX6_allWarm 5 = .ok (.getfield 26, 3) := by decide +kernel
theorem dX6_allWarm_8 : decode cX6_allWarm 8 = .ok (.invokevirtual 185, 3) := by decide +kernel
theorem dX6_allWarm_11 : decode cX6_allWarm 11 = .ok (.aload_n 0, 1) := by decide +kernel
theorem dX6_allWarm_12 : decode cX6_allWarm 12 = .ok (.getfield 47, 3) := by decide +kernel
theorem dX6_allWarm_15 : decode cX6_allWarm 15 = .ok (.invokevirtual 198, 3) := by decide +kernel
theorem dX6_allWarm_18 : decode cX6_allWarm 18 = .ok (.ireturn, 1) := by decide +kernel
theorem dX6_share_0 : decode cX6_share 0 = .ok (.iload_n 1, 1) := by decide +kernel
theorem dX6_share_1 : decode cX6_share 1 = .ok (.iconst (-1), 1) := by decide +kernel
theorem dX6_share_2 : decode cX6_share 2 = .ok (.if_icmp .eq 16, 3) := by decide +kernel
theorem dX6_share_5 : decode cX6_share 5 = .ok (.aload_n 0, 1) := by decide +kernel
theorem dX6_share_6 : decode cX6_share 6 = .ok (.getfield 19, 3) := by decide +kernel
theorem dX6_share_9 : decode cX6_share 9 = .ok (.iload_n 1, 1) := by decide +kernel
theorem dX6_share_10 : decode cX6_share 10 = .ok (.invokevirtual 97, 3) := by decide +kernel
theorem dX6_share_13 : decode cX6_share 13 = .ok (.ifCond .ne 5, 3) := by decide +kernel
theorem dX6_share_16 : decode cX6_share 16 = .ok (.iconst (-1), 1) := by decide +kernel
theorem dX6_share_17 : decode cX6_share 17 = .ok (.ireturn, 1) := by decide +kernel
theorem dX6_share_18 : decode cX6_share 18 = .ok (.aload_n 0, 1) := by decide +kernel
theorem dX6_share_19 : decode cX6_share 19 = .ok (.getfield 54, 3) := by decide +kernel
theorem dX6_share_22 : decode cX6_share 22 = .ok (.aload_n 0, 1) := by decide +kernel
theorem dX6_share_23 : decode cX6_share 23 = .ok (.getfield 26, 3) := by decide +kernel
theorem dX6_share_26 : decode cX6_share 26 = .ok (.invokevirtual 201, 3) := by decide +kernel
theorem dX6_share_29 : decode cX6_share 29 = .ok (.iload_n 1, 1) := by decide +kernel
theorem dX6_share_30 : decode cX6_share 30 = .ok (.iconst (-1), 1) := by decide +kernel
theorem dX6_share_31 : decode cX6_share 31 = .ok (.if_icmp .ne 13, 3) := by decide +kernel
theorem dX6_share_34 : decode cX6_share 34 = .ok (.aload_n 0, 1) := by decide +kernel
theorem dX6_share_35 : decode cX6_share 35 = .ok (.getfield 54, 3) := by decide +kernel
theorem dX6_share_38 : decode cX6_share 38 = .ok (.getfield 204, 3) := by decide +kernel
theorem dX6_share_41 : decode cX6_share 41 = .ok (.goto 11, 3) := by decide +kernel
theorem dX6_share_44 : decode cX6_share 44 = .ok (.aload_n 0, 1) := by decide +kernel
theorem dX6_share_45 : decode cX6_share 45 = .ok (.getfield 54, 3) := by decide +kernel
theorem dX6_share_48 : decode cX6_share 48 = .ok (.iload_n 1, 1) := by decide +kernel
theorem dX6_share_49 : decode cX6_share 49 = .ok (.invokevirtual 207, 3) := by decide +kernel
theorem dX6_share_52 : decode cX6_share 52 = .ok (.ireturn, 1) := by decide +kernel
theorem dX6_leastHook_0 : decode cX6_leastHook 0 = .ok (.aload_n 0, 1) := by decide +kernel
theorem dX6_leastHook_1 : decode cX6_leastHook 1 = .ok (.getfield 19, 3) := by decide +kernel
theorem dX6_leastHook_4 : decode cX6_leastHook 4 = .ok (.iload_n 1, 1) := by decide +kernel
theorem dX6_leastHook_5 : decode cX6_leastHook 5 = .ok (.invokevirtual 131, 3) := by decide +kernel
theorem dX6_leastHook_8 : decode cX6_leastHook 8 = .ok (.ifCond .ne 5, 3) := by decide +kernel
theorem dX6_leastHook_11 : decode cX6_leastHook 11 = .ok (.iconst (-1), 1) := by decide +kernel
theorem dX6_leastHook_12 : decode cX6_leastHook 12 = .ok (.ireturn, 1) := by decide +kernel
theorem dX6_leastHook_13 : decode cX6_leastHook 13 = .ok (.iconst 1, 1) := by decide +kernel
theorem dX6_leastHook_14 : decode cX6_leastHook 14 = .ok (.istore_n 2, 1) := by decide +kernel
theorem dX6_leastHook_15 : decode cX6_leastHook 15 = .ok (.iload_n 2, 1) := by decide +kernel
theorem dX6_leastHook_16 : decode cX6_leastHook 16 = .ok (.bipush 20, 2) := by decide +kernel
theorem dX6_leastHook_18 : decode cX6_leastHook 18 = .ok (.if_icmp .gt 61, 3) := by decide +kernel
theorem dX6_leastHook_21 : decode cX6_leastHook 21 = .ok (.aload_n 0, 1) := by decide +kernel
theorem dX6_leastHook_22 : decode cX6_leastHook 22 = .ok (.getfield 47, 3) := by decide +kernel
theorem dX6_leastHook_25 : decode cX6_leastHook 25 = .ok (.aload_n 0, 1) := by decide +kernel
theorem dX6_leastHook_26 : decode cX6_leastHook 26 = .ok (.getfield 26, 3) := by decide +kernel
theorem dX6_leastHook_29 : decode cX6_leastHook 29 = .ok (.invokevirtual 185, 3) := by decide +kernel
theorem dX6_leastHook_32 : decode cX6_leastHook 32 = .ok (.aload_n 0, 1) := by decide +kernel
theorem dX6_leastHook_33 : decode cX6_leastHook 33 = .ok (.getfield 47, 3) := by decide +kernel
theorem dX6_leastHook_36 : decode cX6_leastHook 36 = .ok (.getfield 191, 3) := by decide +kernel
theorem dX6_leastHook_39 : decode cX6_leastHook 39 = .ok (.iload_n 1, 1) := by decide +kernel
theorem dX6_leastHook_40 : decode cX6_leastHook 40 = .ok (.iload_n 2, 1) := by decide +kernel
theorem dX6_leastHook_41 : decode cX6_leastHook 41 = .ok (.invokevirtual 172, 3) := by decide +kernel
theorem dX6_leastHook_44 : decode cX6_leastHook 44 = .ok (.aload_n 0, 1) := by decide +kernel
theorem dX6_leastHook_45 : decode cX6_leastHook 45 = .ok (.getfield 47, 3) := by decide +kernel
theorem dX6_leastHook_48 : decode cX6_leastHook 48 = .ok (.bipush 99, 2) := by decide +kernel
theorem dX6_leastHook_50 : decode cX6_leastHook 50 = .ok (.invokevirtual 188, 3) := by decide +kernel
theorem dX6_leastHook_53 : decode cX6_leastHook 53 = .ok (.aload_n 0, 1) := by decide +kernel
theorem dX6_leastHook_54 : decode cX6_leastHook 54 = .ok (.getfield 19, 3) := by decide +kernel
theorem dX6_leastHook_57 : decode cX6_leastHook 57 = .ok (.aload_n 0, 1) := by decide +kernel
theorem dX6_leastHook_58 : decode cX6_leastHook 58 = .ok (.getfield 47, 3) := by decide +kernel
theorem dX6_leastHook_61 : decode cX6_leastHook 61 = .ok (.getfield 191, 3) := by decide +kernel
theorem dX6_leastHook_64 : decode cX6_leastHook 64 = .ok (.iload_n 1, 1) := by decide +kernel
theorem dX6_leastHook_65 : decode cX6_leastHook 65 = .ok (.invokevirtual 149, 3) := by decide +kernel
theorem dX6_leastHook_68 : decode cX6_leastHook 68 = .ok (.ifCond .eq 5, 3) := by decide +kernel
theorem dX6_leastHook_71 : decode cX6_leastHook 71 = .ok (.iload_n 2, 1) := by decide +kernel
theorem dX6_leastHook_72 : decode cX6_leastHook 72 = .ok (.ireturn, 1) := by decide +kernel
theorem dX6_leastHook_73 : decode cX6_leastHook 73 = .ok (.iinc 2 1, 3) := by decide +kernel
theorem dX6_leastHook_76 : decode cX6_leastHook 76 = .ok (.goto (-61), 3) := by decide +kernel
theorem dX6_leastHook_79 : decode cX6_leastHook 79 = .ok (.bipush (-4), 2) := by decide +kernel
theorem dX6_leastHook_81 : decode cX6_leastHook 81 = .ok (.ireturn, 1) := by decide +kernel
theorem dX6_pole_0 : decode cX6_pole 0 = .ok (.iconst 1, 1) := by decide +kernel
theorem dX6_pole_1 : decode cX6_pole 1 = .ok (.istore_n 1, 1) := by decide +kernel
theorem dX6_pole_2 : decode cX6_pole 2 = .ok (.iload_n 1, 1) := by decide +kernel
theorem dX6_pole_3 : decode cX6_pole 3 = .ok (.bipush 20, 2) := by decide +kernel
theorem dX6_pole_5 : decode cX6_pole 5 = .ok (.if_icmp .gt 56, 3) := by decide +kernel
theorem dX6_pole_8 : decode cX6_pole 8 = .ok (.aload_n 0, 1) := by decide +kernel
theorem dX6_pole_9 : decode cX6_pole 9 = .ok (.getfield 47, 3) := by decide +kernel
theorem dX6_pole_12 : decode cX6_pole 12 = .ok (.aload_n 0, 1) := by decide +kernel
theorem dX6_pole_13 : decode cX6_pole 13 = .ok (.getfield 26, 3) := by decide +kernel
theorem dX6_pole_16 : decode cX6_pole 16 = .ok (.invokevirtual 185, 3) := by decide +kernel
theorem dX6_pole_19 : decode cX6_pole 19 = .ok (.aload_n 0, 1) := by decide +kernel
theorem dX6_pole_20 : decode cX6_pole 20 = .ok (.getfield 47, 3) := by decide +kernel
theorem dX6_pole_23 : decode cX6_pole 23 = .ok (.iload_n 1, 1) := by decide +kernel
theorem dX6_pole_24 : decode cX6_pole 24 = .ok (.invokevirtual 210, 3) := by decide +kernel
theorem dX6_pole_27 : decode cX6_pole 27 = .ok (.aload_n 0, 1) := by decide +kernel
theorem dX6_pole_28 : decode cX6_pole 28 = .ok (.getfield 47, 3) := by decide +kernel
theorem dX6_pole_31 : decode cX6_pole 31 = .ok (.bipush 99, 2) := by decide +kernel
theorem dX6_pole_33 : decode cX6_pole 33 = .ok (.invokevirtual 188, 3) := by decide +kernel
theorem dX6_pole_36 : decode cX6_pole 36 = .ok (.aload_n 0, 1) := by decide +kernel
theorem dX6_pole_37 : decode cX6_pole 37 = .ok (.getfield 19, 3) := by decide +kernel
theorem dX6_pole_40 : decode cX6_pole 40 = .ok (.aload_n 0, 1) := by decide +kernel
theorem dX6_pole_41 : decode cX6_pole 41 = .ok (.getfield 47, 3) := by decide +kernel
theorem dX6_pole_44 : decode cX6_pole 44 = .ok (.getfield 191, 3) := by decide +kernel
theorem dX6_pole_47 : decode cX6_pole 47 = .ok (.invokevirtual 213, 3) := by decide +kernel
theorem dX6_pole_50 : decode cX6_pole 50 = .ok (.ifCond .eq 5, 3) := by decide +kernel
theorem dX6_pole_53 : decode cX6_pole 53 = .ok (.iload_n 1, 1) := by decide +kernel
theorem dX6_pole_54 : decode cX6_pole 54 = .ok (.ireturn, 1) := by decide +kernel
theorem dX6_pole_55 : decode cX6_pole 55 = .ok (.iinc 1 1, 3) := by decide +kernel
theorem dX6_pole_58 : decode cX6_pole 58 = .ok (.goto (-56), 3) := by decide +kernel
theorem dX6_pole_61 : decode cX6_pole 61 = .ok (.bipush (-4), 2) := by decide +kernel
theorem dX6_pole_63 : decode cX6_pole 63 = .ok (.ireturn, 1) := by decide +kernel
theorem dX6_firstDay_0 : decode cX6_firstDay 0 = .ok (.aload_n 0, 1) := by decide +kernel
theorem dX6_firstDay_1 : decode cX6_firstDay 1 = .ok (.getfield 19, 3) := by decide +kernel
theorem dX6_firstDay_4 : decode cX6_firstDay 4 = .ok (.iload_n 1, 1) := by decide +kernel
theorem dX6_firstDay_5 : decode cX6_firstDay 5 = .ok (.invokevirtual 131, 3) := by decide +kernel
theorem dX6_firstDay_8 : decode cX6_firstDay 8 = .ok (.ifCond .eq 14, 3) := by decide +kernel
theorem dX6_firstDay_11 : decode cX6_firstDay 11 = .ok (.aload_n 0, 1) := by decide +kernel
theorem dX6_firstDay_12 : decode cX6_firstDay 12 = .ok (.getfield 19, 3) := by decide +kernel
theorem dX6_firstDay_15 : decode cX6_firstDay 15 = .ok (.iload_n 2, 1) := by decide +kernel
theorem dX6_firstDay_16 : decode cX6_firstDay 16 = .ok (.invokevirtual 97, 3) := by decide +kernel
theorem dX6_firstDay_19 : decode cX6_firstDay 19 = .ok (.ifCond .ne 5, 3) := by decide +kernel
theorem dX6_firstDay_22 : decode cX6_firstDay 22 = .ok (.iconst (-1), 1) := by decide +kernel
theorem dX6_firstDay_23 : decode cX6_firstDay 23 = .ok (.ireturn, 1) := by decide +kernel
theorem dX6_firstDay_24 : decode cX6_firstDay 24 = .ok (.aload_n 0, 1) := by decide +kernel
theorem dX6_firstDay_25 : decode cX6_firstDay 25 = .ok (.getfield 19, 3) := by decide +kernel
theorem dX6_firstDay_28 : decode cX6_firstDay 28 = .ok (.aload_n 0, 1) := by decide +kernel
theorem dX6_firstDay_29 : decode cX6_firstDay 29 = .ok (.getfield 26, 3) := by decide +kernel
theorem dX6_firstDay_32 : decode cX6_firstDay 32 = .ok (.iload_n 1, 1) := by decide +kernel
theorem dX6_firstDay_33 : decode cX6_firstDay 33 = .ok (.iload_n 2, 1) := by decide +kernel
theorem dX6_firstDay_34 : decode cX6_firstDay 34 = .ok (.invokevirtual 217, 3) := by decide +kernel
theorem dX6_firstDay_37 : decode cX6_firstDay 37 = .ok (.ireturn, 1) := by decide +kernel
theorem dX6_sticks_0 : decode cX6_sticks 0 = .ok (.iload_n 1, 1) := by decide +kernel
theorem dX6_sticks_1 : decode cX6_sticks 1 = .ok (.iconst 0, 1) := by decide +kernel
theorem dX6_sticks_2 : decode cX6_sticks 2 = .ok (.bipush 99, 2) := by decide +kernel
theorem dX6_sticks_4 : decode cX6_sticks 4 = .ok (.invokestatic 72, 3) := by decide +kernel
theorem dX6_sticks_7 : decode cX6_sticks 7 = .ok (.ifCond .eq 12, 3) := by decide +kernel
theorem dX6_sticks_10 : decode cX6_sticks 10 = .ok (.iload_n 2, 1) := by decide +kernel
theorem dX6_sticks_11 : decode cX6_sticks 11 = .ok (.iconst 0, 1) := by decide +kernel
theorem dX6_sticks_12 : decode cX6_sticks 12 = .ok (.iconst 1, 1) := by decide +kernel
theorem dX6_sticks_13 : decode cX6_sticks 13 = .ok (.invokestatic 72, 3) := by decide +kernel
theorem dX6_sticks_16 : decode cX6_sticks 16 = .ok (.ifCond .ne 5, 3) := by decide +kernel
theorem dX6_sticks_19 : decode cX6_sticks 19 = .ok (.iconst (-1), 1) := by decide +kernel
theorem dX6_sticks_20 : decode cX6_sticks 20 = .ok (.ireturn, 1) := by decide +kernel
theorem dX6_sticks_21 : decode cX6_sticks 21 = .ok (.iconst 0, 1) := by decide +kernel
theorem dX6_sticks_22 : decode cX6_sticks 22 = .ok (.istore_n 3, 1) := by decide +kernel
theorem dX6_sticks_23 : decode cX6_sticks 23 = .ok (.bipush (-4), 2) := by decide +kernel
theorem dX6_sticks_25 : decode cX6_sticks 25 = .ok (.istore 4, 2) := by decide +kernel
theorem dX6_sticks_27 : decode cX6_sticks 27 = .ok (.iconst 0, 1) := by decide +kernel
theorem dX6_sticks_28 : decode cX6_sticks 28 = .ok (.istore 5, 2) := by decide +kernel
theorem dX6_sticks_30 : decode cX6_sticks 30 = .ok (.iload 5, 2) := by decide +kernel
theorem dX6_sticks_32 : decode cX6_sticks 32 = .ok (.sipush 256, 3) := by decide +kernel
theorem dX6_sticks_35 : decode cX6_sticks 35 = .ok (.if_icmp .ge 51, 3) := by decide +kernel
theorem dX6_sticks_38 : decode cX6_sticks 38 = .ok (.iload 5, 2) := by decide +kernel
theorem dX6_sticks_40 : decode cX6_sticks 40 = .ok (.aload_n 0, 1) := by decide +kernel
theorem dX6_sticks_41 : decode cX6_sticks 41 = .ok (.getfield 26, 3) := by decide +kernel
theorem dX6_sticks_44 : decode cX6_sticks 44 = .ok (.getfield 221, 3) := by decide +kernel
theorem dX6_sticks_47 : decode cX6_sticks 47 = .ok (.iconst (-1), 1) := by decide +kernel
theorem dX6_sticks_48 : decode cX6_sticks 48 = .ok (.ixor, 1) := by decide +kernel
theorem dX6_sticks_49 : decode cX6_sticks 49 = .ok (.iand, 1) := by decide +kernel
theorem dX6_sticks_50 : decode cX6_sticks 50 = .ok (.ifCond .ne 30, 3) := by decide +kernel
theorem dX6_sticks_53 : decode cX6_sticks 53 = .ok (.aload_n 0, 1) := by decide +kernel
theorem dX6_sticks_54 : decode cX6_sticks 54 = .ok (.getfield 19, 3) := by decide +kernel
theorem dX6_sticks_57 : decode cX6_sticks 57 = .ok (.iload 5, 2) := by decide +kernel
theorem dX6_sticks_59 : decode cX6_sticks 59 = .ok (.invokevirtual 224, 3) := by decide +kernel
theorem dX6_sticks_62 : decode cX6_sticks 62 = .ok (.iload_n 1, 1) := by decide +kernel
theorem dX6_sticks_63 : decode cX6_sticks 63 = .ok (.if_icmp .ne 17, 3) := by decide +kernel
theorem dX6_sticks_66 : decode cX6_sticks 66 = .ok (.iinc 3 1, 3) := by decide +kernel
theorem dX6_sticks_69 : decode cX6_sticks 69 = .ok (.iload 4, 2) := by decide +kernel
theorem dX6_sticks_71 : decode cX6_sticks 71 = .ok (.bipush (-4), 2) := by decide +kernel
theorem dX6_sticks_73 : decode cX6_sticks 73 = .ok (.if_icmp .ne 7, 3) := by decide +kernel
theorem dX6_sticks_76 : decode cX6_sticks 76 = .ok (.iload 5, 2) := by decide +kernel
theorem dX6_sticks_78 : decode cX6_sticks 78 = .ok (.istore 4, 2) := by decide +kernel
theorem dX6_sticks_80 : decode cX6_sticks 80 = .ok (.iinc 5 1, 3) := by decide +kernel
theorem dX6_sticks_83 : decode cX6_sticks 83 = .ok (.goto (-53), 3) := by decide +kernel
theorem dX6_sticks_86 : decode cX6_sticks 86 = .ok (.iload_n 2, 1) := by decide +kernel
theorem dX6_sticks_87 : decode cX6_sticks 87 = .ok (.ifCond .ne 7, 3) := by decide +kernel
theorem dX6_sticks_90 : decode cX6_sticks 90 = .ok (.iload_n 3, 1) := by decide +kernel
theorem dX6_sticks_91 : decode cX6_sticks 91 = .ok (.goto 5, 3) := by decide +kernel
theorem dX6_sticks_94 : decode cX6_sticks 94 = .ok (.iload 4, 2) := by decide +kernel
theorem dX6_sticks_96 : decode cX6_sticks 96 = .ok (.ireturn, 1) := by decide +kernel
theorem dX6_whose_0 : decode cX6_whose 0 = .ok (.aload_n 0, 1) := by decide +kernel
theorem dX6_whose_1 : decode cX6_whose 1 = .ok (.getfield 19, 3) := by decide +kernel
theorem dX6_whose_4 : decode cX6_whose 4 = .ok (.iload_n 1, 1) := by decide +kernel
theorem dX6_whose_5 : decode cX6_whose 5 = .ok (.invokevirtual 97, 3) := by decide +kernel
theorem dX6_whose_8 : decode cX6_whose 8 = .ok (.ifCond .eq 13, 3) := by decide +kernel
theorem dX6_whose_11 : decode cX6_whose 11 = .ok (.iload_n 2, 1) := by decide +kernel
theorem dX6_whose_12 : decode cX6_whose 12 = .ok (.iconst 0, 1) := by decide +kernel
theorem dX6_whose_13 : decode cX6_whose 13 = .ok (.bipush 99, 2) := by decide +kernel
theorem dX6_whose_15 : decode cX6_whose 15 = .ok (.invokestatic 72, 3) := by decide +kernel
theorem dX6_whose_18 : decode cX6_whose 18 = .ok (.ifCond .ne 5, 3) := by decide +kernel
theorem dX6_whose_21 : decode cX6_whose 21 = .ok (.iconst (-1), 1) := by decide +kernel
theorem dX6_whose_22 : decode cX6_whose 22 = .ok (.ireturn, 1) := by decide +kernel
theorem dX6_whose_23 : decode cX6_whose 23 = .ok (.iconst 0, 1) := by decide +kernel
theorem dX6_whose_24 : decode cX6_whose 24 = .ok (.istore_n 3, 1) := by decide +kernel
theorem dX6_whose_25 : decode cX6_whose 25 = .ok (.iconst 0, 1) := by decide +kernel
theorem dX6_whose_26 : decode cX6_whose 26 = .ok (.istore 4, 2) := by decide +kernel
theorem dX6_whose_28 : decode cX6_whose 28 = .ok (.iload 4, 2) := by decide +kernel
theorem dX6_whose_30 : decode cX6_whose 30 = .ok (.aload_n 0, 1) := by decide +kernel
theorem dX6_whose_31 : decode cX6_whose 31 = .ok (.getfield 19, 3) := by decide +kernel
theorem dX6_whose_34 : decode cX6_whose 34 = .ok (.getfield 227, 3) := by decide +kernel
theorem dX6_whose_37 : decode cX6_whose 37 = .ok (.if_icmp .ge 35, 3) := by decide +kernel
theorem dX6_whose_40 : decode cX6_whose 40 = .ok (.aload_n 0, 1) := by decide +kernel
theorem dX6_whose_41 : decode cX6_whose 41 = .ok (.getfield 19, 3) := by decide +kernel
theorem dX6_whose_44 : decode cX6_whose 44 = .ok (.aload_n 0, 1) := by decide +kernel
theorem dX6_whose_45 : decode cX6_whose 45 = .ok (.getfield 26, 3) := by decide +kernel
theorem dX6_whose_48 : decode cX6_whose 48 = .ok (.iload 4, 2) := by decide +kernel
theorem dX6_whose_50 : decode cX6_whose 50 = .ok (.iload_n 1, 1) := by decide +kernel
theorem dX6_whose_51 : decode cX6_whose 51 = .ok (.iload_n 2, 1) := by decide +kernel
theorem dX6_whose_52 : decode cX6_whose 52 = .ok (.iconst 0, 1) := by decide +kernel
theorem dX6_whose_53 : decode cX6_whose 53 = .ok (.invokevirtual 230, 3) := by decide +kernel
theorem dX6_whose_56 : decode cX6_whose 56 = .ok (.ifCond .eq 10, 3) := by decide +kernel
theorem dX6_whose_59 : decode cX6_whose 59 = .ok (.iload_n 3, 1) := by decide +kernel
theorem dX6_whose_60 : decode cX6_whose 60 = .ok (.iconst 1, 1) := by decide +kernel
theorem dX6_whose_61 : decode cX6_whose 61 = .ok (.iload 4, 2) := by decide +kernel
theorem dX6_whose_63 : decode cX6_whose 63 = .ok (.ishl, 1) := by decide +kernel
theorem dX6_whose_64 : decode cX6_whose 64 = .ok (.ior, 1) := by decide +kernel
theorem dX6_whose_65 : decode cX6_whose 65 = .ok (.istore_n 3, 1) := by decide +kernel
theorem dX6_whose_66 : decode cX6_whose 66 = .ok (.iinc 4 1, 3) := by decide +kernel
theorem dX6_whose_69 : decode cX6_whose 69 = .ok (.goto (-41), 3) := by decide +kernel
theorem dX6_whose_72 : decode cX6_whose 72 = .ok (.iload_n 3, 1) := by decide +kernel
theorem dX6_whose_73 : decode cX6_whose 73 = .ok (.ireturn, 1) := by decide +kernel
theorem dX6_sure_0 : decode cX6_sure 0 = .ok (.aload_n 0, 1) := by decide +kernel
theorem dX6_sure_1 : decode cX6_sure 1 = .ok (.getfield 19, 3) := by decide +kernel
theorem dX6_sure_4 : decode cX6_sure 4 = .ok (.iload_n 1, 1) := by decide +kernel
theorem dX6_sure_5 : decode cX6_sure 5 = .ok (.invokevirtual 131, 3) := by decide +kernel
theorem dX6_sure_8 : decode cX6_sure 8 = .ok (.ifCond .eq 33, 3) := by decide +kernel
theorem dX6_sure_11 : decode cX6_sure 11 = .ok (.iload_n 2, 1) := by decide +kernel
theorem dX6_sure_12 : decode cX6_sure 12 = .ok (.iconst 0, 1) := by decide +kernel
theorem dX6_sure_13 : decode cX6_sure 13 = .ok (.bipush 8, 2) := by decide +kernel
theorem dX6_sure_15 : decode cX6_sure 15 = .ok (.invokestatic 72, 3) := by decide +kernel
theorem dX6_sure_18 : decode cX6_sure 18 = .ok (.ifCond .eq 23, 3) := by decide +kernel
theorem dX6_sure_21 : decode cX6_sure 21 = .ok (.iload_n 3, 1) := by decide +kernel
theorem dX6_sure_22 : decode cX6_sure 22 = .ok (.iconst 0, 1) := by decide +kernel
theorem dX6_sure_23 : decode cX6_sure 23 = .ok (.bipush 10, 2) := by decide +kernel
theorem dX6_sure_25 : decode cX6_sure 25 = .ok (.invokestatic 72, 3) := by decide +kernel
theorem dX6_sure_28 : decode cX6_sure 28 = .ok (.ifCond .eq 13, 3) := by decide +kernel
theorem dX6_sure_31 : decode cX6_sure 31 = .ok (.iload 4, 2) := by decide +kernel
theorem dX6_sure_33 : decode cX6_sure 33 = .ok (.iconst 0, 1) := by decide +kernel
theorem dX6_sure_34 : decode cX6_sure 34 = .ok (.iconst 1, 1) := by decide +kernel
theorem dX6_sure_35 : decode cX6_sure 35 = .ok (.invokestatic 72, 3) := by decide +kernel
theorem dX6_sure_38 : decode cX6_sure 38 = .ok (.ifCond .ne 5, 3) := by decide +kernel
theorem dX6_sure_41 : decode cX6_sure 41 = .ok (.iconst (-1), 1) := by decide +kernel
theorem dX6_sure_42 : decode cX6_sure 42 = .ok (.ireturn, 1) := by decide +kernel
theorem dX6_sure_43 : decode cX6_sure 43 = .ok (.aload_n 0, 1) := by decide +kernel
theorem dX6_sure_44 : decode cX6_sure 44 = .ok (.getfield 26, 3) := by decide +kernel
theorem dX6_sure_47 : decode cX6_sure 47 = .ok (.iload_n 1, 1) := by decide +kernel
theorem dX6_sure_48 : decode cX6_sure 48 = .ok (.invokevirtual 134, 3) := by decide +kernel
theorem dX6_sure_51 : decode cX6_sure 51 = .ok (.aload_n 0, 1) := by decide +kernel
theorem dX6_sure_52 : decode cX6_sure 52 = .ok (.getfield 19, 3) := by decide +kernel
theorem dX6_sure_55 : decode cX6_sure 55 = .ok (.getfield 234, 3) := by decide +kernel
theorem dX6_sure_58 : decode cX6_sure 58 = .ok (.if_icmp .gt 5, 3) := by decide +kernel
theorem dX6_sure_61 : decode cX6_sure 61 = .ok (.iconst 1, 1) := by decide +kernel
theorem dX6_sure_62 : decode cX6_sure 62 = .ok (.ireturn, 1) := by decide +kernel
theorem dX6_sure_63 : decode cX6_sure 63 = .ok (.bipush 10, 2) := by decide +kernel
theorem dX6_sure_65 : decode cX6_sure 65 = .ok (.iload_n 3, 1) := by decide +kernel
theorem dX6_sure_66 : decode cX6_sure 66 = .ok (.isub, 1) := by decide +kernel
theorem dX6_sure_67 : decode cX6_sure 67 = .ok (.invokestatic 237, 3) := by decide +kernel
theorem dX6_sure_70 : decode cX6_sure 70 = .ok (.istore 5, 2) := by decide +kernel
theorem dX6_sure_72 : decode cX6_sure 72 = .ok (.iload 4, 2) := by decide +kernel
theorem dX6_sure_74 : decode cX6_sure 74 = .ok (.ifCond .ne 10, 3) := by decide +kernel
theorem dX6_sure_77 : decode cX6_sure 77 = .ok (.bipush 10, 2) := by decide +kernel
theorem dX6_sure_79 : decode cX6_sure 79 = .ok (.iload_n 3, 1) := by decide +kernel
theorem dX6_sure_80 : decode cX6_sure 80 = .ok (.isub, 1) := by decide +kernel
theorem dX6_sure_81 : decode cX6_sure 81 = .ok (.goto 5, 3) := by decide +kernel
theorem dX6_sure_84 : decode cX6_sure 84 = .ok (.bipush 10, 2) := by decide +kernel
theorem dX6_sure_86 : decode cX6_sure 86 = .ok (.iload 5, 2) := by decide +kernel
theorem dX6_sure_88 : decode cX6_sure 88 = .ok (.idiv, 1) := by decide +kernel
theorem dX6_sure_89 : decode cX6_sure 89 = .ok (.istore 6, 2) := by decide +kernel
theorem dX6_sure_91 : decode cX6_sure 91 = .ok (.iconst 1, 1) := by decide +kernel
theorem dX6_sure_92 : decode cX6_sure 92 = .ok (.istore 7, 2) := by decide +kernel
theorem dX6_sure_94 : decode cX6_sure 94 = .ok (.iconst 0, 1) := by decide +kernel
theorem dX6_sure_95 : decode cX6_sure 95 = .ok (.istore 8, 2) := by decide +kernel
theorem dX6_sure_97 : decode cX6_sure 97 = .ok (.iload 8, 2) := by decide +kernel
theorem dX6_sure_99 : decode cX6_sure 99 = .ok (.iload_n 2, 1) := by decide +kernel
theorem dX6_sure_100 : decode cX6_sure 100 = .ok (.if_icmp .ge 16, 3) := by decide +kernel
theorem dX6_sure_103 : decode cX6_sure 103 = .ok (.iload 7, 2) := by decide +kernel
theorem dX6_sure_105 : decode cX6_sure 105 = .ok (.iload 6, 2) := by decide +kernel
theorem dX6_sure_107 : decode cX6_sure 107 = .ok (.imul, 1) := by decide +kernel
theorem dX6_sure_108 : decode cX6_sure 108 = .ok (.istore 7, 2) := by decide +kernel
theorem dX6_sure_110 : decode cX6_sure 110 = .ok (.iinc 8 1, 3) := by decide +kernel
theorem dX6_sure_113 : decode cX6_sure 113 = .ok (.goto (-16), 3) := by decide +kernel
theorem dX6_sure_116 : decode cX6_sure 116 = .ok (.iload 7, 2) := by decide +kernel
theorem dX6_sure_118 : decode cX6_sure 118 = .ok (.ireturn, 1) := by decide +kernel
theorem dX6_waste_0 : decode cX6_waste 0 = .ok (.iconst 0, 1) := by decide +kernel
theorem dX6_waste_1 : decode cX6_waste 1 = .ok (.istore_n 1, 1) := by decide +kernel
theorem dX6_waste_2 : decode cX6_waste 2 = .ok (.iconst 0, 1) := by decide +kernel
theorem dX6_waste_3 : decode cX6_waste 3 = .ok (.istore_n 2, 1) := by decide +kernel
theorem dX6_waste_4 : decode cX6_waste 4 = .ok (.iload_n 2, 1) := by decide +kernel
theorem dX6_waste_5 : decode cX6_waste 5 = .ok (.aload_n 0, 1) := by decide +kernel
theorem dX6_waste_6 : decode cX6_waste 6 = .ok (.getfield 19, 3) := by decide +kernel
theorem dX6_waste_9 : decode cX6_waste 9 = .ok (.getfield 94, 3) := by decide +kernel
theorem dX6_waste_12 : decode cX6_waste 12 = .ok (.if_icmp .ge 46, 3) := by decide +kernel
theorem dX6_waste_15 : decode cX6_waste 15 = .ok (.aload_n 0, 1) := by decide +kernel
theorem dX6_waste_16 : decode cX6_waste 16 = .ok (.getfield 26, 3) := by decide +kernel
theorem dX6_waste_19 : decode cX6_waste 19 = .ok (.iload_n 2, 1) := by decide +kernel
theorem dX6_waste_20 : decode cX6_waste 20 = .ok (.invokevirtual 128, 3) := by decide +kernel
theorem dX6_waste_23 : decode cX6_waste 23 = .ok (.ifCond .ne 29, 3) := by decide +kernel
theorem dX6_waste_26 : decode cX6_waste 26 = .ok (.aload_n 0, 1) := by decide +kernel
theorem dX6_waste_27 : decode cX6_waste 27 = .ok (.getfield 19, 3) := by decide +kernel
theorem dX6_waste_30 : decode cX6_waste 30 = .ok (.aload_n 0, 1) := by decide +kernel
theorem dX6_waste_31 : decode cX6_waste 31 = .ok (.getfield 26, 3) := by decide +kernel
theorem dX6_waste_34 : decode cX6_waste 34 = .ok (.iload_n 2, 1) := by decide +kernel
theorem dX6_waste_35 : decode cX6_waste 35 = .ok (.invokevirtual 240, 3) := by decide +kernel
theorem dX6_waste_38 : decode cX6_waste 38 = .ok (.ifCond .eq 14, 3) := by decide +kernel
theorem dX6_waste_41 : decode cX6_waste 41 = .ok (.iload_n 1, 1) := by decide +kernel
theorem dX6_waste_42 : decode cX6_waste 42 = .ok (.aload_n 0, 1) := by decide +kernel
theorem dX6_waste_43 : decode cX6_waste 43 = .ok (.getfield 19, 3) := by decide +kernel
theorem dX6_waste_46 : decode cX6_waste 46 = .ok (.iload_n 2, 1) := by decide +kernel
theorem dX6_waste_47 : decode cX6_waste 47 = .ok (.invokevirtual 108, 3) := by decide +kernel
theorem dX6_waste_50 : decode cX6_waste 50 = .ok (.iadd, 1) := by decide +kernel
theorem dX6_waste_51 : decode cX6_waste 51 = .ok (.istore_n 1, 1) := by decide +kernel
theorem dX6_waste_52 : decode cX6_waste 52 = .ok (.iinc 2 1, 3) := by decide +kernel
theorem dX6_waste_55 : decode cX6_waste 55 = .ok (.goto (-51), 3) := by decide +kernel
theorem dX6_waste_58 : decode cX6_waste 58 = .ok (.iload_n 1, 1) := by decide +kernel
theorem dX6_waste_59 : decode cX6_waste 59 = .ok (.ireturn, 1) := by decide +kernel
theorem dX6_needs_0 : decode cX6_needs 0 = .ok (.iconst 0, 1) := by decide +kernel
theorem dX6_needs_1 : decode cX6_needs 1 = .ok (.istore_n 1, 1) := by decide +kernel
theorem dX6_needs_2 : decode cX6_needs 2 = .ok (.iconst 0, 1) := by decide +kernel
theorem dX6_needs_3 : decode cX6_needs 3 = .ok (.istore_n 2, 1) := by decide +kernel
theorem dX6_needs_4 : decode cX6_needs 4 = .ok (.iload_n 2, 1) := by decide +kernel
theorem dX6_needs_5 : decode cX6_needs 5 = .ok (.aload_n 0, 1) := by decide +kernel
theorem dX6_needs_6 : decode cX6_needs 6 = .ok (.getfield 19, 3) := by decide +kernel
theorem dX6_needs_9 : decode cX6_needs 9 = .ok (.getfield 227, 3) := by decide +kernel
theorem dX6_needs_12 : decode cX6_needs 12 = .ok (.if_icmp .ge 33, 3) := by decide +kernel
theorem dX6_needs_15 : decode cX6_needs 15 = .ok (.iload_n 1, 1) := by decide +kernel
theorem dX6_needs_16 : decode cX6_needs 16 = .ok (.iconst 0, 1) := by decide +kernel
theorem dX6_needs_17 : decode cX6_needs 17 = .ok (.aload_n 0, 1) := by decide +kernel
theorem dX6_needs_18 : decode cX6_needs 18 = .ok (.getfield 19, 3) := by decide +kernel
theorem dX6_needs_21 : decode cX6_needs 21 = .ok (.iload_n 2, 1) := by decide +kernel
theorem dX6_needs_22 : decode cX6_needs 22 = .ok (.invokevirtual 140, 3) := by decide +kernel
theorem dX6_needs_25 : decode cX6_needs 25 = .ok (.aload_n 0, 1) := by decide +kernel
theorem dX6_needs_26 : decode cX6_needs 26 = .ok (.getfield 26, 3) := by decide +kernel
theorem dX6_needs_29 : decode cX6_needs 29 = .ok (.iload_n 2, 1) := by decide +kernel
theorem dX6_needs_30 : decode cX6_needs 30 = .ok (.invokevirtual 143, 3) := by decide +kernel
theorem dX6_needs_33 : decode cX6_needs 33 = .ok (.isub, 1) := by decide +kernel
theorem dX6_needs_34 : decode cX6_needs 34 = .ok (.invokestatic 243, 3) := by decide +kernel
theorem dX6_needs_37 : decode cX6_needs 37 = .ok (.iadd, 1) := by decide +kernel
theorem dX6_needs_38 : decode cX6_needs 38 = .ok (.istore_n 1, 1) := by decide +kernel
theorem dX6_needs_39 : decode cX6_needs 39 = .ok (.iinc 2 1, 3) := by decide +kernel
theorem dX6_needs_42 : decode cX6_needs 42 = .ok (.goto (-38), 3) := by decide +kernel
theorem dX6_needs_45 : decode cX6_needs 45 = .ok (.iload_n 1, 1) := by decide +kernel
theorem dX6_needs_46 : decode cX6_needs 46 = .ok (.ireturn, 1) := by decide +kernel
theorem dX6_storm_0 : decode cX6_storm 0 = .ok (.iload_n 1, 1) := by decide +kernel
theorem dX6_storm_1 : decode cX6_storm 1 = .ok (.iconst 0, 1) := by decide +kernel
theorem dX6_storm_2 : decode cX6_storm 2 = .ok (.sipush 9999, 3) := by decide +kernel
theorem dX6_storm_5 : decode cX6_storm 5 = .ok (.invokestatic 72, 3) := by decide +kernel
theorem dX6_storm_8 : decode cX6_storm 8 = .ok (.ifCond .eq 22, 3) := by decide +kernel
theorem dX6_storm_11 : decode cX6_storm 11 = .ok (.iload_n 2, 1) := by decide +kernel
theorem dX6_storm_12 : decode cX6_storm 12 = .ok (.iconst 1, 1) := by decide +kernel
theorem dX6_storm_13 : decode cX6_storm 13 = .ok (.bipush 30, 2) := by decide +kernel
theorem dX6_storm_15 : decode cX6_storm 15 = .ok (.invokestatic 72, 3) := by decide +kernel
theorem dX6_storm_18 : decode cX6_storm 18 = .ok (.ifCond .eq 12, 3) := by decide +kernel
theorem dX6_storm_21 : decode cX6_storm 21 = .ok (.iload_n 3, 1) := by decide +kernel
theorem dX6_storm_22 : decode cX6_storm 22 = .ok (.iconst 0, 1) := by decide +kernel
theorem dX6_storm_23 : decode cX6_storm 23 = .ok (.iconst 1, 1) := by decide +kernel
theorem dX6_storm_24 : decode cX6_storm 24 = .ok (.invokestatic 72, 3) := by decide +kernel
theorem dX6_storm_27 : decode cX6_storm 27 = .ok (.ifCond .ne 5, 3) := by decide +kernel
theorem dX6_storm_30 : decode cX6_storm 30 = .ok (.iconst (-1), 1) := by decide +kernel
theorem dX6_storm_31 : decode cX6_storm 31 = .ok (.ireturn, 1) := by decide +kernel
theorem dX6_storm_32 : decode cX6_storm 32 = .ok (.aload_n 0, 1) := by decide +kernel
theorem dX6_storm_33 : decode cX6_storm 33 = .ok (.getfield 26, 3) := by decide +kernel
theorem dX6_storm_36 : decode cX6_storm 36 = .ok (.getfield 114, 3) := by decide +kernel
theorem dX6_storm_39 : decode cX6_storm 39 = .ok (.iload_n 2, 1) := by decide +kernel
theorem dX6_storm_40 : decode cX6_storm 40 = .ok (.iadd, 1) := by decide +kernel
theorem dX6_storm_41 : decode cX6_storm 41 = .ok (.iconst 1, 1) := by decide +kernel
theorem dX6_storm_42 : decode cX6_storm 42 = .ok (.isub, 1) := by decide +kernel
theorem dX6_storm_43 : decode cX6_storm 43 = .ok (.bipush 99, 2) := by decide +kernel
theorem dX6_storm_45 : decode cX6_storm 45 = .ok (.if_icmp .le 6, 3) := by decide +kernel
theorem dX6_storm_48 : decode cX6_storm 48 = .ok (.bipush (-2), 2) := by decide +kernel
theorem dX6_storm_50 : decode cX6_storm 50 = .ok (.ireturn, 1) := by decide +kernel
theorem dX6_storm_51 : decode cX6_storm 51 = .ok (.aload_n 0, 1) := by decide +kernel
theorem dX6_storm_52 : decode cX6_storm 52 = .ok (.getfield 47, 3) := by decide +kernel
theorem dX6_storm_55 : decode cX6_storm 55 = .ok (.aload_n 0, 1) := by decide +kernel
theorem dX6_storm_56 : decode cX6_storm 56 = .ok (.getfield 26, 3) := by decide +kernel
theorem dX6_storm_59 : decode cX6_storm 59 = .ok (.invokevirtual 185, 3) := by decide +kernel
theorem dX6_storm_62 : decode cX6_storm 62 = .ok (.aload_n 0, 1) := by decide +kernel
theorem dX6_storm_63 : decode cX6_storm 63 = .ok (.getfield 47, 3) := by decide +kernel
theorem dX6_storm_66 : decode cX6_storm 66 = .ok (.iload_n 1, 1) := by decide +kernel
theorem dX6_storm_67 : decode cX6_storm 67 = .ok (.iload_n 2, 1) := by decide +kernel
theorem dX6_storm_68 : decode cX6_storm 68 = .ok (.invokevirtual 249, 3) := by decide +kernel
theorem dX6_storm_71 : decode cX6_storm 71 = .ok (.iload_n 3, 1) := by decide +kernel
theorem dX6_storm_72 : decode cX6_storm 72 = .ok (.ifCond .ne 18, 3) := by decide +kernel
theorem dX6_storm_75 : decode cX6_storm 75 = .ok (.aload_n 0, 1) := by decide +kernel
theorem dX6_storm_76 : decode cX6_storm 76 = .ok (.getfield 19, 3) := by decide +kernel
theorem dX6_storm_79 : decode cX6_storm 79 = .ok (.aload_n 0, 1) := by decide +kernel
theorem dX6_storm_80 : decode cX6_storm 80 = .ok (.getfield 47, 3) := by decide +kernel
theorem dX6_storm_83 : decode cX6_storm 83 = .ok (.getfield 191, 3) := by decide +kernel
theorem dX6_storm_86 : decode cX6_storm 86 = .ok (.invokevirtual 194, 3) := by decide +kernel
theorem dX6_storm_89 : decode cX6_storm 89 = .ok (.ireturn, 1) := by decide +kernel
theorem dX6_storm_90 : decode cX6_storm 90 = .ok (.aload_n 0, 1) := by decide +kernel
theorem dX6_storm_91 : decode cX6_storm 91 = .ok (.getfield 19, 3) := by decide +kernel
theorem dX6_storm_94 : decode cX6_storm 94 = .ok (.aload_n 0, 1) := by decide +kernel
theorem dX6_storm_95 : decode cX6_storm 95 = .ok (.getfield 47, 3) := by decide +kernel
theorem dX6_storm_98 : decode cX6_storm 98 = .ok (.getfield 191, 3) := by decide +kernel
theorem dX6_storm_101 : decode cX6_storm 101 = .ok (.getfield 221, 3) := by decide +kernel
theorem dX6_storm_104 : decode cX6_storm 104 = .ok (.aload_n 0, 1) := by decide +kernel
theorem dX6_storm_105 : decode cX6_storm 105 = .ok (.getfield 26, 3) := by decide +kernel
theorem dX6_storm_108 : decode cX6_storm 108 = .ok (.getfield 221, 3) := by decide +kernel
theorem dX6_storm_111 : decode cX6_storm 111 = .ok (.iconst (-1), 1) := by decide +kernel
theorem dX6_storm_112 : decode cX6_storm 112 = .ok (.ixor, 1) := by decide +kernel
theorem dX6_storm_113 : decode cX6_storm 113 = .ok (.iand, 1) := by decide +kernel
theorem dX6_storm_114 : decode cX6_storm 114 = .ok (.invokevirtual 224, 3) := by decide +kernel
theorem dX6_storm_117 : decode cX6_storm 117 = .ok (.ireturn, 1) := by decide +kernel
theorem dX6_keep_0 : decode cX6_keep 0 = .ok (.aload_n 0, 1) := by decide +kernel
theorem dX6_keep_1 : decode cX6_keep 1 = .ok (.getfield 39, 3) := by decide +kernel
theorem dX6_keep_4 : decode cX6_keep 4 = .ok (.invokevirtual 252, 3) := by decide +kernel
theorem dX6_keep_7 : decode cX6_keep 7 = .ok (.ifCond .eq 6, 3) := by decide +kernel
theorem dX6_keep_10 : decode cX6_keep 10 = .ok (.bipush (-3), 2) := by decide +kernel
theorem dX6_keep_12 : decode cX6_keep 12 = .ok (.ireturn, 1) := by decide +kernel
theorem dX6_keep_13 : decode cX6_keep 13 = .ok (.aload_n 0, 1) := by decide +kernel
theorem dX6_keep_14 : decode cX6_keep 14 = .ok (.getfield 39, 3) := by decide +kernel
theorem dX6_keep_17 : decode cX6_keep 17 = .ok (.aload_n 0, 1) := by decide +kernel
theorem dX6_keep_18 : decode cX6_keep 18 = .ok (.getfield 26, 3) := by decide +kernel
theorem dX6_keep_21 : decode cX6_keep 21 = .ok (.invokevirtual 159, 3) := by decide +kernel
theorem dX6_keep_24 : decode cX6_keep 24 = .ok (.aload_n 0, 1) := by decide +kernel
theorem dX6_keep_25 : decode cX6_keep 25 = .ok (.getfield 39, 3) := by decide +kernel
theorem dX6_keep_28 : decode cX6_keep 28 = .ok (.getfield 179, 3) := by decide +kernel
theorem dX6_keep_31 : decode cX6_keep 31 = .ok (.ireturn, 1) := by decide +kernel
theorem dX6_back_0 : decode cX6_back 0 = .ok (.aload_n 0, 1) := by decide +kernel
theorem dX6_back_1 : decode cX6_back 1 = .ok (.getfield 39, 3) := by decide +kernel
theorem dX6_back_4 : decode cX6_back 4 = .ok (.getfield 179, 3) := by decide +kernel
theorem dX6_back_7 : decode cX6_back 7 = .ok (.ifCond .ne 6, 3) := by decide +kernel
theorem dX6_back_10 : decode cX6_back 10 = .ok (.bipush (-2), 2) := by decide +kernel
theorem dX6_back_12 : decode cX6_back 12 = .ok (.ireturn, 1) := by decide +kernel
theorem dX6_back_13 : decode cX6_back 13 = .ok (.aload_n 0, 1) := by decide +kernel
theorem dX6_back_14 : decode cX6_back 14 = .ok (.getfield 39, 3) := by decide +kernel
theorem dX6_back_17 : decode cX6_back 17 = .ok (.aload_n 0, 1) := by decide +kernel
theorem dX6_back_18 : decode cX6_back 18 = .ok (.getfield 26, 3) := by decide +kernel
theorem dX6_back_21 : decode cX6_back 21 = .ok (.invokevirtual 182, 3) := by decide +kernel
theorem dX6_back_24 : decode cX6_back 24 = .ok (.aload_n 0, 1) := by decide +kernel
theorem dX6_back_25 : decode cX6_back 25 = .ok (.getfield 35, 3) := by decide +kernel
theorem dX6_back_28 : decode cX6_back 28 = .ok (.invokevirtual 91, 3) := by decide +kernel
theorem dX6_back_31 : decode cX6_back 31 = .ok (.aload_n 0, 1) := by decide +kernel
theorem dX6_back_32 : decode cX6_back 32 = .ok (.getfield 39, 3) := by decide +kernel
theorem dX6_back_35 : decode cX6_back 35 = .ok (.getfield 179, 3) := by decide +kernel
theorem dX6_back_38 : decode cX6_back 38 = .ok (.ireturn, 1) := by decide +kernel
theorem dX6_count_0 : decode cX6_count 0 = .ok (.iload_n 1, 1) := by decide +kernel
theorem dX6_count_1 : decode cX6_count 1 = .ok (.tableswitch 138 0 9 #[55, 63, 71, 79, 87, 95, 103, 114, 122, 130], 55) := by decide +kernel
theorem dX6_count_56 : decode cX6_count 56 = .ok (.aload_n 0, 1) := by decide +kernel
theorem dX6_count_57 : decode cX6_count 57 = .ok (.getfield 19, 3) := by decide +kernel
theorem dX6_count_60 : decode cX6_count 60 = .ok (.getfield 94, 3) := by decide +kernel
theorem dX6_count_63 : decode cX6_count 63 = .ok (.ireturn, 1) := by decide +kernel
theorem dX6_count_64 : decode cX6_count 64 = .ok (.aload_n 0, 1) := by decide +kernel
theorem dX6_count_65 : decode cX6_count 65 = .ok (.getfield 19, 3) := by decide +kernel
theorem dX6_count_68 : decode cX6_count 68 = .ok (.getfield 227, 3) := by decide +kernel
theorem dX6_count_71 : decode cX6_count 71 = .ok (.ireturn, 1) := by decide +kernel
theorem dX6_count_72 : decode cX6_count 72 = .ok (.aload_n 0, 1) := by decide +kernel
theorem dX6_count_73 : decode cX6_count 73 = .ok (.getfield 26, 3) := by decide +kernel
theorem dX6_count_76 : decode cX6_count 76 = .ok (.getfield 114, 3) := by decide +kernel
theorem dX6_count_79 : decode cX6_count 79 = .ok (.ireturn, 1) := by decide +kernel
theorem dX6_count_80 : decode cX6_count 80 = .ok (.aload_n 0, 1) := by decide +kernel
theorem dX6_count_81 : decode cX6_count 81 = .ok (.getfield 19, 3) := by decide +kernel
theorem dX6_count_84 : decode cX6_count 84 = .ok (.getfield 234, 3) := by decide +kernel
theorem dX6_count_87 : decode cX6_count 87 = .ok (.ireturn, 1) := by decide +kernel
theorem dX6_count_88 : decode cX6_count 88 = .ok (.aload_n 0, 1) := by decide +kernel
theorem dX6_count_89 : decode cX6_count 89 = .ok (.getfield 19, 3) := by decide +kernel
theorem dX6_count_92 : decode cX6_count 92 = .ok (.getfield 253, 3) := by decide +kernel
theorem dX6_count_95 : decode cX6_count 95 = .ok (.ireturn, 1) := by decide +kernel
theorem dX6_count_96 : decode cX6_count 96 = .ok (.aload_n 0, 1) := by decide +kernel
theorem dX6_count_97 : decode cX6_count 97 = .ok (.getfield 19, 3) := by decide +kernel
theorem dX6_count_100 : decode cX6_count 100 = .ok (.getfield 256, 3) := by decide +kernel
theorem dX6_count_103 : decode cX6_count 103 = .ok (.ireturn, 1) := by decide +kernel
theorem dX6_count_104 : decode cX6_count 104 = .ok (.aload_n 0, 1) := by decide +kernel
theorem dX6_count_105 : decode cX6_count 105 = .ok (.getfield 26, 3) := by decide +kernel
theorem dX6_count_108 : decode cX6_count 108 = .ok (.getfield 221, 3) := by decide +kernel
theorem dX6_count_111 : decode cX6_count 111 = .ok (.invokestatic 259, 3) := by decide +kernel
theorem dX6_count_114 : decode cX6_count 114 = .ok (.ireturn, 1) := by decide +kernel
theorem dX6_count_115 : decode cX6_count 115 = .ok (.aload_n 0, 1) := by decide +kernel
theorem dX6_count_116 : decode cX6_count 116 = .ok (.getfield 35, 3) := by decide +kernel
theorem dX6_count_119 : decode cX6_count 119 = .ok (.getfield 179, 3) := by decide +kernel
theorem dX6_count_122 : decode cX6_count 122 = .ok (.ireturn, 1) := by decide +kernel
theorem dX6_count_123 : decode cX6_count 123 = .ok (.aload_n 0, 1) := by decide +kernel
theorem dX6_count_124 : decode cX6_count 124 = .ok (.getfield 39, 3) := by decide +kernel
theorem dX6_count_127 : decode cX6_count 127 = .ok (.getfield 179, 3) := by decide +kernel
theorem dX6_count_130 : decode cX6_count 130 = .ok (.ireturn, 1) := by decide +kernel
theorem dX6_count_131 : decode cX6_count 131 = .ok (.aload_n 0, 1) := by decide +kernel
theorem dX6_count_132 : decode cX6_count 132 = .ok (.getfield 10, 3) := by decide +kernel
theorem dX6_count_135 : decode cX6_count 135 = .ok (.getfield 68, 3) := by decide +kernel
theorem dX6_count_138 : decode cX6_count 138 = .ok (.ireturn, 1) := by decide +kernel
theorem dX6_count_139 : decode cX6_count 139 = .ok (.iconst (-1), 1) := by decide +kernel
theorem dX6_count_140 : decode cX6_count 140 = .ok (.ireturn, 1) := by decide +kernel
theorem dX6_isWithin_0 : decode cX6_isWithin 0 = .ok (.iload_n 0, 1) := by decide +kernel
theorem dX6_isWithin_1 : decode cX6_isWithin 1 = .ok (.iload_n 1, 1) := by decide +kernel
theorem dX6_isWithin_2 : decode cX6_isWithin 2 = .ok (.if_icmp .lt 12, 3) := by decide +kernel
theorem dX6_isWithin_5 : decode cX6_isWithin 5 = .ok (.iload_n 0, 1) := by decide +kernel
theorem dX6_isWithin_6 : decode cX6_isWithin 6 = .ok (.iload_n 2, 1) := by decide +kernel
theorem dX6_isWithin_7 : decode cX6_isWithin 7 = .ok (.if_icmp .gt 7, 3) := by decide +kernel
theorem dX6_isWithin_10 : decode cX6_isWithin 10 = .ok (.iconst 1, 1) := by decide +kernel
theorem dX6_isWithin_11 : decode cX6_isWithin 11 = .ok (.goto 4, 3) := by decide +kernel
theorem dX6_isWithin_14 : decode cX6_isWithin 14 = .ok (.iconst 0, 1) := by decide +kernel
theorem dX6_isWithin_15 : decode cX6_isWithin 15 = .ok (.ireturn, 1) := by decide +kernel
theorem dX6_bit_0 : decode cX6_bit 0 = .ok (.iload_n 0, 1) := by decide +kernel
theorem dX6_bit_1 : decode cX6_bit 1 = .ok (.ifCond .eq 7, 3) := by decide +kernel
theorem dX6_bit_4 : decode cX6_bit 4 = .ok (.iconst 1, 1) := by decide +kernel
theorem dX6_bit_5 : decode cX6_bit 5 = .ok (.goto 4, 3) := by decide +kernel
theorem dX6_bit_8 : decode cX6_bit 8 = .ok (.iconst 0, 1) := by decide +kernel
theorem dX6_bit_9 : decode cX6_bit 9 = .ok (.ireturn, 1) := by decide +kernel
theorem dX6_commonWithTen_0 : decode cX6_commonWithTen 0 = .ok (.bipush 10, 2) := by decide +kernel
theorem dX6_commonWithTen_2 : decode cX6_commonWithTen 2 = .ok (.istore_n 1, 1) := by decide +kernel
theorem dX6_commonWithTen_3 : decode cX6_commonWithTen 3 = .ok (.iload_n 1, 1) := by decide +kernel
theorem dX6_commonWithTen_4 : decode cX6_commonWithTen 4 = .ok (.iconst 1, 1) := by decide +kernel
theorem dX6_commonWithTen_5 : decode cX6_commonWithTen 5 = .ok (.if_icmp .le 24, 3) := by decide +kernel
theorem dX6_commonWithTen_8 : decode cX6_commonWithTen 8 = .ok (.bipush 10, 2) := by decide +kernel
theorem dX6_commonWithTen_10 : decode cX6_commonWithTen 10 = .ok (.iload_n 1, 1) := by decide +kernel
theorem dX6_commonWithTen_11 : decode cX6_commonWithTen 11 = .ok (.irem, 1) := by decide +kernel
theorem dX6_commonWithTen_12 : decode cX6_commonWithTen 12 = .ok (.ifCond .ne 11, 3) := by decide +kernel
theorem dX6_commonWithTen_15 : decode cX6_commonWithTen 15 = .ok (.iload_n 0, 1) := by decide +kernel
theorem dX6_commonWithTen_16 : decode cX6_commonWithTen 16 = .ok (.iload_n 1, 1) := by decide +kernel
theorem dX6_commonWithTen_17 : decode cX6_commonWithTen 17 = .ok (.irem, 1) := by decide +kernel
theorem dX6_commonWithTen_18 : decode cX6_commonWithTen 18 = .ok (.ifCond .ne 5, 3) := by decide +kernel
theorem dX6_commonWithTen_21 : decode cX6_commonWithTen 21 = .ok (.iload_n 1, 1) := by decide +kernel
theorem dX6_commonWithTen_22 : decode cX6_commonWithTen 22 = .ok (.ireturn, 1) := by decide +kernel
theorem dX6_commonWithTen_23 : decode cX6_commonWithTen 23 = .ok (.iinc 1 (-1), 3) := by decide +kernel
theorem dX6_commonWithTen_26 : decode cX6_commonWithTen 26 = .ok (.goto (-23), 3) := by decide +kernel
theorem dX6_commonWithTen_29 : decode cX6_commonWithTen 29 = .ok (.iconst 1, 1) := by decide +kernel
theorem dX6_commonWithTen_30 : decode cX6_commonWithTen 30 = .ok (.ireturn, 1) := by decide +kernel
theorem dX7_init_0 : decode cX7_init 0 = .ok (.aload_n 0, 1) := by decide +kernel
theorem dX7_init_1 : decode cX7_init 1 = .ok (.invokespecial 1, 3) := by decide +kernel
theorem dX7_init_4 : decode cX7_init 4 = .ok (.aload_n 0, 1) := by decide +kernel
theorem dX7_init_5 : decode cX7_init 5 = .ok (.sipush 200, 3) := by decide +kernel
theorem dX7_init_8 : decode cX7_init 8 = .ok (.newarray .int, 2) := by decide +kernel
theorem dX7_init_10 : decode cX7_init 10 = .ok (.putfield 7, 3) := by decide +kernel
theorem dX7_init_13 : decode cX7_init 13 = .ok (.aload_n 0, 1) := by decide +kernel
theorem dX7_init_14 : decode cX7_init 14 = .ok (.bipush 37, 2) := by decide +kernel
theorem dX7_init_16 : decode cX7_init 16 = .ok (.newarray .int, 2) := by decide +kernel
theorem dX7_init_18 : decode cX7_init 18 = .ok (.putfield 13, 3) := by decide +kernel
theorem dX7_init_21 : decode cX7_init 21 = .ok (.aload_n 0, 1) := by decide +kernel
theorem dX7_init_22 : decode cX7_init 22 = .ok (.bipush 37, 2) := by decide +kernel
theorem dX7_init_24 : decode cX7_init 24 = .ok (.newarray .int, 2) := by decide +kernel
theorem dX7_init_26 : decode cX7_init 26 = .ok (.putfield 16, 3) := by decide +kernel
theorem dX7_init_29 : decode cX7_init 29 = .ok (.aload_n 0, 1) := by decide +kernel
theorem dX7_init_30 : decode cX7_init 30 = .ok (.bipush 29, 2) := by decide +kernel
theorem dX7_init_32 : decode cX7_init 32 = .ok (.newarray .int, 2) := by decide +kernel
theorem dX7_init_34 : decode cX7_init 34 = .ok (.putfield 19, 3) := by decide +kernel
theorem dX7_init_37 : decode cX7_init 37 = .ok (.aload_n 0, 1) := by decide +kernel
theorem dX7_init_38 : decode cX7_init 38 = .ok (.bipush 29, 2) := by decide +kernel
theorem dX7_init_40 : decode cX7_init 40 = .ok (.newarray .int, 2) := by decide +kernel
theorem dX7_init_42 : decode cX7_init 42 = .ok (.putfield 22, 3) := by decide +kernel
theorem dX7_init_45 : decode cX7_init 45 = .ok (.aload_n 0, 1) := by decide +kernel
theorem dX7_init_46 : decode cX7_init 46 = .ok (.sipush 232, 3) := by decide +kernel
theorem dX7_init_49 : decode cX7_init 49 = .ok (.newarray .int, 2) := by decide +kernel
theorem dX7_init_51 : decode cX7_init 51 = .ok (.putfield 25, 3) := by decide +kernel
theorem dX7_init_54 : decode cX7_init 54 = .ok (.aload_n 0, 1) := by decide +kernel
theorem dX7_init_55 : decode cX7_init 55 = .ok (.bipush 58, 2) := by decide +kernel
theorem dX7_init_57 : decode cX7_init 57 = .ok (.newarray .int, 2) := by decide +kernel
theorem dX7_init_59 : decode cX7_init 59 = .ok (.putfield 28, 3) := by decide +kernel
theorem dX7_init_62 : decode cX7_init 62 = .ok (.aload_n 0, 1) := by decide +kernel
theorem dX7_init_63 : decode cX7_init 63 = .ok (.bipush 29, 2) := by decide +kernel
theorem dX7_init_65 : decode cX7_init 65 = .ok (.newarray .int, 2) := by decide +kernel
theorem dX7_init_67 : decode cX7_init 67 = .ok (.putfield 31, 3) := by decide +kernel
theorem dX7_init_70 : decode cX7_init 70 = .ok (.aload_n 0, 1) := by decide +kernel
theorem dX7_init_71 : decode cX7_init 71 = .ok (.iconst 4, 1) := by decide +kernel
theorem dX7_init_72 : decode cX7_init 72 = .ok (.newarray .int, 2) := by decide +kernel
theorem dX7_init_74 : decode cX7_init 74 = .ok (.putfield 34, 3) := by decide +kernel
theorem dX7_init_77 : decode cX7_init 77 = .ok (.aload_n 0, 1) := by decide +kernel
theorem dX7_init_78 : decode cX7_init 78 = .ok (.bipush 8, 2) := by decide +kernel
theorem dX7_init_80 : decode cX7_init 80 = .ok (.newarray .int, 2) := by decide +kernel
theorem dX7_init_82 : decode cX7_init 82 = .ok (.putfield 37, 3) := by decide +kernel
theorem dX7_init_85 : decode cX7_init 85 = .ok (.aload_n 0, 1) := by decide +kernel
theorem dX7_init_86 : decode cX7_init 86 = .ok (.invokevirtual 40, 3) := by decide +kernel
theorem dX7_init_89 : decode cX7_init 89 = .ok (.aload_n 0, 1) := by decide +kernel
theorem dX7_init_90 : decode cX7_init 90 = .ok (.iconst 0, 1) := by decide +kernel
theorem dX7_init_91 : decode cX7_init 91 = .ok (.bipush 6, 2) := by decide +kernel
theorem dX7_init_93 : decode cX7_init 93 = .ok (.iconst 4, 1) := by decide +kernel
theorem dX7_init_94 : decode cX7_init 94 = .ok (.iconst 0, 1) := by decide +kernel
theorem dX7_init_95 : decode cX7_init 95 = .ok (.invokevirtual 43, 3) := by decide +kernel
theorem dX7_init_98 : decode cX7_init 98 = .ok (.aload_n 0, 1) := by decide +kernel
theorem dX7_init_99 : decode cX7_init 99 = .ok (.iconst 0, 1) := by decide +kernel
theorem dX7_init_100 : decode cX7_init 100 = .ok (.bipush 9, 2) := by decide +kernel
theorem dX7_init_102 : decode cX7_init 102 = .ok (.bipush 7, 2) := by decide +kernel
theorem dX7_init_104 : decode cX7_init 104 = .ok (.iconst 2, 1) := by decide +kernel
theorem dX7_init_105 : decode cX7_init 105 = .ok (.invokevirtual 43, 3) := by decide +kernel
theorem dX7_init_108 : decode cX7_init 108 = .ok (.aload_n 0, 1) := by decide +kernel
theorem dX7_init_109 : decode cX7_init 109 = .ok (.iconst 1, 1) := by decide +kernel
theorem dX7_init_110 : decode cX7_init 110 = .ok (.iconst 5, 1) := by decide +kernel
theorem dX7_init_111 : decode cX7_init 111 = .ok (.bipush 9, 2) := by decide +kernel
theorem dX7_init_113 : decode cX7_init 113 = .ok (.iconst 0, 1) := by decide +kernel
theorem dX7_init_114 : decode cX7_init 114 = .ok (.invokevirtual 43, 3) := by decide +kernel
theorem dX7_init_117 : decode cX7_init 117 = .ok (.aload_n 0, 1) := by decide +kernel
theorem dX7_init_118 : decode cX7_init 118 = .ok (.iconst 2, 1) := by decide +kernel
theorem dX7_init_119 : decode cX7_init 119 = .ok (.iconst 4, 1) := by decide +kernel
theorem dX7_init_120 : decode cX7_init 120 = .ok (.iconst 5, 1) := by decide +kernel
theorem dX7_init_121 : decode cX7_init 121 = .ok (.iconst 1, 1) := by decide +kernel
theorem dX7_init_122 : decode cX7_init 122 = .ok (.invokevirtual 43, 3) := by decide +kernel
theorem dX7_init_125 : decode cX7_init 125 = .ok (.aload_n 0, 1) := by decide +kernel
theorem dX7_init_126 : decode cX7_init 126 = .ok (.iconst 3, 1) := by decide +kernel
theorem dX7_init_127 : decode cX7_init 127 = .ok (.bipush 15, 2) := by decide +kernel
theorem dX7_init_129 : decode cX7_init 129 = .ok (.iconst 3, 1) := by decide +kernel
theorem dX7_init_130 : decode cX7_init 130 = .ok (.iconst 4, 1) := by decide +kernel
theorem dX7_init_131 : decode cX7_init 131 = .ok (.invokevirtual 43, 3) := by decide +kernel
theorem dX7_init_134 : decode cX7_init 134 = .ok (.aload_n 0, 1) := by decide +kernel
theorem dX7_init_135 : decode cX7_init 135 = .ok (.iconst 0, 1) := by decide +kernel
theorem dX7_init_136 : decode cX7_init 136 = .ok (.bipush 12, 2) := by decide +kernel
theorem dX7_init_138 : decode cX7_init 138 = .ok (.bipush 6, 2) := by decide +kernel
theorem dX7_init_140 : decode cX7_init 140 = .ok (.bipush 8, 2) := by decide +kernel
theorem dX7_init_142 : decode cX7_init 142 = .ok (.invokevirtual 43, 3) := by decide +kernel
theorem dX7_init_145 : decode cX7_init 145 = .ok (.aload_n 0, 1) := by decide +kernel
theorem dX7_init_146 : decode cX7_init 146 = .ok (.bipush 6, 2) := by decide +kernel
theorem dX7_init_148 : decode cX7_init 148 = .ok (.bipush 8, 2) := by decide +kernel
theorem dX7_init_150 : decode cX7_init 150 = .ok (.bipush 9, 2) := by decide +kernel
theorem dX7_init_152 : decode cX7_init 152 = .ok (.invokevirtual 47, 3) := by decide +kernel
theorem dX7_init_155 : decode cX7_init 155 = .ok (.aload_n 0, 1) := by decide +kernel
theorem dX7_init_156 : decode cX7_init 156 = .ok (.bipush 10, 2) := by decide +kernel
theorem dX7_init_158 : decode cX7_init 158 = .ok (.bipush 6, 2) := by decide +kernel
theorem dX7_init_160 : decode cX7_init 160 = .ok (.bipush 12, 2) := by decide +kernel
theorem dX7_init_162 : decode cX7_init 162 = .ok (.invokevirtual 47, 3) := by decide +kernel
theorem dX7_init_165 : decode cX7_init 165 = .ok (.aload_n 0, 1) := by decide +kernel
theorem dX7_init_166 : decode cX7_init 166 = .ok (.bipush 7, 2) := by decide +kernel
theorem dX7_init_168 : decode cX7_init 168 = .ok (.bipush 9, 2) := by decide +kernel
theorem dX7_init_170 : decode cX7_init 170 = .ok (.bipush 6, 2) := by decide +kernel
theorem dX7_init_172 : decode cX7_init 172 = .ok (.invokevirtual 47, 3) := by decide +kernel
theorem dX7_init_175 : decode cX7_init 175 = .ok (.aload_n 0, 1) := by decide +kernel
theorem dX7_init_176 : decode cX7_init 176 = .ok (.getfield 16, 3) := by decide +kernel
theorem dX7_init_179 : decode cX7_init 179 = .ok (.iconst 2, 1) := by decide +kernel
theorem dX7_init_180 : decode cX7_init 180 = .ok (.bipush 8, 2) := by decide +kernel
theorem dX7_init_182 : decode cX7_init 182 = .ok (.iastore, 1) := by decide +kernel
theorem dX7_init_183 : decode cX7_init 183 = .ok (.aload_n 0, 1) := by decide +kernel
theorem dX7_init_184 : decode cX7_init 184 = .ok (.getfield 16, 3) := by decide +kernel
theorem dX7_init_187 : decode cX7_init 187 = .ok (.iconst 3, 1) := by decide +kernel
theorem dX7_init_188 : decode cX7_init 188 = .ok (.iconst 3, 1) := by decide +kernel
theorem dX7_init_189 : decode cX7_init 189 = .ok (.iastore, 1) := by decide +kernel
theorem dX7_init_190 : decode cX7_init 190 = .ok (.aload_n 0, 1) := by decide +kernel
theorem dX7_init_191 : decode cX7_init 191 = .ok (.getfield 16, 3) := by decide +kernel
theorem dX7_init_194 : decode cX7_init 194 = .ok (.iconst 4, 1) := by decide +kernel
theorem dX7_init_195 : decode cX7_init 195 = .ok (.bipush 6, 2) := by decide +kernel
theorem dX7_init_197 : decode cX7_init 197 = .ok (.iastore, 1) := by decide +kernel
theorem dX7_init_198 : decode cX7_init 198 = .ok (.aload_n 0, 1) := by decide +kernel
theorem dX7_init_199 : decode cX7_init 199 = .ok (.invokevirtual 51, 3) := by decide +kernel
theorem dX7_init_202 : decode cX7_init 202 = .ok (.return_, 1) := by decide +kernel
theorem dX7_in_0 : decode cX7_in 0 = .ok (.iload_n 0, 1) := by decide +kernel
theorem dX7_in_1 : decode cX7_in 1 = .ok (.iload_n 1, 1) := by decide +kernel
theorem dX7_in_2 : decode cX7_in 2 = .ok (.if_icmp .lt 12, 3) := by decide +kernel
theorem dX7_in_5 : decode cX7_in 5 = .ok (.iload_n 0, 1) := by decide +kernel
theorem dX7_in_6 : decode cX7_in 6 = .ok (.iload_n 2, 1) := by decide +kernel
theorem dX7_in_7 : decode cX7_in 7 = .ok (.if_icmp .gt 7, 3) := by decide +kernel
theorem dX7_in_10 : decode cX7_in 10 = .ok (.iconst 1, 1) := by decide +kernel
theorem dX7_in_11 : decode cX7_in 11 = .ok (.goto 4, 3) := by decide +kernel
theorem dX7_in_14 : decode cX7_in 14 = .ok (.iconst 0, 1) := by decide +kernel
theorem dX7_in_15 : decode cX7_in 15 = .ok (.ireturn, 1) := by decide +kernel
theorem dX7_isBough_0 : decode cX7_isBough 0 = .ok (.iload_n 1, 1) := by decide +kernel
theorem dX7_isBough_1 : decode cX7_isBough 1 = .ok (.iconst 0, 1) := by decide +kernel
theorem dX7_isBough_2 : decode cX7_isBough 2 = .ok (.aload_n 0, 1) := by decide +kernel
theorem dX7_isBough_3 : decode cX7_isBough 3 = .ok (.getfield 13, 3) := by decide +kernel
theorem dX7_isBough_6 : decode cX7_isBough 6 = .ok (.iconst 0, 1) := by decide +kernel
theorem dX7_isBough_7 : decode cX7_isBough 7 = .ok (.iaload, 1) := by decide +kernel
theorem dX7_isBough_8 : decode cX7_isBough 8 = .ok (.iconst 1, 1) := by decide +kernel
theorem dX7_isBough_9 : decode cX7_isBough 9 = .ok (.isub, 1) := by decide +kernel
theorem dX7_isBough_10 : decode cX7_isBough 10 = .ok (.invokestatic 54, 3) := by decide +kernel
theorem dX7_isBough_13 : decode cX7_isBough 13 = .ok (.ireturn, 1) := by decide +kernel
theorem dX7_isTenant_0 : decode cX7_isTenant 0 = .ok (.iload_n 1, 1) := by decide +kernel
theorem dX7_isTenant_1 : decode cX7_isTenant 1 = .ok (.iconst 0, 1) := by decide +kernel
theorem dX7_isTenant_2 : decode cX7_isTenant 2 = .ok (.aload_n 0, 1) := by decide +kernel
theorem dX7_isTenant_3 : decode cX7_isTenant 3 = .ok (.getfield 13, 3) := by decide +kernel
theorem dX7_isTenant_6 : decode cX7_isTenant 6 = .ok (.iconst 1, 1) := by decide +kernel
theorem dX7_isTenant_7 : decode cX7_isTenant 7 = .ok (.iaload, 1) := by decide +kernel
theorem dX7_isTenant_8 : decode cX7_isTenant 8 = .ok (.iconst 1, 1) := by decide +kernel
theorem dX7_isTenant_9 : decode cX7_isTenant 9 = .ok (.isub, 1) := by decide +kernel
theorem dX7_isTenant_10 : decode cX7_isTenant 10 = .ok (.invokestatic 54, 3) := by decide +kernel
theorem dX7_isTenant_13 : decode cX7_isTenant 13 = .ok (.ireturn, 1) := by decide +kernel
theorem dX7_write_0 : decode cX7_write 0 = .ok (.iload_n 1, 1) := by decide +kernel
theorem dX7_write_1 : decode cX7_write 1 = .ok (.bipush 32, 2) := by decide +kernel
theorem dX7_write_3 : decode cX7_write 3 = .ok (.bipush 126, 2) := by decide +kernel
theorem dX7_write_5 : decode cX7_write 5 = .ok (.invokestatic 54, 3) := by decide +kernel
theorem dX7_write_8 : decode cX7_write 8 = .ok (.ifCond .ne 5, 3) := by decide +kernel
theorem dX7_write_11 : decode cX7_write 11 = .ok (.iconst (-1), 1) := by decide +kernel
theorem dX7_write_12 : decode cX7_write 12 = .ok (.ireturn, 1) := by decide +kernel
theorem dX7_write_13 : decode cX7_write 13 = .ok (.aload_n 0, 1) := by decide +kernel
theorem dX7_write_14 : decode cX7_write 14 = .ok (.getfield 58, 3) := by decide +kernel
theorem dX7_write_17 : decode cX7_write 17 = .ok (.sipush 200, 3) := by decide +kernel
theorem dX7_write_20 : decode cX7_write 20 = .ok (.if_icmp .ne 6, 3) := by decide +kernel
theorem dX7_write_23 : decode cX7_write 23 = .ok (.bipush (-3), 2) := by decide +kernel
theorem dX7_write_25 : decode cX7_write 25 = .ok (.ireturn, 1) := by decide +kernel
theorem dX7_write_26 : decode cX7_write 26 = .ok (.aload_n 0, 1) := by decide +kernel
theorem dX7_write_27 : decode cX7_write 27 = .ok (.getfield 7, 3) := by decide +kernel
theorem dX7_write_30 : decode cX7_write 30 = .ok (.aload_n 0, 1) := by decide +kernel
theorem dX7_write_31 : decode cX7_write 31 = .ok (.getfield 58, 3) := by decide +kernel
theorem dX7_write_34 : decode cX7_write 34 = .ok (.iload_n 1, 1) := by decide +kernel
theorem dX7_write_35 : decode cX7_write 35 = .ok (.iastore, 1) := by decide +kernel
theorem dX7_write_36 : decode cX7_write 36 = .ok (.aload_n 0, 1) := by decide +kernel
theorem dX7_write_37 : decode cX7_write 37 = .ok (.dup, 1) := by decide +kernel
theorem dX7_write_38 : decode cX7_write 38 = .ok (.getfield 58, 3) := by decide +kernel
theorem dX7_write_41 : decode cX7_write 41 = .ok (.iconst 1, 1) := by decide +kernel
theorem dX7_write_42 : decode cX7_write 42 = .ok (.iadd, 1) := by decide +kernel
theorem dX7_write_43 : decode cX7_write 43 = .ok (.putfield 58, 3) := by decide +kernel
theorem dX7_write_46 : decode cX7_write 46 = .ok (.aload_n 0, 1) := by decide +kernel
theorem dX7_write_47 : decode cX7_write 47 = .ok (.getfield 58, 3) := by decide +kernel
theorem dX7_write_50 : decode cX7_write 50 = .ok (.ireturn, 1) := by decide +kernel
theorem dX7_wipe_0 : decode cX7_wipe 0 = .ok (.aload_n 0, 1) := by decide +kernel
theorem dX7_wipe_1 : decode cX7_wipe 1 = .ok (.getfield 58, 3) := by decide +kernel
theorem dX7_wipe_4 : decode cX7_wipe 4 = .ok (.istore_n 1, 1) := by decide +kernel
theorem dX7_wipe_5 : decode cX7_wipe 5 = .ok (.aload_n 0, 1) := by decide +kernel
theorem dX7_wipe_6 : decode cX7_wipe 6 = .ok (.iconst 0, 1) := by decide +kernel
theorem dX7_wipe_7 : decode cX7_wipe 7 = .ok (.putfield 58, 3) := by decide +kernel
theorem dX7_wipe_10 : decode cX7_wipe 10 = .ok (.iload_n 1, 1) := by decide +kernel
theorem dX7_wipe_11 : decode cX7_wipe 11 = .ok (.ireturn, 1) := by decide +kernel
theorem dX7_letterAt_0 : decode cX7_letterAt 0 = .ok (.iload_n 1, 1) := by decide +kernel
theorem dX7_letterAt_1 : decode cX7_letterAt 1 = .ok (.aload_n 0, 1) := by decide +kernel
theorem dX7_letterAt_2 : decode cX7_letterAt 2 = .ok (.getfield 58, 3) := by decide +kernel
theorem dX7_letterAt_5 : decode cX7_letterAt 5 = .ok (.if_icmp .ge 12, 3) := by decide +kernel
theorem dX7_letterAt_8 : decode cX7_letterAt 8 = .ok (.aload_n 0, 1) := by decide +kernel
theorem dX7_letterAt_9 : decode cX7_letterAt 9 = .ok (.getfield 7, 3) := by decide +kernel
theorem dX7_letterAt_12 : decode cX7_letterAt 12 = .ok (.iload_n 1, 1) := by decide +kernel
theorem dX7_letterAt_13 : decode cX7_letterAt 13 = .ok (.iaload, 1) := by decide +kernel
theorem dX7_letterAt_14 : decode cX7_letterAt 14 = .ok (.goto 4, 3) := by decide +kernel
theorem dX7_letterAt_17 : decode cX7_letterAt 17 = .ok (.iconst (-1), 1) := by decide +kernel
theorem dX7_letterAt_18 : decode cX7_letterAt 18 = .ok (.ireturn, 1) := by decide +kernel
theorem dX7_isFigure_0 : decode cX7_isFigure 0 = .ok (.iload_n 0, 1) := by decide +kernel
theorem dX7_isFigure_1 : decode cX7_isFigure 1 = .ok (.bipush 48, 2) := by decide +kernel
theorem dX7_isFigure_3 : decode cX7_isFigure 3 = .ok (.bipush 57, 2) := by decide +kernel
theorem dX7_isFigure_5 : decode cX7_isFigure 5 = .ok (.invokestatic 54, 3) := by decide +kernel
theorem dX7_isFigure_8 : decode cX7_isFigure 8 = .ok (.ireturn, 1) := by decide +kernel
theorem dX7_number_0 : decode cX7_number 0 = .ok (.aload_n 0, 1) := by decide +kernel
theorem dX7_number_1 : decode cX7_number 1 = .ok (.aload_n 0, 1) := by decide +kernel
theorem dX7_number_2 : decode cX7_number 2 = .ok (.getfield 62, 3) := by decide +kernel
theorem dX7_number_5 : decode cX7_number 5 = .ok (.invokevirtual 65, 3) := by decide +kernel
theorem dX7_number_8 : decode cX7_number 8 = .ok (.invokestatic 69, 3) := by decide +kernel
theorem dX7_number_11 : decode cX7_number 11 = .ok (.ifCond .ne 5, 3) := by decide +kernel
theorem dX7_number_14 : decode cX7_number 14 = .ok (.iconst (-1), 1) := by decide +kernel
theorem dX7_number_15 : decode cX7_number 15 = .ok (.ireturn, 1) := by decide +kernel
theorem dX7_number_16 : decode cX7_number 16 = .ok (.aload_n 0, 1) := by decide +kernel
theorem dX7_number_17 : decode cX7_number 17 = .ok (.aload_n 0, 1) := by decide +kernel
theorem dX7_number_18 : decode cX7_number 18 = .ok (.getfield 62, 3) := by decide +kernel
theorem dX7_number_21 : decode cX7_number 21 = .ok (.invokevirtual 65, 3) := by decide +kernel
theorem dX7_number_24 : decode cX7_number 24 = .ok (.bipush 48, 2) := by decide +kernel
theorem dX7_number_26 : decode cX7_number 26 = .ok (.isub, 1) := by decide +kernel
theorem dX7_number_27 : decode cX7_number 27 = .ok (.istore 4, 2) := by decide +kernel
theorem dX7_number_29 : decode cX7_number 29 = .ok (.aload_n 0, 1) := by decide +kernel
theorem dX7_number_30 : decode cX7_number 30 = .ok (.dup, 1) := by decide +kernel
theorem dX7_number_31 : decode cX7_number 31 = .ok (.getfield 62, 3) := by decide +kernel
theorem dX7_number_34 : decode cX7_number 34 = .ok (.iconst 1, 1) := by decide +kernel
theorem dX7_number_35 : decode cX7_number 35 = .ok (.iadd, 1) := by decide +kernel
theorem dX7_number_36 : decode cX7_number 36 = .ok (.putfield 62, 3) := by decide +kernel
theorem dX7_number_39 : decode cX7_number 39 = .ok (.aload_n 0, 1) := by decide +kernel
theorem dX7_number_40 : decode cX7_number 40 = .ok (.aload_n 0, 1) := by decide +kernel
theorem dX7_number_41 : decode cX7_number 41 = .ok (.getfield 62, 3) := by decide +kernel
theorem dX7_number_44 : decode cX7_number 44 = .ok (.invokevirtual 65, 3) := by decide +kernel
theorem dX7_number_47 : decode cX7_number 47 = .ok (.invokestatic 69, 3) := by decide +kernel
theorem dX7_number_50 : decode cX7_number 50 = .ok (.ifCond .eq 32, 3) := by decide +kernel
theorem dX7_number_53 : decode cX7_number 53 = .ok (.bipush 10, 2) := by decide +kernel
theorem dX7_number_55 : decode cX7_number 55 = .ok (.iload 4, 2) := by decide +kernel
theorem dX7_number_57 : decode cX7_number 57 = .ok (.imul, 1) := by decide +kernel
theorem dX7_number_58 : decode cX7_number 58 = .ok (.aload_n 0, 1) := by decide +kernel
theorem dX7_number_59 : decode cX7_number 59 = .ok (.aload_n 0, 1) := by decide +kernel
theorem dX7_number_60 : decode cX7_number 60 = .ok (.getfield 62, 3) := by decide +kernel
theorem dX7_number_63 : decode cX7_number 63 = .ok (.invokevirtual 65, 3) := by decide +kernel
theorem dX7_number_66 : decode cX7_number 66 = .ok (.iadd, 1) := by decide +kernel
theorem dX7_number_67 : decode cX7_number 67 = .ok (.bipush 48, 2) := by decide +kernel
theorem dX7_number_69 : decode cX7_number 69 = .ok (.isub, 1) := by decide +kernel
theorem dX7_number_70 : decode cX7_number 70 = .ok (.istore 4, 2) := by decide +kernel
theorem dX7_number_72 : decode cX7_number 72 = .ok (.aload_n 0, 1) := by decide +kernel
theorem dX7_number_73 : decode cX7_number 73 = .ok (.dup, 1) := by decide +kernel
theorem dX7_number_74 : decode cX7_number 74 = .ok (.getfield 62, 3) := by decide +kernel
theorem dX7_number_77 : decode cX7_number 77 = .ok (.iconst 1, 1) := by decide +kernel
theorem dX7_number_78 : decode cX7_number 78 = .ok (.iadd, 1) := by decide +kernel
theorem dX7_number_79 : decode cX7_number 79 = .ok (.putfield 62, 3) := by decide +kernel
theorem dX7_number_82 : decode cX7_number 82 = .ok (.aload_n 0, 1) := by decide +kernel
theorem dX7_number_83 : decode cX7_number 83 = .ok (.aload_n 0, 1) := by decide +kernel
theorem dX7_number_84 : decode cX7_number 84 = .ok (.getfield 62, 3) := by decide +kernel
theorem dX7_number_87 : decode cX7_number 87 = .ok (.invokevirtual 65, 3) := by decide +kernel
theorem dX7_number_90 : decode cX7_number 90 = .ok (.iload_n 3, 1) := by decide +kernel
theorem dX7_number_91 : decode cX7_number 91 = .ok (.if_icmp .ne 17, 3) := by decide +kernel
theorem dX7_number_94 : decode cX7_number 94 = .ok (.iload 4, 2) := by decide +kernel
theorem dX7_number_96 : decode cX7_number 96 = .ok (.iload_n 1, 1) := by decide +kernel
theorem dX7_number_97 : decode cX7_number 97 = .ok (.iload_n 2, 1) := by decide +kernel
theorem dX7_number_98 : decode cX7_number 98 = .ok (.invokestatic 54, 3) := by decide +kernel
theorem dX7_number_101 : decode cX7_number 101 = .ok (.ifCond .eq 7, 3) := by decide +kernel
theorem dX7_number_104 : decode cX7_number 104 = .ok (.iconst 1, 1) := by decide +kernel
theorem dX7_number_105 : decode cX7_number 105 = .ok (.goto 4, 3) := by decide +kernel
theorem dX7_number_108 : decode cX7_number 108 = .ok (.iconst 0, 1) := by decide +kernel
theorem dX7_number_109 : decode cX7_number 109 = .ok (.istore 5, 2) := by decide +kernel
theorem dX7_number_111 : decode cX7_number 111 = .ok (.aload_n 0, 1) := by decide +kernel
theorem dX7_number_112 : decode cX7_number 112 = .ok (.dup, 1) := by decide +kernel
theorem dX7_number_113 : decode cX7_number 113 = .ok (.getfield 62, 3) := by decide +kernel
theorem dX7_number_116 : decode cX7_number 116 = .ok (.iconst 1, 1) := by decide +kernel
theorem dX7_number_117 : decode cX7_number 117 = .ok (.iadd, 1) := by decide +kernel
theorem dX7_number_118 : decode cX7_number 118 = .ok (.putfield 62, 3) := by decide +kernel
theorem dX7_number_121 : decode cX7_number 121 = .ok (.iload 5, 2) := by decide +kernel
theorem dX7_number_123 : decode cX7_number 123 = .ok (.ifCond .eq 8, 3) := by decide +kernel
theorem dX7_number_126 : decode cX7_number 126 = .ok (.iload 4, 2) := by decide +kernel
theorem dX7_number_128 : decode cX7_number 128 = .ok (.goto 4, 3) := by decide +kernel
theorem dX7_number_131 : decode cX7_number 131 = .ok (.iconst (-1), 1) := by decide +kernel
theorem dX7_number_132 : decode cX7_number 132 = .ok (.ireturn, 1) := by decide +kernel
theorem dX7_begins_0 : decode cX7_begins 0 = .ok (.iconst 0, 1) := by decide +kernel
theorem dX7_begins_1 : decode cX7_begins 1 = .ok (.istore_n 1, 1) := by decide +kernel
theorem dX7_begins_2 : decode cX7_begins 2 = .ok (.iload_n 1, 1) := by decide +kernel
theorem dX7_begins_3 : decode cX7_begins 3 = .ok (.bipush 37, 2) := by decide +kernel
theorem dX7_begins_5 : decode cX7_begins 5 = .ok (.if_icmp .ge 16, 3) := by decide +kernel
theorem dX7_begins_8 : decode cX7_begins 8 = .ok (.aload_n 0, 1) := by decide +kernel
theorem dX7_begins_9 : decode cX7_begins 9 = .ok (.getfield 16, 3) := by decide +kernel
theorem dX7_begins_12 : decode cX7_begins 12 = .ok (.iload_n 1, 1) := by decide +kernel
theorem dX7_begins_13 : decode cX7_begins 13 = .ok (.iconst 0, 1) := by decide +kernel
theorem dX7_begins_14 : decode cX7_begins 14 = .ok (.iastore, 1) := by decide +kernel
theorem dX7_begins_15 : decode cX7_begins 15 = .ok (.iinc 1 1, 3) := by decide +kernel
theorem dX7_begins_18 : decode cX7_begins 18 = .ok (.goto (-16), 3) := by decide +kernel
theorem dX7_begins_21 : decode cX7_begins 21 = .ok (.aload_n 0, 1) := by decide +kernel
theorem dX7_begins_22 : decode cX7_begins 22 = .ok (.getfield 16, 3) := by decide +kernel
theorem dX7_begins_25 : decode cX7_begins 25 = .ok (.iconst 2, 1) := by decide +kernel
theorem dX7_begins_26 : decode cX7_begins 26 = .ok (.bipush 20, 2) := by decide +kernel
theorem dX7_begins_28 : decode cX7_begins 28 = .ok (.iastore, 1) := by decide +kernel
theorem dX7_begins_29 : decode cX7_begins 29 = .ok (.aload_n 0, 1) := by decide +kernel
theorem dX7_begins_30 : decode cX7_begins 30 = .ok (.getfield 16, 3) := by decide +kernel
theorem dX7_begins_33 : decode cX7_begins 33 = .ok (.iconst 3, 1) := by decide +kernel
theorem dX7_begins_34 : decode cX7_begins 34 = .ok (.iconst 3, 1) := by decide +kernel
theorem dX7_begins_35 : decode cX7_begins 35 = .ok (.iastore, 1) := by decide +kernel
theorem dX7_begins_36 : decode cX7_begins 36 = .ok (.aload_n 0, 1) := by decide +kernel
theorem dX7_begins_37 : decode cX7_begins 37 = .ok (.getfield 16, 3) := by decide +kernel
theorem dX7_begins_40 : decode cX7_begins 40 = .ok (.iconst 4, 1) := by decide +kernel
theorem dX7_begins_41 : decode cX7_begins 41 = .ok (.bipush 10, 2) := by decide +kernel
theorem dX7_begins_43 : decode cX7_begins 43 = .ok (.iastore, 1) := by decide +kernel
theorem dX7_begins_44 : decode cX7_begins 44 = .ok (.iconst 0, 1) := by decide +kernel
theorem dX7_begins_45 : decode cX7_begins 45 = .ok (.istore_n 1, 1) := by decide +kernel
theorem dX7_begins_46 : decode cX7_begins 46 = .ok (.iload_n 1, 1) := by decide +kernel
theorem dX7_begins_47 : decode cX7_begins 47 = .ok (.bipush 29, 2) := by decide +kernel
theorem dX7_begins_49 : decode cX7_begins 49 = .ok (.if_icmp .ge 16, 3) := by decide +kernel
theorem dX7_begins_52 : decode cX7_begins 52 = .ok (.aload_n 0, 1) := by decide +kernel
theorem dX7_begins_53 : decode cX7_begins 53 = .ok (.getfield 19, 3) := by decide +kernel
theorem dX7_begins_56 : decode cX7_begins 56 = .ok (.iload_n 1, 1) := by decide +kernel
theorem dX7_begins_57 : decode cX7_begins 57 = .ok (.iconst 0, 1) := by decide +kernel
theorem dX7_begins_58 : decode cX7_begins 58 = .ok (.iastore, 1) := by decide +kernel
theorem dX7_begins_59 : decode cX7_begins 59 = .ok (.iinc 1 1, 3) := by decide +kernel
theorem dX7_begins_62 : decode cX7_begins 62 = .ok (.goto (-16), 3) := by decide +kernel
theorem dX7_begins_65 : decode cX7_begins 65 = .ok (.return_, 1) := by decide +kernel
theorem dX7_boughOf_0 : decode cX7_boughOf 0 = .ok (.aload_n 0, 1) := by decide +kernel
theorem dX7_boughOf_1 : decode cX7_boughOf 1 = .ok (.getfield 16, 3) := by decide +kernel
theorem dX7_boughOf_4 : decode cX7_boughOf 4 = .ok (.iconst 0, 1) := by decide +kernel
theorem dX7_boughOf_5 : decode cX7_boughOf 5 = .ok (.iaload, 1) := by decide +kernel
theorem dX7_boughOf_6 : decode cX7_boughOf 6 = .ok (.istore 5, 2) := by decide +kernel
theorem dX7_boughOf_8 : decode cX7_boughOf 8 = .ok (.aload_n 0, 1) := by decide +kernel
theorem dX7_boughOf_9 : decode cX7_boughOf 9 = .ok (.getfield 16, 3) := by decide +kernel
theorem dX7_boughOf_12 : decode cX7_boughOf 12 = .ok (.iconst 5, 1) := by decide +kernel
theorem dX7_boughOf_13 : decode cX7_boughOf 13 = .ok (.iload 5, 2) := by decide +kernel
theorem dX7_boughOf_15 : decode cX7_boughOf 15 = .ok (.iadd, 1) := by decide +kernel
theorem dX7_boughOf_16 : decode cX7_boughOf 16 = .ok (.iload_n 1, 1) := by decide +kernel
end
section
theorem dX7_boughOf_17 : decode cX7_boughOf 17 = .ok (.iastore, 1) := by decide +kernel
theorem dX7_boughOf_18 : decode cX7_boughOf 18 = .ok (.aload_n 0, 1) := by decide +kernel
theorem dX7_boughOf_19 : decode cX7_boughOf 19 = .ok (.getfield 16, 3) := by decide +kernel
theorem dX7_boughOf_22 : decode cX7_boughOf 22 = .ok (.bipush 13, 2) := by decide +kernel
theorem dX7_boughOf_24 : decode cX7_boughOf 24 = .ok (.iload 5, 2) := by decide +kernel
theorem dX7_boughOf_26 : decode cX7_boughOf 26 = .ok (.iadd, 1) := by decide +kernel
theorem dX7_boughOf_27 : decode cX7_boughOf 27 = .ok (.iload_n 2, 1) := by decide +kernel
theorem dX7_boughOf_28 : decode cX7_boughOf 28 = .ok (.iastore, 1) := by decide +kernel
theorem dX7_boughOf_29 : decode cX7_boughOf 29 = .ok (.aload_n 0, 1) := by decide +kernel
theorem dX7_boughOf_30 : decode cX7_boughOf 30 = .ok (.getfield 16, 3) := by decide +kernel
theorem dX7_boughOf_33 : decode cX7_boughOf 33 = .ok (.bipush 21, 2) := by decide +kernel
theorem dX7_boughOf_35 : decode cX7_boughOf 35 = .ok (.iload 5, 2) := by decide +kernel
theorem dX7_boughOf_37 : decode cX7_boughOf 37 = .ok (.iadd, 1) := by decide +kernel
theorem dX7_boughOf_38 : decode cX7_boughOf 38 = .ok (.iload_n 3, 1) := by decide +kernel
theorem dX7_boughOf_39 : decode cX7_boughOf 39 = .ok (.iastore, 1) := by decide +kernel
theorem dX7_boughOf_40 : decode cX7_boughOf 40 = .ok (.aload_n 0, 1) := by decide +kernel
theorem dX7_boughOf_41 : decode cX7_boughOf 41 = .ok (.getfield 19, 3) := by decide +kernel
theorem dX7_boughOf_44 : decode cX7_boughOf 44 = .ok (.iload 5, 2) := by decide +kernel
theorem dX7_boughOf_46 : decode cX7_boughOf 46 = .ok (.iload 4, 2) := by decide +kernel
theorem dX7_boughOf_48 : decode cX7_boughOf 48 = .ok (.iastore, 1) := by decide +kernel
theorem dX7_boughOf_49 : decode cX7_boughOf 49 = .ok (.aload_n 0, 1) := by decide +kernel
theorem dX7_boughOf_50 : decode cX7_boughOf 50 = .ok (.getfield 16, 3) := by decide +kernel
theorem dX7_boughOf_53 : decode cX7_boughOf 53 = .ok (.iconst 0, 1) := by decide +kernel
theorem dX7_boughOf_54 : decode cX7_boughOf 54 = .ok (.dup2, 1) := by decide +kernel
theorem dX7_boughOf_55 : decode cX7_boughOf 55 = .ok (.iaload, 1) := by decide +kernel
theorem dX7_boughOf_56 : decode cX7_boughOf 56 = .ok (.iconst 1, 1) := by decide +kernel
theorem dX7_boughOf_57 : decode cX7_boughOf 57 = .ok (.iadd, 1) := by decide +kernel
theorem dX7_boughOf_58 : decode cX7_boughOf 58 = .ok (.iastore, 1) := by decide +kernel
theorem dX7_boughOf_59 : decode cX7_boughOf 59 = .ok (.return_, 1) := by decide +kernel
theorem dX7_tenantOf_0 : decode cX7_tenantOf 0 = .ok (.aload_n 0, 1) := by decide +kernel
theorem dX7_tenantOf_1 : decode cX7_tenantOf 1 = .ok (.getfield 16, 3) := by decide +kernel
theorem dX7_tenantOf_4 : decode cX7_tenantOf 4 = .ok (.iconst 1, 1) := by decide +kernel
theorem dX7_tenantOf_5 : decode cX7_tenantOf 5 = .ok (.iaload, 1) := by decide +kernel
theorem dX7_tenantOf_6 : decode cX7_tenantOf 6 = .ok (.istore 4, 2) := by decide +kernel
theorem dX7_tenantOf_8 : decode cX7_tenantOf 8 = .ok (.aload_n 0, 1) := by decide +kernel
theorem dX7_tenantOf_9 : decode cX7_tenantOf 9 = .ok (.getfield 16, 3) := by decide +kernel
theorem dX7_tenantOf_12 : decode cX7_tenantOf 12 = .ok (.bipush 29, 2) := by decide +kernel
theorem dX7_tenantOf_14 : decode cX7_tenantOf 14 = .ok (.iload 4, 2) := by decide +kernel
theorem dX7_tenantOf_16 : decode cX7_tenantOf 16 = .ok (.iadd, 1) := by decide +kernel
theorem dX7_tenantOf_17 : decode cX7_tenantOf 17 = .ok (.iload_n 2, 1) := by decide +kernel
theorem dX7_tenantOf_18 : decode cX7_tenantOf 18 = .ok (.iastore, 1) := by decide +kernel
theorem dX7_tenantOf_19 : decode cX7_tenantOf 19 = .ok (.aload_n 0, 1) := by decide +kernel
theorem dX7_tenantOf_20 : decode cX7_tenantOf 20 = .ok (.getfield 16, 3) := by decide +kernel
theorem dX7_tenantOf_23 : decode cX7_tenantOf 23 = .ok (.bipush 33, 2) := by decide +kernel
theorem dX7_tenantOf_25 : decode cX7_tenantOf 25 = .ok (.iload 4, 2) := by decide +kernel
theorem dX7_tenantOf_27 : decode cX7_tenantOf 27 = .ok (.iadd, 1) := by decide +kernel
theorem dX7_tenantOf_28 : decode cX7_tenantOf 28 = .ok (.iload_n 3, 1) := by decide +kernel
theorem dX7_tenantOf_29 : decode cX7_tenantOf 29 = .ok (.iastore, 1) := by decide +kernel
theorem dX7_tenantOf_30 : decode cX7_tenantOf 30 = .ok (.aload_n 0, 1) := by decide +kernel
theorem dX7_tenantOf_31 : decode cX7_tenantOf 31 = .ok (.getfield 19, 3) := by decide +kernel
theorem dX7_tenantOf_34 : decode cX7_tenantOf 34 = .ok (.bipush 16, 2) := by decide +kernel
theorem dX7_tenantOf_36 : decode cX7_tenantOf 36 = .ok (.iload 4, 2) := by decide +kernel
theorem dX7_tenantOf_38 : decode cX7_tenantOf 38 = .ok (.iadd, 1) := by decide +kernel
theorem dX7_tenantOf_39 : decode cX7_tenantOf 39 = .ok (.iload_n 1, 1) := by decide +kernel
theorem dX7_tenantOf_40 : decode cX7_tenantOf 40 = .ok (.iastore, 1) := by decide +kernel
theorem dX7_tenantOf_41 : decode cX7_tenantOf 41 = .ok (.aload_n 0, 1) := by decide +kernel
theorem dX7_tenantOf_42 : decode cX7_tenantOf 42 = .ok (.getfield 16, 3) := by decide +kernel
theorem dX7_tenantOf_45 : decode cX7_tenantOf 45 = .ok (.iconst 1, 1) := by decide +kernel
theorem dX7_tenantOf_46 : decode cX7_tenantOf 46 = .ok (.dup2, 1) := by decide +kernel
theorem dX7_tenantOf_47 : decode cX7_tenantOf 47 = .ok (.iaload, 1) := by decide +kernel
theorem dX7_tenantOf_48 : decode cX7_tenantOf 48 = .ok (.iconst 1, 1) := by decide +kernel
theorem dX7_tenantOf_49 : decode cX7_tenantOf 49 = .ok (.iadd, 1) := by decide +kernel
theorem dX7_tenantOf_50 : decode cX7_tenantOf 50 = .ok (.iastore, 1) := by decide +kernel
theorem dX7_tenantOf_51 : decode cX7_tenantOf 51 = .ok (.return_, 1) := by decide +kernel
theorem dX7_readsItem_0 : decode cX7_readsItem 0 = .ok (.iload_n 1, 1) := by decide +kernel
theorem dX7_readsItem_1 : decode cX7_readsItem 1 = .ok (.lookupswitch 295 #[(98, 43), (102, 265), (107, 213), (116, 139)], 43) := by decide +kernel
theorem dX7_readsItem_44 : decode cX7_readsItem 44 = .ok (.aload_n 0, 1) := by decide +kernel
theorem dX7_readsItem_45 : decode cX7_readsItem 45 = .ok (.iconst 0, 1) := by decide +kernel
theorem dX7_readsItem_46 : decode cX7_readsItem 46 = .ok (.iconst 3, 1) := by decide +kernel
theorem dX7_readsItem_47 : decode cX7_readsItem 47 = .ok (.bipush 44, 2) := by decide +kernel
theorem dX7_readsItem_49 : decode cX7_readsItem 49 = .ok (.invokevirtual 73, 3) := by decide +kernel
theorem dX7_readsItem_52 : decode cX7_readsItem 52 = .ok (.istore_n 2, 1) := by decide +kernel
theorem dX7_readsItem_53 : decode cX7_readsItem 53 = .ok (.iload_n 2, 1) := by decide +kernel
theorem dX7_readsItem_54 : decode cX7_readsItem 54 = .ok (.ifCond .ge 7, 3) := by decide +kernel
theorem dX7_readsItem_57 : decode cX7_readsItem 57 = .ok (.iconst (-1), 1) := by decide +kernel
theorem dX7_readsItem_58 : decode cX7_readsItem 58 = .ok (.goto 12, 3) := by decide +kernel
theorem dX7_readsItem_61 : decode cX7_readsItem 61 = .ok (.aload_n 0, 1) := by decide +kernel
theorem dX7_readsItem_62 : decode cX7_readsItem 62 = .ok (.iconst 1, 1) := by decide +kernel
theorem dX7_readsItem_63 : decode cX7_readsItem 63 = .ok (.bipush 20, 2) := by decide +kernel
theorem dX7_readsItem_65 : decode cX7_readsItem 65 = .ok (.bipush 44, 2) := by decide +kernel
theorem dX7_readsItem_67 : decode cX7_readsItem 67 = .ok (.invokevirtual 73, 3) := by decide +kernel
theorem dX7_readsItem_70 : decode cX7_readsItem 70 = .ok (.istore_n 3, 1) := by decide +kernel
theorem dX7_readsItem_71 : decode cX7_readsItem 71 = .ok (.iload_n 3, 1) := by decide +kernel
theorem dX7_readsItem_72 : decode cX7_readsItem 72 = .ok (.ifCond .ge 7, 3) := by decide +kernel
theorem dX7_readsItem_75 : decode cX7_readsItem 75 = .ok (.iconst (-1), 1) := by decide +kernel
theorem dX7_readsItem_76 : decode cX7_readsItem 76 = .ok (.goto 12, 3) := by decide +kernel
theorem dX7_readsItem_79 : decode cX7_readsItem 79 = .ok (.aload_n 0, 1) := by decide +kernel
theorem dX7_readsItem_80 : decode cX7_readsItem 80 = .ok (.iconst 1, 1) := by decide +kernel
theorem dX7_readsItem_81 : decode cX7_readsItem 81 = .ok (.bipush 20, 2) := by decide +kernel
theorem dX7_readsItem_83 : decode cX7_readsItem 83 = .ok (.bipush 44, 2) := by decide +kernel
theorem dX7_readsItem_85 : decode cX7_readsItem 85 = .ok (.invokevirtual 73, 3) := by decide +kernel
theorem dX7_readsItem_88 : decode cX7_readsItem 88 = .ok (.istore 4, 2) := by decide +kernel
theorem dX7_readsItem_90 : decode cX7_readsItem 90 = .ok (.iload 4, 2) := by decide +kernel
theorem dX7_readsItem_92 : decode cX7_readsItem 92 = .ok (.ifCond .ge 7, 3) := by decide +kernel
theorem dX7_readsItem_95 : decode cX7_readsItem 95 = .ok (.iconst (-1), 1) := by decide +kernel
theorem dX7_readsItem_96 : decode cX7_readsItem 96 = .ok (.goto 12, 3) := by decide +kernel
theorem dX7_readsItem_99 : decode cX7_readsItem 99 = .ok (.aload_n 0, 1) := by decide +kernel
theorem dX7_readsItem_100 : decode cX7_readsItem 100 = .ok (.iconst 0, 1) := by decide +kernel
theorem dX7_readsItem_101 : decode cX7_readsItem 101 = .ok (.bipush 60, 2) := by decide +kernel
theorem dX7_readsItem_103 : decode cX7_readsItem 103 = .ok (.bipush 59, 2) := by decide +kernel
theorem dX7_readsItem_105 : decode cX7_readsItem 105 = .ok (.invokevirtual 73, 3) := by decide +kernel
theorem dX7_readsItem_108 : decode cX7_readsItem 108 = .ok (.istore 5, 2) := by decide +kernel
theorem dX7_readsItem_110 : decode cX7_readsItem 110 = .ok (.iload 5, 2) := by decide +kernel
theorem dX7_readsItem_112 : decode cX7_readsItem 112 = .ok (.ifCond .lt 14, 3) := by decide +kernel
theorem dX7_readsItem_115 : decode cX7_readsItem 115 = .ok (.aload_n 0, 1) := by decide +kernel
theorem dX7_readsItem_116 : decode cX7_readsItem 116 = .ok (.getfield 16, 3) := by decide +kernel
theorem dX7_readsItem_119 : decode cX7_readsItem 119 = .ok (.iconst 0, 1) := by decide +kernel
theorem dX7_readsItem_120 : decode cX7_readsItem 120 = .ok (.iaload, 1) := by decide +kernel
theorem dX7_readsItem_121 : decode cX7_readsItem 121 = .ok (.bipush 8, 2) := by decide +kernel
theorem dX7_readsItem_123 : decode cX7_readsItem 123 = .ok (.if_icmp .ne 5, 3) := by decide +kernel
theorem dX7_readsItem_126 : decode cX7_readsItem 126 = .ok (.iconst 0, 1) := by decide +kernel
theorem dX7_readsItem_127 : decode cX7_readsItem 127 = .ok (.ireturn, 1) := by decide +kernel
theorem dX7_readsItem_128 : decode cX7_readsItem 128 = .ok (.aload_n 0, 1) := by decide +kernel
theorem dX7_readsItem_129 : decode cX7_readsItem 129 = .ok (.iload_n 2, 1) := by decide +kernel
theorem dX7_readsItem_130 : decode cX7_readsItem 130 = .ok (.iload_n 3, 1) := by decide +kernel
theorem dX7_readsItem_131 : decode cX7_readsItem 131 = .ok (.iload 4, 2) := by decide +kernel
theorem dX7_readsItem_133 : decode cX7_readsItem 133 = .ok (.iload 5, 2) := by decide +kernel
theorem dX7_readsItem_135 : decode cX7_readsItem 135 = .ok (.invokevirtual 43, 3) := by decide +kernel
theorem dX7_readsItem_138 : decode cX7_readsItem 138 = .ok (.iconst 1, 1) := by decide +kernel
theorem dX7_readsItem_139 : decode cX7_readsItem 139 = .ok (.ireturn, 1) := by decide +kernel
theorem dX7_readsItem_140 : decode cX7_readsItem 140 = .ok (.aload_n 0, 1) := by decide +kernel
theorem dX7_readsItem_141 : decode cX7_readsItem 141 = .ok (.iconst 1, 1) := by decide +kernel
theorem dX7_readsItem_142 : decode cX7_readsItem 142 = .ok (.bipush 20, 2) := by decide +kernel
theorem dX7_readsItem_144 : decode cX7_readsItem 144 = .ok (.bipush 44, 2) := by decide +kernel
theorem dX7_readsItem_146 : decode cX7_readsItem 146 = .ok (.invokevirtual 73, 3) := by decide +kernel
theorem dX7_readsItem_149 : decode cX7_readsItem 149 = .ok (.istore_n 2, 1) := by decide +kernel
theorem dX7_readsItem_150 : decode cX7_readsItem 150 = .ok (.iload_n 2, 1) := by decide +kernel
theorem dX7_readsItem_151 : decode cX7_readsItem 151 = .ok (.ifCond .ge 7, 3) := by decide +kernel
theorem dX7_readsItem_154 : decode cX7_readsItem 154 = .ok (.iconst (-1), 1) := by decide +kernel
theorem dX7_readsItem_155 : decode cX7_readsItem 155 = .ok (.goto 12, 3) := by decide +kernel
theorem dX7_readsItem_158 : decode cX7_readsItem 158 = .ok (.aload_n 0, 1) := by decide +kernel
theorem dX7_readsItem_159 : decode cX7_readsItem 159 = .ok (.iconst 1, 1) := by decide +kernel
theorem dX7_readsItem_160 : decode cX7_readsItem 160 = .ok (.bipush 40, 2) := by decide +kernel
theorem dX7_readsItem_162 : decode cX7_readsItem 162 = .ok (.bipush 44, 2) := by decide +kernel
theorem dX7_readsItem_164 : decode cX7_readsItem 164 = .ok (.invokevirtual 73, 3) := by decide +kernel
theorem dX7_readsItem_167 : decode cX7_readsItem 167 = .ok (.istore_n 3, 1) := by decide +kernel
theorem dX7_readsItem_168 : decode cX7_readsItem 168 = .ok (.iload_n 3, 1) := by decide +kernel
theorem dX7_readsItem_169 : decode cX7_readsItem 169 = .ok (.ifCond .ge 7, 3) := by decide +kernel
theorem dX7_readsItem_172 : decode cX7_readsItem 172 = .ok (.iconst (-1), 1) := by decide +kernel
theorem dX7_readsItem_173 : decode cX7_readsItem 173 = .ok (.goto 12, 3) := by decide +kernel
theorem dX7_readsItem_176 : decode cX7_readsItem 176 = .ok (.aload_n 0, 1) := by decide +kernel
theorem dX7_readsItem_177 : decode cX7_readsItem 177 = .ok (.iconst 1, 1) := by decide +kernel
theorem dX7_readsItem_178 : decode cX7_readsItem 178 = .ok (.bipush 60, 2) := by decide +kernel
theorem dX7_readsItem_180 : decode cX7_readsItem 180 = .ok (.bipush 59, 2) := by decide +kernel
theorem dX7_readsItem_182 : decode cX7_readsItem 182 = .ok (.invokevirtual 73, 3) := by decide +kernel
theorem dX7_readsItem_185 : decode cX7_readsItem 185 = .ok (.istore 4, 2) := by decide +kernel
theorem dX7_readsItem_187 : decode cX7_readsItem 187 = .ok (.iload 4, 2) := by decide +kernel
theorem dX7_readsItem_189 : decode cX7_readsItem 189 = .ok (.ifCond .lt 13, 3) := by decide +kernel
theorem dX7_readsItem_192 : decode cX7_readsItem 192 = .ok (.aload_n 0, 1) := by decide +kernel
theorem dX7_readsItem_193 : decode cX7_readsItem 193 = .ok (.getfield 16, 3) := by decide +kernel
theorem dX7_readsItem_196 : decode cX7_readsItem 196 = .ok (.iconst 1, 1) := by decide +kernel
theorem dX7_readsItem_197 : decode cX7_readsItem 197 = .ok (.iaload, 1) := by decide +kernel
theorem dX7_readsItem_198 : decode cX7_readsItem 198 = .ok (.iconst 4, 1) := by decide +kernel
theorem dX7_readsItem_199 : decode cX7_readsItem 199 = .ok (.if_icmp .ne 5, 3) := by decide +kernel
theorem dX7_readsItem_202 : decode cX7_readsItem 202 = .ok (.iconst 0, 1) := by decide +kernel
theorem dX7_readsItem_203 : decode cX7_readsItem 203 = .ok (.ireturn, 1) := by decide +kernel
theorem dX7_readsItem_204 : decode cX7_readsItem 204 = .ok (.aload_n 0, 1) := by decide +kernel
theorem dX7_readsItem_205 : decode cX7_readsItem 205 = .ok (.iload_n 2, 1) := by decide +kernel
theorem dX7_readsItem_206 : decode cX7_readsItem 206 = .ok (.iload_n 3, 1) := by decide +kernel
theorem dX7_readsItem_207 : decode cX7_readsItem 207 = .ok (.iload 4, 2) := by decide +kernel
theorem dX7_readsItem_209 : decode cX7_readsItem 209 = .ok (.invokevirtual 47, 3) := by decide +kernel
theorem dX7_readsItem_212 : decode cX7_readsItem 212 = .ok (.iconst 1, 1) := by decide +kernel
theorem dX7_readsItem_213 : decode cX7_readsItem 213 = .ok (.ireturn, 1) := by decide +kernel
theorem dX7_readsItem_214 : decode cX7_readsItem 214 = .ok (.aload_n 0, 1) := by decide +kernel
theorem dX7_readsItem_215 : decode cX7_readsItem 215 = .ok (.iconst 1, 1) := by decide +kernel
theorem dX7_readsItem_216 : decode cX7_readsItem 216 = .ok (.bipush 20, 2) := by decide +kernel
theorem dX7_readsItem_218 : decode cX7_readsItem 218 = .ok (.bipush 44, 2) := by decide +kernel
theorem dX7_readsItem_220 : decode cX7_readsItem 220 = .ok (.invokevirtual 73, 3) := by decide +kernel
theorem dX7_readsItem_223 : decode cX7_readsItem 223 = .ok (.istore_n 2, 1) := by decide +kernel
theorem dX7_readsItem_224 : decode cX7_readsItem 224 = .ok (.iload_n 2, 1) := by decide +kernel
theorem dX7_readsItem_225 : decode cX7_readsItem 225 = .ok (.ifCond .ge 7, 3) := by decide +kernel
theorem dX7_readsItem_228 : decode cX7_readsItem 228 = .ok (.iconst (-1), 1) := by decide +kernel
theorem dX7_readsItem_229 : decode cX7_readsItem 229 = .ok (.goto 12, 3) := by decide +kernel
theorem dX7_readsItem_232 : decode cX7_readsItem 232 = .ok (.aload_n 0, 1) := by decide +kernel
theorem dX7_readsItem_233 : decode cX7_readsItem 233 = .ok (.iconst 1, 1) := by decide +kernel
theorem dX7_readsItem_234 : decode cX7_readsItem 234 = .ok (.bipush 9, 2) := by decide +kernel
theorem dX7_readsItem_236 : decode cX7_readsItem 236 = .ok (.bipush 59, 2) := by decide +kernel
theorem dX7_readsItem_238 : decode cX7_readsItem 238 = .ok (.invokevirtual 73, 3) := by decide +kernel
theorem dX7_readsItem_241 : decode cX7_readsItem 241 = .ok (.istore_n 3, 1) := by decide +kernel
theorem dX7_readsItem_242 : decode cX7_readsItem 242 = .ok (.aload_n 0, 1) := by decide +kernel
theorem dX7_readsItem_243 : decode cX7_readsItem 243 = .ok (.getfield 16, 3) := by decide +kernel
theorem dX7_readsItem_246 : decode cX7_readsItem 246 = .ok (.iconst 2, 1) := by decide +kernel
theorem dX7_readsItem_247 : decode cX7_readsItem 247 = .ok (.iload_n 2, 1) := by decide +kernel
theorem dX7_readsItem_248 : decode cX7_readsItem 248 = .ok (.iastore, 1) := by decide +kernel
theorem dX7_readsItem_249 : decode cX7_readsItem 249 = .ok (.aload_n 0, 1) := by decide +kernel
theorem dX7_readsItem_250 : decode cX7_readsItem 250 = .ok (.getfield 16, 3) := by decide +kernel
theorem dX7_readsItem_253 : decode cX7_readsItem 253 = .ok (.iconst 3, 1) := by decide +kernel
theorem dX7_readsItem_254 : decode cX7_readsItem 254 = .ok (.iload_n 3, 1) := by decide +kernel
theorem dX7_readsItem_255 : decode cX7_readsItem 255 = .ok (.iastore, 1) := by decide +kernel
theorem dX7_readsItem_256 : decode cX7_readsItem 256 = .ok (.iload_n 3, 1) := by decide +kernel
theorem dX7_readsItem_257 : decode cX7_readsItem 257 = .ok (.ifCond .le 7, 3) := by decide +kernel
theorem dX7_readsItem_260 : decode cX7_readsItem 260 = .ok (.iconst 1, 1) := by decide +kernel
theorem dX7_readsItem_261 : decode cX7_readsItem 261 = .ok (.goto 4, 3) := by decide +kernel
theorem dX7_readsItem_264 : decode cX7_readsItem 264 = .ok (.iconst 0, 1) := by decide +kernel
theorem dX7_readsItem_265 : decode cX7_readsItem 265 = .ok (.ireturn, 1) := by decide +kernel
theorem dX7_readsItem_266 : decode cX7_readsItem 266 = .ok (.aload_n 0, 1) := by decide +kernel
theorem dX7_readsItem_267 : decode cX7_readsItem 267 = .ok (.getfield 16, 3) := by decide +kernel
theorem dX7_readsItem_270 : decode cX7_readsItem 270 = .ok (.iconst 4, 1) := by decide +kernel
theorem dX7_readsItem_271 : decode cX7_readsItem 271 = .ok (.aload_n 0, 1) := by decide +kernel
theorem dX7_readsItem_272 : decode cX7_readsItem 272 = .ok (.iconst 1, 1) := by decide +kernel
theorem dX7_readsItem_273 : decode cX7_readsItem 273 = .ok (.bipush 30, 2) := by decide +kernel
theorem dX7_readsItem_275 : decode cX7_readsItem 275 = .ok (.bipush 59, 2) := by decide +kernel
theorem dX7_readsItem_277 : decode cX7_readsItem 277 = .ok (.invokevirtual 73, 3) := by decide +kernel
theorem dX7_readsItem_280 : decode cX7_readsItem 280 = .ok (.iastore, 1) := by decide +kernel
theorem dX7_readsItem_281 : decode cX7_readsItem 281 = .ok (.aload_n 0, 1) := by decide +kernel
theorem dX7_readsItem_282 : decode cX7_readsItem 282 = .ok (.getfield 16, 3) := by decide +kernel
theorem dX7_readsItem_285 : decode cX7_readsItem 285 = .ok (.iconst 4, 1) := by decide +kernel
theorem dX7_readsItem_286 : decode cX7_readsItem 286 = .ok (.iaload, 1) := by decide +kernel
theorem dX7_readsItem_287 : decode cX7_readsItem 287 = .ok (.ifCond .le 7, 3) := by decide +kernel
theorem dX7_readsItem_290 : decode cX7_readsItem 290 = .ok (.iconst 1, 1) := by decide +kernel
theorem dX7_readsItem_291 : decode cX7_readsItem 291 = .ok (.goto 4, 3) := by decide +kernel
theorem dX7_readsItem_294 : decode cX7_readsItem 294 = .ok (.iconst 0, 1) := by decide +kernel
theorem dX7_readsItem_295 : decode cX7_readsItem 295 = .ok (.ireturn, 1) := by decide +kernel
theorem dX7_readsItem_296 : decode cX7_readsItem 296 = .ok (.iconst 0, 1) := by decide +kernel
theorem dX7_readsItem_297 : decode cX7_readsItem 297 = .ok (.ireturn, 1) := by decide +kernel
theorem dX7_readsAll_0 : decode cX7_readsAll 0 = .ok (.aload_n 0, 1) := by decide +kernel
theorem dX7_readsAll_1 : decode cX7_readsAll 1 = .ok (.invokevirtual 40, 3) := by decide +kernel
theorem dX7_readsAll_4 : decode cX7_readsAll 4 = .ok (.aload_n 0, 1) := by decide +kernel
theorem dX7_readsAll_5 : decode cX7_readsAll 5 = .ok (.iconst 0, 1) := by decide +kernel
theorem dX7_readsAll_6 : decode cX7_readsAll 6 = .ok (.putfield 62, 3) := by decide +kernel
theorem dX7_readsAll_9 : decode cX7_readsAll 9 = .ok (.aload_n 0, 1) := by decide +kernel
theorem dX7_readsAll_10 : decode cX7_readsAll 10 = .ok (.getfield 62, 3) := by decide +kernel
theorem dX7_readsAll_13 : decode cX7_readsAll 13 = .ok (.aload_n 0, 1) := by decide +kernel
theorem dX7_readsAll_14 : decode cX7_readsAll 14 = .ok (.getfield 58, 3) := by decide +kernel
theorem dX7_readsAll_17 : decode cX7_readsAll 17 = .ok (.if_icmp .ge 36, 3) := by decide +kernel
theorem dX7_readsAll_20 : decode cX7_readsAll 20 = .ok (.aload_n 0, 1) := by decide +kernel
theorem dX7_readsAll_21 : decode cX7_readsAll 21 = .ok (.getfield 62, 3) := by decide +kernel
theorem dX7_readsAll_24 : decode cX7_readsAll 24 = .ok (.istore_n 1, 1) := by decide +kernel
theorem dX7_readsAll_25 : decode cX7_readsAll 25 = .ok (.aload_n 0, 1) := by decide +kernel
theorem dX7_readsAll_26 : decode cX7_readsAll 26 = .ok (.dup, 1) := by decide +kernel
theorem dX7_readsAll_27 : decode cX7_readsAll 27 = .ok (.getfield 62, 3) := by decide +kernel
theorem dX7_readsAll_30 : decode cX7_readsAll 30 = .ok (.iconst 1, 1) := by decide +kernel
theorem dX7_readsAll_31 : decode cX7_readsAll 31 = .ok (.iadd, 1) := by decide +kernel
theorem dX7_readsAll_32 : decode cX7_readsAll 32 = .ok (.putfield 62, 3) := by decide +kernel
theorem dX7_readsAll_35 : decode cX7_readsAll 35 = .ok (.aload_n 0, 1) := by decide +kernel
theorem dX7_readsAll_36 : decode cX7_readsAll 36 = .ok (.aload_n 0, 1) := by decide +kernel
theorem dX7_readsAll_37 : decode cX7_readsAll 37 = .ok (.getfield 7, 3) := by decide +kernel
theorem dX7_readsAll_40 : decode cX7_readsAll 40 = .ok (.iload_n 1, 1) := by decide +kernel
theorem dX7_readsAll_41 : decode cX7_readsAll 41 = .ok (.iaload, 1) := by decide +kernel
theorem dX7_readsAll_42 : decode cX7_readsAll 42 = .ok (.invokevirtual 77, 3) := by decide +kernel
theorem dX7_readsAll_45 : decode cX7_readsAll 45 = .ok (.ifCond .ne 5, 3) := by decide +kernel
theorem dX7_readsAll_48 : decode cX7_readsAll 48 = .ok (.iload_n 1, 1) := by decide +kernel
theorem dX7_readsAll_49 : decode cX7_readsAll 49 = .ok (.ireturn, 1) := by decide +kernel
theorem dX7_readsAll_50 : decode cX7_readsAll 50 = .ok (.goto (-41), 3) := by decide +kernel
theorem dX7_readsAll_53 : decode cX7_readsAll 53 = .ok (.bipush (-4), 2) := by decide +kernel
theorem dX7_readsAll_55 : decode cX7_readsAll 55 = .ok (.ireturn, 1) := by decide +kernel
theorem dX7_fault_0 : decode cX7_fault 0 = .ok (.aload_n 0, 1) := by decide +kernel
theorem dX7_fault_1 : decode cX7_fault 1 = .ok (.invokevirtual 80, 3) := by decide +kernel
theorem dX7_fault_4 : decode cX7_fault 4 = .ok (.ireturn, 1) := by decide +kernel
theorem dX7_lays_0 : decode cX7_lays 0 = .ok (.iconst 0, 1) := by decide +kernel
theorem dX7_lays_1 : decode cX7_lays 1 = .ok (.istore_n 1, 1) := by decide +kernel
theorem dX7_lays_2 : decode cX7_lays 2 = .ok (.iload_n 1, 1) := by decide +kernel
theorem dX7_lays_3 : decode cX7_lays 3 = .ok (.bipush 37, 2) := by decide +kernel
theorem dX7_lays_5 : decode cX7_lays 5 = .ok (.if_icmp .ge 21, 3) := by decide +kernel
theorem dX7_lays_8 : decode cX7_lays 8 = .ok (.aload_n 0, 1) := by decide +kernel
theorem dX7_lays_9 : decode cX7_lays 9 = .ok (.getfield 13, 3) := by decide +kernel
theorem dX7_lays_12 : decode cX7_lays 12 = .ok (.iload_n 1, 1) := by decide +kernel
theorem dX7_lays_13 : decode cX7_lays 13 = .ok (.aload_n 0, 1) := by decide +kernel
theorem dX7_lays_14 : decode cX7_lays 14 = .ok (.getfield 16, 3) := by decide +kernel
theorem dX7_lays_17 : decode cX7_lays 17 = .ok (.iload_n 1, 1) := by decide +kernel
theorem dX7_lays_18 : decode cX7_lays 18 = .ok (.iaload, 1) := by decide +kernel
theorem dX7_lays_19 : decode cX7_lays 19 = .ok (.iastore, 1) := by decide +kernel
theorem dX7_lays_20 : decode cX7_lays 20 = .ok (.iinc 1 1, 3) := by decide +kernel
theorem dX7_lays_23 : decode cX7_lays 23 = .ok (.goto (-21), 3) := by decide +kernel
theorem dX7_lays_26 : decode cX7_lays 26 = .ok (.iconst 0, 1) := by decide +kernel
theorem dX7_lays_27 : decode cX7_lays 27 = .ok (.istore_n 1, 1) := by decide +kernel
theorem dX7_lays_28 : decode cX7_lays 28 = .ok (.iload_n 1, 1) := by decide +kernel
theorem dX7_lays_29 : decode cX7_lays 29 = .ok (.bipush 29, 2) := by decide +kernel
theorem dX7_lays_31 : decode cX7_lays 31 = .ok (.if_icmp .ge 21, 3) := by decide +kernel
theorem dX7_lays_34 : decode cX7_lays 34 = .ok (.aload_n 0, 1) := by decide +kernel
theorem dX7_lays_35 : decode cX7_lays 35 = .ok (.getfield 22, 3) := by decide +kernel
theorem dX7_lays_38 : decode cX7_lays 38 = .ok (.iload_n 1, 1) := by decide +kernel
theorem dX7_lays_39 : decode cX7_lays 39 = .ok (.aload_n 0, 1) := by decide +kernel
theorem dX7_lays_40 : decode cX7_lays 40 = .ok (.getfield 19, 3) := by decide +kernel
theorem dX7_lays_43 : decode cX7_lays 43 = .ok (.iload_n 1, 1) := by decide +kernel
theorem dX7_lays_44 : decode cX7_lays 44 = .ok (.iaload, 1) := by decide +kernel
theorem dX7_lays_45 : decode cX7_lays 45 = .ok (.iastore, 1) := by decide +kernel
theorem dX7_lays_46 : decode cX7_lays 46 = .ok (.iinc 1 1, 3) := by decide +kernel
theorem dX7_lays_49 : decode cX7_lays 49 = .ok (.goto (-21), 3) := by decide +kernel
theorem dX7_lays_52 : decode cX7_lays 52 = .ok (.aload_n 0, 1) := by decide +kernel
theorem dX7_lays_53 : decode cX7_lays 53 = .ok (.iconst 0, 1) := by decide +kernel
theorem dX7_lays_54 : decode cX7_lays 54 = .ok (.putfield 84, 3) := by decide +kernel
theorem dX7_lays_57 : decode cX7_lays 57 = .ok (.aload_n 0, 1) := by decide +kernel
theorem dX7_lays_58 : decode cX7_lays 58 = .ok (.iconst 0, 1) := by decide +kernel
theorem dX7_lays_59 : decode cX7_lays 59 = .ok (.putfield 87, 3) := by decide +kernel
theorem dX7_lays_62 : decode cX7_lays 62 = .ok (.return_, 1) := by decide +kernel
theorem dX7_lay_0 : decode cX7_lay 0 = .ok (.aload_n 0, 1) := by decide +kernel
theorem dX7_lay_1 : decode cX7_lay 1 = .ok (.invokevirtual 80, 3) := by decide +kernel
theorem dX7_lay_4 : decode cX7_lay 4 = .ok (.bipush (-4), 2) := by decide +kernel
theorem dX7_lay_6 : decode cX7_lay 6 = .ok (.if_icmp .ne 21, 3) := by decide +kernel
theorem dX7_lay_9 : decode cX7_lay 9 = .ok (.aload_n 0, 1) := by decide +kernel
theorem dX7_lay_10 : decode cX7_lay 10 = .ok (.getfield 16, 3) := by decide +kernel
theorem dX7_lay_13 : decode cX7_lay 13 = .ok (.iconst 0, 1) := by decide +kernel
theorem dX7_lay_14 : decode cX7_lay 14 = .ok (.iaload, 1) := by decide +kernel
theorem dX7_lay_15 : decode cX7_lay 15 = .ok (.ifCond .eq 12, 3) := by decide +kernel
theorem dX7_lay_18 : decode cX7_lay 18 = .ok (.aload_n 0, 1) := by decide +kernel
theorem dX7_lay_19 : decode cX7_lay 19 = .ok (.getfield 16, 3) := by decide +kernel
theorem dX7_lay_22 : decode cX7_lay 22 = .ok (.iconst 1, 1) := by decide +kernel
theorem dX7_lay_23 : decode cX7_lay 23 = .ok (.iaload, 1) := by decide +kernel
theorem dX7_lay_24 : decode cX7_lay 24 = .ok (.ifCond .ne 6, 3) := by decide +kernel
theorem dX7_lay_27 : decode cX7_lay 27 = .ok (.bipush (-2), 2) := by decide +kernel
theorem dX7_lay_29 : decode cX7_lay 29 = .ok (.ireturn, 1) := by decide +kernel
theorem dX7_lay_30 : decode cX7_lay 30 = .ok (.aload_n 0, 1) := by decide +kernel
theorem dX7_lay_31 : decode cX7_lay 31 = .ok (.invokevirtual 51, 3) := by decide +kernel
theorem dX7_lay_34 : decode cX7_lay 34 = .ok (.aload_n 0, 1) := by decide +kernel
theorem dX7_lay_35 : decode cX7_lay 35 = .ok (.getfield 13, 3) := by decide +kernel
theorem dX7_lay_38 : decode cX7_lay 38 = .ok (.iconst 0, 1) := by decide +kernel
theorem dX7_lay_39 : decode cX7_lay 39 = .ok (.iaload, 1) := by decide +kernel
theorem dX7_lay_40 : decode cX7_lay 40 = .ok (.ireturn, 1) := by decide +kernel
theorem dX7_isDead_0 : decode cX7_isDead 0 = .ok (.iload_n 2, 1) := by decide +kernel
theorem dX7_isDead_1 : decode cX7_isDead 1 = .ok (.aload_n 0, 1) := by decide +kernel
theorem dX7_isDead_2 : decode cX7_isDead 2 = .ok (.getfield 22, 3) := by decide +kernel
theorem dX7_isDead_5 : decode cX7_isDead 5 = .ok (.iload_n 1, 1) := by decide +kernel
theorem dX7_isDead_6 : decode cX7_isDead 6 = .ok (.iaload, 1) := by decide +kernel
theorem dX7_isDead_7 : decode cX7_isDead 7 = .ok (.if_icmp .lt 7, 3) := by decide +kernel
theorem dX7_isDead_10 : decode cX7_isDead 10 = .ok (.iconst 1, 1) := by decide +kernel
theorem dX7_isDead_11 : decode cX7_isDead 11 = .ok (.goto 4, 3) := by decide +kernel
theorem dX7_isDead_14 : decode cX7_isDead 14 = .ok (.iconst 0, 1) := by decide +kernel
theorem dX7_isDead_15 : decode cX7_isDead 15 = .ok (.ireturn, 1) := by decide +kernel
theorem dX7_isFallen_0 : decode cX7_isFallen 0 = .ok (.iload_n 2, 1) := by decide +kernel
theorem dX7_isFallen_1 : decode cX7_isFallen 1 = .ok (.aload_n 0, 1) := by decide +kernel
theorem dX7_isFallen_2 : decode cX7_isFallen 2 = .ok (.getfield 22, 3) := by decide +kernel
theorem dX7_isFallen_5 : decode cX7_isFallen 5 = .ok (.iload_n 1, 1) := by decide +kernel
theorem dX7_isFallen_6 : decode cX7_isFallen 6 = .ok (.iaload, 1) := by decide +kernel
theorem dX7_isFallen_7 : decode cX7_isFallen 7 = .ok (.aload_n 0, 1) := by decide +kernel
theorem dX7_isFallen_8 : decode cX7_isFallen 8 = .ok (.getfield 13, 3) := by decide +kernel
theorem dX7_isFallen_11 : decode cX7_isFallen 11 = .ok (.iconst 4, 1) := by decide +kernel
theorem dX7_isFallen_12 : decode cX7_isFallen 12 = .ok (.iaload, 1) := by decide +kernel
theorem dX7_isFallen_13 : decode cX7_isFallen 13 = .ok (.iadd, 1) := by decide +kernel
theorem dX7_isFallen_14 : decode cX7_isFallen 14 = .ok (.if_icmp .lt 7, 3) := by decide +kernel
theorem dX7_isFallen_17 : decode cX7_isFallen 17 = .ok (.iconst 1, 1) := by decide +kernel
theorem dX7_isFallen_18 : decode cX7_isFallen 18 = .ok (.goto 4, 3) := by decide +kernel
theorem dX7_isFallen_21 : decode cX7_isFallen 21 = .ok (.iconst 0, 1) := by decide +kernel
theorem dX7_isFallen_22 : decode cX7_isFallen 22 = .ok (.ireturn, 1) := by decide +kernel
theorem dX7_bough_0 : decode cX7_bough 0 = .ok (.aload_n 0, 1) := by decide +kernel
theorem dX7_bough_1 : decode cX7_bough 1 = .ok (.iload_n 1, 1) := by decide +kernel
theorem dX7_bough_2 : decode cX7_bough 2 = .ok (.invokevirtual 90, 3) := by decide +kernel
theorem dX7_bough_5 : decode cX7_bough 5 = .ok (.ifCond .ne 5, 3) := by decide +kernel
theorem dX7_bough_8 : decode cX7_bough 8 = .ok (.iconst (-1), 1) := by decide +kernel
theorem dX7_bough_9 : decode cX7_bough 9 = .ok (.ireturn, 1) := by decide +kernel
theorem dX7_bough_10 : decode cX7_bough 10 = .ok (.iload_n 2, 1) := by decide +kernel
theorem dX7_bough_11 : decode cX7_bough 11 = .ok (.tableswitch 129 0 6 #[41, 50, 60, 70, 77, 98, 119], 41) := by decide +kernel
theorem dX7_bough_52 : decode cX7_bough 52 = .ok (.aload_n 0, 1) := by decide +kernel
theorem dX7_bough_53 : decode cX7_bough 53 = .ok (.getfield 13, 3) := by decide +kernel
theorem dX7_bough_56 : decode cX7_bough 56 = .ok (.iconst 5, 1) := by decide +kernel
theorem dX7_bough_57 : decode cX7_bough 57 = .ok (.iload_n 1, 1) := by decide +kernel
theorem dX7_bough_58 : decode cX7_bough 58 = .ok (.iadd, 1) := by decide +kernel
theorem dX7_bough_59 : decode cX7_bough 59 = .ok (.iaload, 1) := by decide +kernel
theorem dX7_bough_60 : decode cX7_bough 60 = .ok (.ireturn, 1) := by decide +kernel
theorem dX7_bough_61 : decode cX7_bough 61 = .ok (.aload_n 0, 1) := by decide +kernel
theorem dX7_bough_62 : decode cX7_bough 62 = .ok (.getfield 13, 3) := by decide +kernel
theorem dX7_bough_65 : decode cX7_bough 65 = .ok (.bipush 13, 2) := by decide +kernel
theorem dX7_bough_67 : decode cX7_bough 67 = .ok (.iload_n 1, 1) := by decide +kernel
theorem dX7_bough_68 : decode cX7_bough 68 = .ok (.iadd, 1) := by decide +kernel
theorem dX7_bough_69 : decode cX7_bough 69 = .ok (.iaload, 1) := by decide +kernel
theorem dX7_bough_70 : decode cX7_bough 70 = .ok (.ireturn, 1) := by decide +kernel
theorem dX7_bough_71 : decode cX7_bough 71 = .ok (.aload_n 0, 1) := by decide +kernel
theorem dX7_bough_72 : decode cX7_bough 72 = .ok (.getfield 13, 3) := by decide +kernel
theorem dX7_bough_75 : decode cX7_bough 75 = .ok (.bipush 21, 2) := by decide +kernel
theorem dX7_bough_77 : decode cX7_bough 77 = .ok (.iload_n 1, 1) := by decide +kernel
theorem dX7_bough_78 : decode cX7_bough 78 = .ok (.iadd, 1) := by decide +kernel
theorem dX7_bough_79 : decode cX7_bough 79 = .ok (.iaload, 1) := by decide +kernel
theorem dX7_bough_80 : decode cX7_bough 80 = .ok (.ireturn, 1) := by decide +kernel
theorem dX7_bough_81 : decode cX7_bough 81 = .ok (.aload_n 0, 1) := by decide +kernel
theorem dX7_bough_82 : decode cX7_bough 82 = .ok (.getfield 22, 3) := by decide +kernel
theorem dX7_bough_85 : decode cX7_bough 85 = .ok (.iload_n 1, 1) := by decide +kernel
theorem dX7_bough_86 : decode cX7_bough 86 = .ok (.iaload, 1) := by decide +kernel
theorem dX7_bough_87 : decode cX7_bough 87 = .ok (.ireturn, 1) := by decide +kernel
theorem dX7_bough_88 : decode cX7_bough 88 = .ok (.aload_n 0, 1) := by decide +kernel
theorem dX7_bough_89 : decode cX7_bough 89 = .ok (.iload_n 1, 1) := by decide +kernel
theorem dX7_bough_90 : decode cX7_bough 90 = .ok (.aload_n 0, 1) := by decide +kernel
theorem dX7_bough_91 : decode cX7_bough 91 = .ok (.getfield 22, 3) := by decide +kernel
theorem dX7_bough_94 : decode cX7_bough 94 = .ok (.bipush 28, 2) := by decide +kernel
theorem dX7_bough_96 : decode cX7_bough 96 = .ok (.iaload, 1) := by decide +kernel
theorem dX7_bough_97 : decode cX7_bough 97 = .ok (.invokevirtual 93, 3) := by decide +kernel
theorem dX7_bough_100 : decode cX7_bough 100 = .ok (.ifCond .eq 7, 3) := by decide +kernel
theorem dX7_bough_103 : decode cX7_bough 103 = .ok (.iconst 1, 1) := by decide +kernel
theorem dX7_bough_104 : decode cX7_bough 104 = .ok (.goto 4, 3) := by decide +kernel
theorem dX7_bough_107 : decode cX7_bough 107 = .ok (.iconst 0, 1) := by decide +kernel
theorem dX7_bough_108 : decode cX7_bough 108 = .ok (.ireturn, 1) := by decide +kernel
theorem dX7_bough_109 : decode cX7_bough 109 = .ok (.aload_n 0, 1) := by decide +kernel
theorem dX7_bough_110 : decode cX7_bough 110 = .ok (.iload_n 1, 1) := by decide +kernel
theorem dX7_bough_111 : decode cX7_bough 111 = .ok (.aload_n 0, 1) := by decide +kernel
theorem dX7_bough_112 : decode cX7_bough 112 = .ok (.getfield 22, 3) := by decide +kernel
theorem dX7_bough_115 : decode cX7_bough 115 = .ok (.bipush 28, 2) := by decide +kernel
theorem dX7_bough_117 : decode cX7_bough 117 = .ok (.iaload, 1) := by decide +kernel
theorem dX7_bough_118 : decode cX7_bough 118 = .ok (.invokevirtual 97, 3) := by decide +kernel
theorem dX7_bough_121 : decode cX7_bough 121 = .ok (.ifCond .eq 7, 3) := by decide +kernel
theorem dX7_bough_124 : decode cX7_bough 124 = .ok (.iconst 1, 1) := by decide +kernel
theorem dX7_bough_125 : decode cX7_bough 125 = .ok (.goto 4, 3) := by decide +kernel
theorem dX7_bough_128 : decode cX7_bough 128 = .ok (.iconst 0, 1) := by decide +kernel
theorem dX7_bough_129 : decode cX7_bough 129 = .ok (.ireturn, 1) := by decide +kernel
theorem dX7_bough_130 : decode cX7_bough 130 = .ok (.aload_n 0, 1) := by decide +kernel
theorem dX7_bough_131 : decode cX7_bough 131 = .ok (.getfield 22, 3) := by decide +kernel
theorem dX7_bough_134 : decode cX7_bough 134 = .ok (.bipush 8, 2) := by decide +kernel
theorem dX7_bough_136 : decode cX7_bough 136 = .ok (.iload_n 1, 1) := by decide +kernel
theorem dX7_bough_137 : decode cX7_bough 137 = .ok (.iadd, 1) := by decide +kernel
theorem dX7_bough_138 : decode cX7_bough 138 = .ok (.iaload, 1) := by decide +kernel
theorem dX7_bough_139 : decode cX7_bough 139 = .ok (.ireturn, 1) := by decide +kernel
theorem dX7_bough_140 : decode cX7_bough 140 = .ok (.iconst (-1), 1) := by decide +kernel
theorem dX7_bough_141 : decode cX7_bough 141 = .ok (.ireturn, 1) := by decide +kernel
theorem dX7_isWarm_0 : decode cX7_isWarm 0 = .ok (.aload_n 0, 1) := by decide +kernel
theorem dX7_isWarm_1 : decode cX7_isWarm 1 = .ok (.getfield 22, 3) := by decide +kernel
theorem dX7_isWarm_4 : decode cX7_isWarm 4 = .ok (.bipush 20, 2) := by decide +kernel
theorem dX7_isWarm_6 : decode cX7_isWarm 6 = .ok (.iload_n 1, 1) := by decide +kernel
theorem dX7_isWarm_7 : decode cX7_isWarm 7 = .ok (.iadd, 1) := by decide +kernel
theorem dX7_isWarm_8 : decode cX7_isWarm 8 = .ok (.iaload, 1) := by decide +kernel
theorem dX7_isWarm_9 : decode cX7_isWarm 9 = .ok (.aload_n 0, 1) := by decide +kernel
theorem dX7_isWarm_10 : decode cX7_isWarm 10 = .ok (.getfield 13, 3) := by decide +kernel
theorem dX7_isWarm_13 : decode cX7_isWarm 13 = .ok (.bipush 33, 2) := by decide +kernel
theorem dX7_isWarm_15 : decode cX7_isWarm 15 = .ok (.iload_n 1, 1) := by decide +kernel
theorem dX7_isWarm_16 : decode cX7_isWarm 16 = .ok (.iadd, 1) := by decide +kernel
theorem dX7_isWarm_17 : decode cX7_isWarm 17 = .ok (.iaload, 1) := by decide +kernel
theorem dX7_isWarm_18 : decode cX7_isWarm 18 = .ok (.if_icmp .lt 7, 3) := by decide +kernel
theorem dX7_isWarm_21 : decode cX7_isWarm 21 = .ok (.iconst 1, 1) := by decide +kernel
theorem dX7_isWarm_22 : decode cX7_isWarm 22 = .ok (.goto 4, 3) := by decide +kernel
theorem dX7_isWarm_25 : decode cX7_isWarm 25 = .ok (.iconst 0, 1) := by decide +kernel
theorem dX7_isWarm_26 : decode cX7_isWarm 26 = .ok (.ireturn, 1) := by decide +kernel
theorem dX7_tenant_0 : decode cX7_tenant 0 = .ok (.aload_n 0, 1) := by decide +kernel
theorem dX7_tenant_1 : decode cX7_tenant 1 = .ok (.iload_n 1, 1) := by decide +kernel
theorem dX7_tenant_2 : decode cX7_tenant 2 = .ok (.invokevirtual 100, 3) := by decide +kernel
theorem dX7_tenant_5 : decode cX7_tenant 5 = .ok (.ifCond .ne 5, 3) := by decide +kernel
theorem dX7_tenant_8 : decode cX7_tenant 8 = .ok (.iconst (-1), 1) := by decide +kernel
theorem dX7_tenant_9 : decode cX7_tenant 9 = .ok (.ireturn, 1) := by decide +kernel
theorem dX7_tenant_10 : decode cX7_tenant 10 = .ok (.iload_n 2, 1) := by decide +kernel
theorem dX7_tenant_11 : decode cX7_tenant 11 = .ok (.tableswitch 101 0 5 #[37, 47, 57, 67, 77, 87], 37) := by decide +kernel
theorem dX7_tenant_48 : decode cX7_tenant 48 = .ok (.aload_n 0, 1) := by decide +kernel
theorem dX7_tenant_49 : decode cX7_tenant 49 = .ok (.getfield 22, 3) := by decide +kernel
theorem dX7_tenant_52 : decode cX7_tenant 52 = .ok (.bipush 16, 2) := by decide +kernel
theorem dX7_tenant_54 : decode cX7_tenant 54 = .ok (.iload_n 1, 1) := by decide +kernel
theorem dX7_tenant_55 : decode cX7_tenant 55 = .ok (.iadd, 1) := by decide +kernel
theorem dX7_tenant_56 : decode cX7_tenant 56 = .ok (.iaload, 1) := by decide +kernel
theorem dX7_tenant_57 : decode cX7_tenant 57 = .ok (.ireturn, 1) := by decide +kernel
theorem dX7_tenant_58 : decode cX7_tenant 58 = .ok (.aload_n 0, 1) := by decide +kernel
theorem dX7_tenant_59 : decode cX7_tenant 59 = .ok (.getfield 13, 3) := by decide +kernel
theorem dX7_tenant_62 : decode cX7_tenant 62 = .ok (.bipush 29, 2) := by decide +kernel
theorem dX7_tenant_64 : decode cX7_tenant 64 = .ok (.iload_n 1, 1) := by decide +kernel
theorem dX7_tenant_65 : decode cX7_tenant 65 = .ok (.iadd, 1) := by decide +kernel
theorem dX7_tenant_66 : decode cX7_tenant 66 = .ok (.iaload, 1) := by decide +kernel
theorem dX7_tenant_67 : decode cX7_tenant 67 = .ok (.ireturn, 1) := by decide +kernel
theorem dX7_tenant_68 : decode cX7_tenant 68 = .ok (.aload_n 0, 1) := by decide +kernel
theorem dX7_tenant_69 : decode cX7_tenant 69 = .ok (.getfield 13, 3) := by decide +kernel
theorem dX7_tenant_72 : decode cX7_tenant 72 = .ok (.bipush 33, 2) := by decide +kernel
theorem dX7_tenant_74 : decode cX7_tenant 74 = .ok (.iload_n 1, 1) := by decide +kernel
theorem dX7_tenant_75 : decode cX7_tenant 75 = .ok (.iadd, 1) := by decide +kernel
theorem dX7_tenant_76 : decode cX7_tenant 76 = .ok (.iaload, 1) := by decide +kernel
theorem dX7_tenant_77 : decode cX7_tenant 77 = .ok (.ireturn, 1) := by decide +kernel
theorem dX7_tenant_78 : decode cX7_tenant 78 = .ok (.aload_n 0, 1) := by decide +kernel
theorem dX7_tenant_79 : decode cX7_tenant 79 = .ok (.getfield 22, 3) := by decide +kernel
theorem dX7_tenant_82 : decode cX7_tenant 82 = .ok (.bipush 20, 2) := by decide +kernel
theorem dX7_tenant_84 : decode cX7_tenant 84 = .ok (.iload_n 1, 1) := by decide +kernel
theorem dX7_tenant_85 : decode cX7_tenant 85 = .ok (.iadd, 1) := by decide +kernel
theorem dX7_tenant_86 : decode cX7_tenant 86 = .ok (.iaload, 1) := by decide +kernel
theorem dX7_tenant_87 : decode cX7_tenant 87 = .ok (.ireturn, 1) := by decide +kernel
theorem dX7_tenant_88 : decode cX7_tenant 88 = .ok (.aload_n 0, 1) := by decide +kernel
theorem dX7_tenant_89 : decode cX7_tenant 89 = .ok (.getfield 22, 3) := by decide +kernel
theorem dX7_tenant_92 : decode cX7_tenant 92 = .ok (.bipush 24, 2) := by decide +kernel
theorem dX7_tenant_94 : decode cX7_tenant 94 = .ok (.iload_n 1, 1) := by decide +kernel
theorem dX7_tenant_95 : decode cX7_tenant 95 = .ok (.iadd, 1) := by decide +kernel
theorem dX7_tenant_96 : decode cX7_tenant 96 = .ok (.iaload, 1) := by decide +kernel
theorem dX7_tenant_97 : decode cX7_tenant 97 = .ok (.ireturn, 1) := by decide +kernel
theorem dX7_tenant_98 : decode cX7_tenant 98 = .ok (.aload_n 0, 1) := by decide +kernel
theorem dX7_tenant_99 : decode cX7_tenant 99 = .ok (.iload_n 1, 1) := by decide +kernel
theorem dX7_tenant_100 : decode cX7_tenant 100 = .ok (.invokevirtual 103, 3) := by decide +kernel
theorem dX7_tenant_103 : decode cX7_tenant 103 = .ok (.ifCond .eq 7, 3) := by decide +kernel
theorem dX7_tenant_106 : decode cX7_tenant 106 = .ok (.iconst 1, 1) := by decide +kernel
theorem dX7_tenant_107 : decode cX7_tenant 107 = .ok (.goto 4, 3) := by decide +kernel
theorem dX7_tenant_110 : decode cX7_tenant 110 = .ok (.iconst 0, 1) := by decide +kernel
theorem dX7_tenant_111 : decode cX7_tenant 111 = .ok (.ireturn, 1) := by decide +kernel
theorem dX7_tenant_112 : decode cX7_tenant 112 = .ok (.iconst (-1), 1) := by decide +kernel
theorem dX7_tenant_113 : decode cX7_tenant 113 = .ok (.ireturn, 1) := by decide +kernel
theorem dX7_could_0 : decode cX7_could 0 = .ok (.aload_n 0, 1) := by decide +kernel
theorem dX7_could_1 : decode cX7_could 1 = .ok (.getfield 13, 3) := by decide +kernel
theorem dX7_could_4 : decode cX7_could 4 = .ok (.iconst 5, 1) := by decide +kernel
theorem dX7_could_5 : decode cX7_could 5 = .ok (.iload_n 2, 1) := by decide +kernel
theorem dX7_could_6 : decode cX7_could 6 = .ok (.iadd, 1) := by decide +kernel
theorem dX7_could_7 : decode cX7_could 7 = .ok (.iaload, 1) := by decide +kernel
theorem dX7_could_8 : decode cX7_could 8 = .ok (.istore 5, 2) := by decide +kernel
theorem dX7_could_10 : decode cX7_could 10 = .ok (.aload_n 0, 1) := by decide +kernel
theorem dX7_could_11 : decode cX7_could 11 = .ok (.getfield 22, 3) := by decide +kernel
theorem dX7_could_14 : decode cX7_could 14 = .ok (.bipush 16, 2) := by decide +kernel
theorem dX7_could_16 : decode cX7_could 16 = .ok (.iload_n 1, 1) := by decide +kernel
theorem dX7_could_17 : decode cX7_could 17 = .ok (.iadd, 1) := by decide +kernel
theorem dX7_could_18 : decode cX7_could 18 = .ok (.iaload, 1) := by decide +kernel
theorem dX7_could_19 : decode cX7_could 19 = .ok (.istore 6, 2) := by decide +kernel
theorem dX7_could_21 : decode cX7_could 21 = .ok (.aload_n 0, 1) := by decide +kernel
theorem dX7_could_22 : decode cX7_could 22 = .ok (.getfield 13, 3) := by decide +kernel
theorem dX7_could_25 : decode cX7_could 25 = .ok (.bipush 13, 2) := by decide +kernel
theorem dX7_could_27 : decode cX7_could 27 = .ok (.iload_n 2, 1) := by decide +kernel
theorem dX7_could_28 : decode cX7_could 28 = .ok (.iadd, 1) := by decide +kernel
theorem dX7_could_29 : decode cX7_could 29 = .ok (.iaload, 1) := by decide +kernel
theorem dX7_could_30 : decode cX7_could 30 = .ok (.istore 7, 2) := by decide +kernel
theorem dX7_could_32 : decode cX7_could 32 = .ok (.iload 5, 2) := by decide +kernel
theorem dX7_could_34 : decode cX7_could 34 = .ok (.ifCond .ne 18, 3) := by decide +kernel
theorem dX7_could_37 : decode cX7_could 37 = .ok (.iload 7, 2) := by decide +kernel
theorem dX7_could_39 : decode cX7_could 39 = .ok (.iload 6, 2) := by decide +kernel
theorem dX7_could_41 : decode cX7_could 41 = .ok (.if_icmp .gt 7, 3) := by decide +kernel
theorem dX7_could_44 : decode cX7_could 44 = .ok (.iconst 1, 1) := by decide +kernel
theorem dX7_could_45 : decode cX7_could 45 = .ok (.goto 41, 3) := by decide +kernel
theorem dX7_could_48 : decode cX7_could 48 = .ok (.iconst 0, 1) := by decide +kernel
theorem dX7_could_49 : decode cX7_could 49 = .ok (.goto 37, 3) := by decide +kernel
theorem dX7_could_52 : decode cX7_could 52 = .ok (.iload 5, 2) := by decide +kernel
theorem dX7_could_54 : decode cX7_could 54 = .ok (.iconst 2, 1) := by decide +kernel
theorem dX7_could_55 : decode cX7_could 55 = .ok (.if_icmp .ne 20, 3) := by decide +kernel
theorem dX7_could_58 : decode cX7_could 58 = .ok (.iload 7, 2) := by decide +kernel
theorem dX7_could_60 : decode cX7_could 60 = .ok (.iconst 3, 1) := by decide +kernel
theorem dX7_could_61 : decode cX7_could 61 = .ok (.iadd, 1) := by decide +kernel
theorem dX7_could_62 : decode cX7_could 62 = .ok (.iload 6, 2) := by decide +kernel
theorem dX7_could_64 : decode cX7_could 64 = .ok (.if_icmp .gt 7, 3) := by decide +kernel
theorem dX7_could_67 : decode cX7_could 67 = .ok (.iconst 1, 1) := by decide +kernel
theorem dX7_could_68 : decode cX7_could 68 = .ok (.goto 18, 3) := by decide +kernel
theorem dX7_could_71 : decode cX7_could 71 = .ok (.iconst 0, 1) := by decide +kernel
theorem dX7_could_72 : decode cX7_could 72 = .ok (.goto 14, 3) := by decide +kernel
theorem dX7_could_75 : decode cX7_could 75 = .ok (.iload 5, 2) := by decide +kernel
theorem dX7_could_77 : decode cX7_could 77 = .ok (.iconst 3, 1) := by decide +kernel
theorem dX7_could_78 : decode cX7_could 78 = .ok (.if_icmp .ne 7, 3) := by decide +kernel
theorem dX7_could_81 : decode cX7_could 81 = .ok (.iconst 1, 1) := by decide +kernel
theorem dX7_could_82 : decode cX7_could 82 = .ok (.goto 4, 3) := by decide +kernel
theorem dX7_could_85 : decode cX7_could 85 = .ok (.iconst 0, 1) := by decide +kernel
theorem dX7_could_86 : decode cX7_could 86 = .ok (.istore 8, 2) := by decide +kernel
theorem dX7_could_88 : decode cX7_could 88 = .ok (.aload_n 0, 1) := by decide +kernel
theorem dX7_could_89 : decode cX7_could 89 = .ok (.iload_n 2, 1) := by decide +kernel
theorem dX7_could_90 : decode cX7_could 90 = .ok (.iload_n 3, 1) := by decide +kernel
theorem dX7_could_91 : decode cX7_could 91 = .ok (.invokevirtual 93, 3) := by decide +kernel
theorem dX7_could_94 : decode cX7_could 94 = .ok (.ifCond .eq 45, 3) := by decide +kernel
theorem dX7_could_97 : decode cX7_could 97 = .ok (.iload 8, 2) := by decide +kernel
theorem dX7_could_99 : decode cX7_could 99 = .ok (.ifCond .ne 12, 3) := by decide +kernel
theorem dX7_could_102 : decode cX7_could 102 = .ok (.aload_n 0, 1) := by decide +kernel
theorem dX7_could_103 : decode cX7_could 103 = .ok (.iload_n 2, 1) := by decide +kernel
theorem dX7_could_104 : decode cX7_could 104 = .ok (.iload_n 3, 1) := by decide +kernel
theorem dX7_could_105 : decode cX7_could 105 = .ok (.invokevirtual 97, 3) := by decide +kernel
theorem dX7_could_108 : decode cX7_could 108 = .ok (.ifCond .eq 31, 3) := by decide +kernel
theorem dX7_could_111 : decode cX7_could 111 = .ok (.iload 4, 2) := by decide +kernel
theorem dX7_could_113 : decode cX7_could 113 = .ok (.aload_n 0, 1) := by decide +kernel
theorem dX7_could_114 : decode cX7_could 114 = .ok (.getfield 13, 3) := by decide +kernel
theorem dX7_could_117 : decode cX7_could 117 = .ok (.bipush 21, 2) := by decide +kernel
theorem dX7_could_119 : decode cX7_could 119 = .ok (.iload_n 2, 1) := by decide +kernel
theorem dX7_could_120 : decode cX7_could 120 = .ok (.iadd, 1) := by decide +kernel
theorem dX7_could_121 : decode cX7_could 121 = .ok (.iaload, 1) := by decide +kernel
theorem dX7_could_122 : decode cX7_could 122 = .ok (.iadd, 1) := by decide +kernel
theorem dX7_could_123 : decode cX7_could 123 = .ok (.aload_n 0, 1) := by decide +kernel
theorem dX7_could_124 : decode cX7_could 124 = .ok (.getfield 13, 3) := by decide +kernel
theorem dX7_could_127 : decode cX7_could 127 = .ok (.bipush 29, 2) := by decide +kernel
theorem dX7_could_129 : decode cX7_could 129 = .ok (.iload_n 1, 1) := by decide +kernel
theorem dX7_could_130 : decode cX7_could 130 = .ok (.iadd, 1) := by decide +kernel
theorem dX7_could_131 : decode cX7_could 131 = .ok (.iaload, 1) := by decide +kernel
theorem dX7_could_132 : decode cX7_could 132 = .ok (.if_icmp .gt 7, 3) := by decide +kernel
theorem dX7_could_135 : decode cX7_could 135 = .ok (.iconst 1, 1) := by decide +kernel
theorem dX7_could_136 : decode cX7_could 136 = .ok (.goto 4, 3) := by decide +kernel
theorem dX7_could_139 : decode cX7_could 139 = .ok (.iconst 0, 1) := by decide +kernel
theorem dX7_could_140 : decode cX7_could 140 = .ok (.ireturn, 1) := by decide +kernel
theorem dX7_canNow_0 : decode cX7_canNow 0 = .ok (.aload_n 0, 1) := by decide +kernel
theorem dX7_canNow_1 : decode cX7_canNow 1 = .ok (.getfield 22, 3) := by decide +kernel
theorem dX7_canNow_4 : decode cX7_canNow 4 = .ok (.bipush 8, 2) := by decide +kernel
theorem dX7_canNow_6 : decode cX7_canNow 6 = .ok (.iload_n 2, 1) := by decide +kernel
theorem dX7_canNow_7 : decode cX7_canNow 7 = .ok (.iadd, 1) := by decide +kernel
theorem dX7_canNow_8 : decode cX7_canNow 8 = .ok (.iaload, 1) := by decide +kernel
theorem dX7_canNow_9 : decode cX7_canNow 9 = .ok (.ifCond .ne 32, 3) := by decide +kernel
theorem dX7_canNow_12 : decode cX7_canNow 12 = .ok (.aload_n 0, 1) := by decide +kernel
theorem dX7_canNow_13 : decode cX7_canNow 13 = .ok (.iload_n 1, 1) := by decide +kernel
theorem dX7_canNow_14 : decode cX7_canNow 14 = .ok (.iload_n 2, 1) := by decide +kernel
theorem dX7_canNow_15 : decode cX7_canNow 15 = .ok (.aload_n 0, 1) := by decide +kernel
theorem dX7_canNow_16 : decode cX7_canNow 16 = .ok (.getfield 22, 3) := by decide +kernel
theorem dX7_canNow_19 : decode cX7_canNow 19 = .ok (.bipush 28, 2) := by decide +kernel
theorem dX7_canNow_21 : decode cX7_canNow 21 = .ok (.iaload, 1) := by decide +kernel
theorem dX7_canNow_22 : decode cX7_canNow 22 = .ok (.aload_n 0, 1) := by decide +kernel
theorem dX7_canNow_23 : decode cX7_canNow 23 = .ok (.getfield 22, 3) := by decide +kernel
theorem dX7_canNow_26 : decode cX7_canNow 26 = .ok (.bipush 24, 2) := by decide +kernel
theorem dX7_canNow_28 : decode cX7_canNow 28 = .ok (.iload_n 1, 1) := by decide +kernel
theorem dX7_canNow_29 : decode cX7_canNow 29 = .ok (.iadd, 1) := by decide +kernel
theorem dX7_canNow_30 : decode cX7_canNow 30 = .ok (.iaload, 1) := by decide +kernel
theorem dX7_canNow_31 : decode cX7_canNow 31 = .ok (.invokevirtual 106, 3) := by decide +kernel
theorem dX7_canNow_34 : decode cX7_canNow 34 = .ok (.ifCond .eq 7, 3) := by decide +kernel
theorem dX7_canNow_37 : decode cX7_canNow 37 = .ok (.iconst 1, 1) := by decide +kernel
theorem dX7_canNow_38 : decode cX7_canNow 38 = .ok (.goto 4, 3) := by decide +kernel
theorem dX7_canNow_41 : decode cX7_canNow 41 = .ok (.iconst 0, 1) := by decide +kernel
theorem dX7_canNow_42 : decode cX7_canNow 42 = .ok (.ireturn, 1) := by decide +kernel
theorem dX7_keeps_0 : decode cX7_keeps 0 = .ok (.aload_n 0, 1) := by decide +kernel
theorem dX7_keeps_1 : decode cX7_keeps 1 = .ok (.getfield 84, 3) := by decide +kernel
theorem dX7_keeps_4 : decode cX7_keeps 4 = .ok (.bipush 8, 2) := by decide +kernel
theorem dX7_keeps_6 : decode cX7_keeps 6 = .ok (.if_icmp .ne 43, 3) := by decide +kernel
theorem dX7_keeps_9 : decode cX7_keeps 9 = .ok (.iconst 0, 1) := by decide +kernel
theorem dX7_keeps_10 : decode cX7_keeps 10 = .ok (.istore_n 1, 1) := by decide +kernel
theorem dX7_keeps_11 : decode cX7_keeps 11 = .ok (.iload_n 1, 1) := by decide +kernel
theorem dX7_keeps_12 : decode cX7_keeps 12 = .ok (.sipush 203, 3) := by decide +kernel
theorem dX7_keeps_15 : decode cX7_keeps 15 = .ok (.if_icmp .ge 24, 3) := by decide +kernel
theorem dX7_keeps_18 : decode cX7_keeps 18 = .ok (.aload_n 0, 1) := by decide +kernel
theorem dX7_keeps_19 : decode cX7_keeps 19 = .ok (.getfield 25, 3) := by decide +kernel
theorem dX7_keeps_22 : decode cX7_keeps 22 = .ok (.iload_n 1, 1) := by decide +kernel
theorem dX7_keeps_23 : decode cX7_keeps 23 = .ok (.aload_n 0, 1) := by decide +kernel
theorem dX7_keeps_24 : decode cX7_keeps 24 = .ok (.getfield 25, 3) := by decide +kernel
theorem dX7_keeps_27 : decode cX7_keeps 27 = .ok (.iload_n 1, 1) := by decide +kernel
theorem dX7_keeps_28 : decode cX7_keeps 28 = .ok (.bipush 29, 2) := by decide +kernel
theorem dX7_keeps_30 : decode cX7_keeps 30 = .ok (.iadd, 1) := by decide +kernel
theorem dX7_keeps_31 : decode cX7_keeps 31 = .ok (.iaload, 1) := by decide +kernel
theorem dX7_keeps_32 : decode cX7_keeps 32 = .ok (.iastore, 1) := by decide +kernel
theorem dX7_keeps_33 : decode cX7_keeps 33 = .ok (.iinc 1 1, 3) := by decide +kernel
theorem dX7_keeps_36 : decode cX7_keeps 36 = .ok (.goto (-25), 3) := by decide +kernel
theorem dX7_keeps_39 : decode cX7_keeps 39 = .ok (.aload_n 0, 1) := by decide +kernel
theorem dX7_keeps_40 : decode cX7_keeps 40 = .ok (.dup, 1) := by decide +kernel
theorem dX7_keeps_41 : decode cX7_keeps 41 = .ok (.getfield 84, 3) := by decide +kernel
theorem dX7_keeps_44 : decode cX7_keeps 44 = .ok (.iconst 1, 1) := by decide +kernel
theorem dX7_keeps_45 : decode cX7_keeps 45 = .ok (.isub, 1) := by decide +kernel
theorem dX7_keeps_46 : decode cX7_keeps 46 = .ok (.putfield 84, 3) := by decide +kernel
theorem dX7_keeps_49 : decode cX7_keeps 49 = .ok (.iconst 0, 1) := by decide +kernel
theorem dX7_keeps_50 : decode cX7_keeps 50 = .ok (.istore_n 1, 1) := by decide +kernel
theorem dX7_keeps_51 : decode cX7_keeps 51 = .ok (.iload_n 1, 1) := by decide +kernel
theorem dX7_keeps_52 : decode cX7_keeps 52 = .ok (.bipush 29, 2) := by decide +kernel
theorem dX7_keeps_54 : decode cX7_keeps 54 = .ok (.if_icmp .ge 29, 3) := by decide +kernel
theorem dX7_keeps_57 : decode cX7_keeps 57 = .ok (.aload_n 0, 1) := by decide +kernel
theorem dX7_keeps_58 : decode cX7_keeps 58 = .ok (.getfield 25, 3) := by decide +kernel
theorem dX7_keeps_61 : decode cX7_keeps 61 = .ok (.bipush 29, 2) := by decide +kernel
theorem dX7_keeps_63 : decode cX7_keeps 63 = .ok (.aload_n 0, 1) := by decide +kernel
theorem dX7_keeps_64 : decode cX7_keeps 64 = .ok (.getfield 84, 3) := by decide +kernel
theorem dX7_keeps_67 : decode cX7_keeps 67 = .ok (.imul, 1) := by decide +kernel
theorem dX7_keeps_68 : decode cX7_keeps 68 = .ok (.iload_n 1, 1) := by decide +kernel
theorem dX7_keeps_69 : decode cX7_keeps 69 = .ok (.iadd, 1) := by decide +kernel
theorem dX7_keeps_70 : decode cX7_keeps 70 = .ok (.aload_n 0, 1) := by decide +kernel
theorem dX7_keeps_71 : decode cX7_keeps 71 = .ok (.getfield 22, 3) := by decide +kernel
theorem dX7_keeps_74 : decode cX7_keeps 74 = .ok (.iload_n 1, 1) := by decide +kernel
theorem dX7_keeps_75 : decode cX7_keeps 75 = .ok (.iaload, 1) := by decide +kernel
theorem dX7_keeps_76 : decode cX7_keeps 76 = .ok (.iastore, 1) := by decide +kernel
theorem dX7_keeps_77 : decode cX7_keeps 77 = .ok (.iinc 1 1, 3) := by decide +kernel
theorem dX7_keeps_80 : decode cX7_keeps 80 = .ok (.goto (-29), 3) := by decide +kernel
theorem dX7_keeps_83 : decode cX7_keeps 83 = .ok (.aload_n 0, 1) := by decide +kernel
theorem dX7_keeps_84 : decode cX7_keeps 84 = .ok (.dup, 1) := by decide +kernel
theorem dX7_keeps_85 : decode cX7_keeps 85 = .ok (.getfield 84, 3) := by decide +kernel
theorem dX7_keeps_88 : decode cX7_keeps 88 = .ok (.iconst 1, 1) := by decide +kernel
theorem dX7_keeps_89 : decode cX7_keeps 89 = .ok (.iadd, 1) := by decide +kernel
theorem dX7_keeps_90 : decode cX7_keeps 90 = .ok (.putfield 84, 3) := by decide +kernel
theorem dX7_keeps_93 : decode cX7_keeps 93 = .ok (.return_, 1) := by decide +kernel
theorem dX7_can_0 : decode cX7_can 0 = .ok (.aload_n 0, 1) := by decide +kernel
theorem dX7_can_1 : decode cX7_can 1 = .ok (.iload_n 1, 1) := by decide +kernel
theorem dX7_can_2 : decode cX7_can 2 = .ok (.invokevirtual 100, 3) := by decide +kernel
theorem dX7_can_5 : decode cX7_can 5 = .ok (.ifCond .eq 11, 3) := by decide +kernel
theorem dX7_can_8 : decode cX7_can 8 = .ok (.aload_n 0, 1) := by decide +kernel
theorem dX7_can_9 : decode cX7_can 9 = .ok (.iload_n 2, 1) := by decide +kernel
theorem dX7_can_10 : decode cX7_can 10 = .ok (.invokevirtual 90, 3) := by decide +kernel
theorem dX7_can_13 : decode cX7_can 13 = .ok (.ifCond .ne 7, 3) := by decide +kernel
theorem dX7_can_16 : decode cX7_can 16 = .ok (.iconst (-1), 1) := by decide +kernel
theorem dX7_can_17 : decode cX7_can 17 = .ok (.goto 17, 3) := by decide +kernel
theorem dX7_can_20 : decode cX7_can 20 = .ok (.aload_n 0, 1) := by decide +kernel
theorem dX7_can_21 : decode cX7_can 21 = .ok (.iload_n 1, 1) := by decide +kernel
theorem dX7_can_22 : decode cX7_can 22 = .ok (.iload_n 2, 1) := by decide +kernel
theorem dX7_can_23 : decode cX7_can 23 = .ok (.invokevirtual 110, 3) := by decide +kernel
theorem dX7_can_26 : decode cX7_can 26 = .ok (.ifCond .eq 7, 3) := by decide +kernel
theorem dX7_can_29 : decode cX7_can 29 = .ok (.iconst 1, 1) := by decide +kernel
theorem dX7_can_30 : decode cX7_can 30 = .ok (.goto 4, 3) := by decide +kernel
theorem dX7_can_33 : decode cX7_can 33 = .ok (.iconst 0, 1) := by decide +kernel
theorem dX7_can_34 : decode cX7_can 34 = .ok (.ireturn, 1) := by decide +kernel
theorem dX7_takes_0 : decode cX7_takes 0 = .ok (.aload_n 0, 1) := by decide +kernel
theorem dX7_takes_1 : decode cX7_takes 1 = .ok (.getfield 22, 3) := by decide +kernel
theorem dX7_takes_4 : decode cX7_takes 4 = .ok (.bipush 8, 2) := by decide +kernel
theorem dX7_takes_6 : decode cX7_takes 6 = .ok (.iload_n 2, 1) := by decide +kernel
theorem dX7_takes_7 : decode cX7_takes 7 = .ok (.iadd, 1) := by decide +kernel
theorem dX7_takes_8 : decode cX7_takes 8 = .ok (.iconst 1, 1) := by decide +kernel
theorem dX7_takes_9 : decode cX7_takes 9 = .ok (.iastore, 1) := by decide +kernel
theorem dX7_takes_10 : decode cX7_takes 10 = .ok (.aload_n 0, 1) := by decide +kernel
theorem dX7_takes_11 : decode cX7_takes 11 = .ok (.getfield 22, 3) := by decide +kernel
theorem dX7_takes_14 : decode cX7_takes 14 = .ok (.bipush 24, 2) := by decide +kernel
theorem dX7_takes_16 : decode cX7_takes 16 = .ok (.iload_n 1, 1) := by decide +kernel
theorem dX7_takes_17 : decode cX7_takes 17 = .ok (.iadd, 1) := by decide +kernel
theorem dX7_takes_18 : decode cX7_takes 18 = .ok (.dup2, 1) := by decide +kernel
theorem dX7_takes_19 : decode cX7_takes 19 = .ok (.iaload, 1) := by decide +kernel
theorem dX7_takes_20 : decode cX7_takes 20 = .ok (.aload_n 0, 1) := by decide +kernel
theorem dX7_takes_21 : decode cX7_takes 21 = .ok (.getfield 13, 3) := by decide +kernel
theorem dX7_takes_24 : decode cX7_takes 24 = .ok (.bipush 21, 2) := by decide +kernel
theorem dX7_takes_26 : decode cX7_takes 26 = .ok (.iload_n 2, 1) := by decide +kernel
theorem dX7_takes_27 : decode cX7_takes 27 = .ok (.iadd, 1) := by decide +kernel
theorem dX7_takes_28 : decode cX7_takes 28 = .ok (.iaload, 1) := by decide +kernel
theorem dX7_takes_29 : decode cX7_takes 29 = .ok (.iadd, 1) := by decide +kernel
theorem dX7_takes_30 : decode cX7_takes 30 = .ok (.iastore, 1) := by decide +kernel
theorem dX7_takes_31 : decode cX7_takes 31 = .ok (.aload_n 0, 1) := by decide +kernel
theorem dX7_takes_32 : decode cX7_takes 32 = .ok (.getfield 22, 3) := by decide +kernel
theorem dX7_takes_35 : decode cX7_takes 35 = .ok (.bipush 20, 2) := by decide +kernel
theorem dX7_takes_37 : decode cX7_takes 37 = .ok (.iload_n 1, 1) := by decide +kernel
theorem dX7_takes_38 : decode cX7_takes 38 = .ok (.iadd, 1) := by decide +kernel
theorem dX7_takes_39 : decode cX7_takes 39 = .ok (.dup2, 1) := by decide +kernel
theorem dX7_takes_40 : decode cX7_takes 40 = .ok (.iaload, 1) := by decide +kernel
theorem dX7_takes_41 : decode cX7_takes 41 = .ok (.aload_n 0, 1) := by decide +kernel
theorem dX7_takes_42 : decode cX7_takes 42 = .ok (.getfield 13, 3) := by decide +kernel
theorem dX7_takes_45 : decode cX7_takes 45 = .ok (.bipush 21, 2) := by decide +kernel
theorem dX7_takes_47 : decode cX7_takes 47 = .ok (.iload_n 2, 1) := by decide +kernel
theorem dX7_takes_48 : decode cX7_takes 48 = .ok (.iadd, 1) := by decide +kernel
theorem dX7_takes_49 : decode cX7_takes 49 = .ok (.iaload, 1) := by decide +kernel
theorem dX7_takes_50 : decode cX7_takes 50 = .ok (.iadd, 1) := by decide +kernel
theorem dX7_takes_51 : decode cX7_takes 51 = .ok (.iastore, 1) := by decide +kernel
theorem dX7_takes_52 : decode cX7_takes 52 = .ok (.return_, 1) := by decide +kernel
theorem dX7_take_0 : decode cX7_take 0 = .ok (.aload_n 0, 1) := by decide +kernel
theorem dX7_take_1 : decode cX7_take 1 = .ok (.iload_n 1, 1) := by decide +kernel
theorem dX7_take_2 : decode cX7_take 2 = .ok (.invokevirtual 100, 3) := by decide +kernel
theorem dX7_take_5 : decode cX7_take 5 = .ok (.ifCond .eq 11, 3) := by decide +kernel
theorem dX7_take_8 : decode cX7_take 8 = .ok (.aload_n 0, 1) := by decide +kernel
theorem dX7_take_9 : decode cX7_take 9 = .ok (.iload_n 2, 1) := by decide +kernel
theorem dX7_take_10 : decode cX7_take 10 = .ok (.invokevirtual 90, 3) := by decide +kernel
theorem dX7_take_13 : decode cX7_take 13 = .ok (.ifCond .ne 5, 3) := by decide +kernel
theorem dX7_take_16 : decode cX7_take 16 = .ok (.iconst (-1), 1) := by decide +kernel
theorem dX7_take_17 : decode cX7_take 17 = .ok (.ireturn, 1) := by decide +kernel
theorem dX7_take_18 : decode cX7_take 18 = .ok (.aload_n 0, 1) := by decide +kernel
theorem dX7_take_19 : decode cX7_take 19 = .ok (.iload_n 1, 1) := by decide +kernel
theorem dX7_take_20 : decode cX7_take 20 = .ok (.iload_n 2, 1) := by decide +kernel
theorem dX7_take_21 : decode cX7_take 21 = .ok (.invokevirtual 110, 3) := by decide +kernel
theorem dX7_take_24 : decode cX7_take 24 = .ok (.ifCond .ne 6, 3) := by decide +kernel
theorem dX7_take_27 : decode cX7_take 27 = .ok (.bipush (-2), 2) := by decide +kernel
theorem dX7_take_29 : decode cX7_take 29 = .ok (.ireturn, 1) := by decide +kernel
theorem dX7_take_30 : decode cX7_take 30 = .ok (.aload_n 0, 1) := by decide +kernel
theorem dX7_take_31 : decode cX7_take 31 = .ok (.invokevirtual 113, 3) := by decide +kernel
theorem dX7_take_34 : decode cX7_take 34 = .ok (.aload_n 0, 1) := by decide +kernel
theorem dX7_take_35 : decode cX7_take 35 = .ok (.iload_n 1, 1) := by decide +kernel
theorem dX7_take_36 : decode cX7_take 36 = .ok (.iload_n 2, 1) := by decide +kernel
theorem dX7_take_37 : decode cX7_take 37 = .ok (.invokevirtual 116, 3) := by decide +kernel
theorem dX7_take_40 : decode cX7_take 40 = .ok (.aload_n 0, 1) := by decide +kernel
theorem dX7_take_41 : decode cX7_take 41 = .ok (.iload_n 2, 1) := by decide +kernel
theorem dX7_take_42 : decode cX7_take 42 = .ok (.aload_n 0, 1) := by decide +kernel
theorem dX7_take_43 : decode cX7_take 43 = .ok (.getfield 22, 3) := by decide +kernel
theorem dX7_take_46 : decode cX7_take 46 = .ok (.bipush 28, 2) := by decide +kernel
theorem dX7_take_48 : decode cX7_take 48 = .ok (.iaload, 1) := by decide +kernel
theorem dX7_take_49 : decode cX7_take 49 = .ok (.invokevirtual 97, 3) := by decide +kernel
theorem dX7_take_52 : decode cX7_take 52 = .ok (.ifCond .ne 54, 3) := by decide +kernel
theorem dX7_take_55 : decode cX7_take 55 = .ok (.aload_n 0, 1) := by decide +kernel
theorem dX7_take_56 : decode cX7_take 56 = .ok (.getfield 13, 3) := by decide +kernel
theorem dX7_take_59 : decode cX7_take 59 = .ok (.iconst 5, 1) := by decide +kernel
theorem dX7_take_60 : decode cX7_take 60 = .ok (.iload_n 2, 1) := by decide +kernel
theorem dX7_take_61 : decode cX7_take 61 = .ok (.iadd, 1) := by decide +kernel
theorem dX7_take_62 : decode cX7_take 62 = .ok (.iaload, 1) := by decide +kernel
theorem dX7_take_63 : decode cX7_take 63 = .ok (.iconst 3, 1) := by decide +kernel
theorem dX7_take_64 : decode cX7_take 64 = .ok (.if_icmp .eq 42, 3) := by decide +kernel
theorem dX7_take_67 : decode cX7_take 67 = .ok (.aload_n 0, 1) := by decide +kernel
theorem dX7_take_68 : decode cX7_take 68 = .ok (.getfield 22, 3) := by decide +kernel
theorem dX7_take_71 : decode cX7_take 71 = .ok (.bipush 28, 2) := by decide +kernel
theorem dX7_take_73 : decode cX7_take 73 = .ok (.iaload, 1) := by decide +kernel
theorem dX7_take_74 : decode cX7_take 74 = .ok (.aload_n 0, 1) := by decide +kernel
theorem dX7_take_75 : decode cX7_take 75 = .ok (.getfield 13, 3) := by decide +kernel
theorem dX7_take_78 : decode cX7_take 78 = .ok (.iconst 3, 1) := by decide +kernel
theorem dX7_take_79 : decode cX7_take 79 = .ok (.iaload, 1) := by decide +kernel
theorem dX7_take_80 : decode cX7_take 80 = .ok (.irem, 1) := by decide +kernel
theorem dX7_take_81 : decode cX7_take 81 = .ok (.ifCond .ne 25, 3) := by decide +kernel
theorem dX7_take_84 : decode cX7_take 84 = .ok (.aload_n 0, 1) := by decide +kernel
theorem dX7_take_85 : decode cX7_take 85 = .ok (.getfield 22, 3) := by decide +kernel
theorem dX7_take_88 : decode cX7_take 88 = .ok (.bipush 16, 2) := by decide +kernel
theorem dX7_take_90 : decode cX7_take 90 = .ok (.iload_n 1, 1) := by decide +kernel
theorem dX7_take_91 : decode cX7_take 91 = .ok (.iadd, 1) := by decide +kernel
theorem dX7_take_92 : decode cX7_take 92 = .ok (.iaload, 1) := by decide +kernel
theorem dX7_take_93 : decode cX7_take 93 = .ok (.aload_n 0, 1) := by decide +kernel
theorem dX7_take_94 : decode cX7_take 94 = .ok (.getfield 13, 3) := by decide +kernel
theorem dX7_take_97 : decode cX7_take 97 = .ok (.iconst 2, 1) := by decide +kernel
theorem dX7_take_98 : decode cX7_take 98 = .ok (.iaload, 1) := by decide +kernel
theorem dX7_take_99 : decode cX7_take 99 = .ok (.if_icmp .le 7, 3) := by decide +kernel
theorem dX7_take_102 : decode cX7_take 102 = .ok (.iconst 1, 1) := by decide +kernel
theorem dX7_take_103 : decode cX7_take 103 = .ok (.goto 4, 3) := by decide +kernel
theorem dX7_take_106 : decode cX7_take 106 = .ok (.iconst 0, 1) := by decide +kernel
theorem dX7_take_107 : decode cX7_take 107 = .ok (.istore_n 3, 1) := by decide +kernel
theorem dX7_take_108 : decode cX7_take 108 = .ok (.aload_n 0, 1) := by decide +kernel
theorem dX7_take_109 : decode cX7_take 109 = .ok (.getfield 22, 3) := by decide +kernel
theorem dX7_take_112 : decode cX7_take 112 = .ok (.bipush 20, 2) := by decide +kernel
theorem dX7_take_114 : decode cX7_take 114 = .ok (.iload_n 1, 1) := by decide +kernel
theorem dX7_take_115 : decode cX7_take 115 = .ok (.iadd, 1) := by decide +kernel
theorem dX7_take_116 : decode cX7_take 116 = .ok (.iload_n 3, 1) := by decide +kernel
theorem dX7_take_117 : decode cX7_take 117 = .ok (.ifCond .eq 7, 3) := by decide +kernel
theorem dX7_take_120 : decode cX7_take 120 = .ok (.iconst 0, 1) := by decide +kernel
theorem dX7_take_121 : decode cX7_take 121 = .ok (.goto 12, 3) := by decide +kernel
theorem dX7_take_124 : decode cX7_take 124 = .ok (.aload_n 0, 1) := by decide +kernel
theorem dX7_take_125 : decode cX7_take 125 = .ok (.getfield 22, 3) := by decide +kernel
theorem dX7_take_128 : decode cX7_take 128 = .ok (.bipush 20, 2) := by decide +kernel
theorem dX7_take_130 : decode cX7_take 130 = .ok (.iload_n 1, 1) := by decide +kernel
theorem dX7_take_131 : decode cX7_take 131 = .ok (.iadd, 1) := by decide +kernel
theorem dX7_take_132 : decode cX7_take 132 = .ok (.iaload, 1) := by decide +kernel
theorem dX7_take_133 : decode cX7_take 133 = .ok (.iastore, 1) := by decide +kernel
theorem dX7_take_134 : decode cX7_take 134 = .ok (.aload_n 0, 1) := by decide +kernel
theorem dX7_take_135 : decode cX7_take 135 = .ok (.getfield 22, 3) := by decide +kernel
theorem dX7_take_138 : decode cX7_take 138 = .ok (.bipush 20, 2) := by decide +kernel
theorem dX7_take_140 : decode cX7_take 140 = .ok (.iload_n 1, 1) := by decide +kernel
theorem dX7_take_141 : decode cX7_take 141 = .ok (.iadd, 1) := by decide +kernel
theorem dX7_take_142 : decode cX7_take 142 = .ok (.iaload, 1) := by decide +kernel
theorem dX7_take_143 : decode cX7_take 143 = .ok (.ireturn, 1) := by decide +kernel
theorem dX7_passes_0 : decode cX7_passes 0 = .ok (.aload_n 0, 1) := by decide +kernel
theorem dX7_passes_1 : decode cX7_passes 1 = .ok (.getfield 22, 3) := by decide +kernel
theorem dX7_passes_4 : decode cX7_passes 4 = .ok (.bipush 28, 2) := by decide +kernel
theorem dX7_passes_6 : decode cX7_passes 6 = .ok (.dup2, 1) := by decide +kernel
theorem dX7_passes_7 : decode cX7_passes 7 = .ok (.iaload, 1) := by decide +kernel
theorem dX7_passes_8 : decode cX7_passes 8 = .ok (.iconst 1, 1) := by decide +kernel
theorem dX7_passes_9 : decode cX7_passes 9 = .ok (.iadd, 1) := by decide +kernel
theorem dX7_passes_10 : decode cX7_passes 10 = .ok (.iastore, 1) := by decide +kernel
theorem dX7_passes_11 : decode cX7_passes 11 = .ok (.iconst 0, 1) := by decide +kernel
theorem dX7_passes_12 : decode cX7_passes 12 = .ok (.istore_n 1, 1) := by decide +kernel
theorem dX7_passes_13 : decode cX7_passes 13 = .ok (.iload_n 1, 1) := by decide +kernel
theorem dX7_passes_14 : decode cX7_passes 14 = .ok (.iconst 4, 1) := by decide +kernel
theorem dX7_passes_15 : decode cX7_passes 15 = .ok (.if_icmp .ge 19, 3) := by decide +kernel
theorem dX7_passes_18 : decode cX7_passes 18 = .ok (.aload_n 0, 1) := by decide +kernel
theorem dX7_passes_19 : decode cX7_passes 19 = .ok (.getfield 22, 3) := by decide +kernel
theorem dX7_passes_22 : decode cX7_passes 22 = .ok (.bipush 24, 2) := by decide +kernel
theorem dX7_passes_24 : decode cX7_passes 24 = .ok (.iload_n 1, 1) := by decide +kernel
theorem dX7_passes_25 : decode cX7_passes 25 = .ok (.iadd, 1) := by decide +kernel
theorem dX7_passes_26 : decode cX7_passes 26 = .ok (.iconst 0, 1) := by decide +kernel
theorem dX7_passes_27 : decode cX7_passes 27 = .ok (.iastore, 1) := by decide +kernel
theorem dX7_passes_28 : decode cX7_passes 28 = .ok (.iinc 1 1, 3) := by decide +kernel
theorem dX7_passes_31 : decode cX7_passes 31 = .ok (.goto (-18), 3) := by decide +kernel
theorem dX7_passes_34 : decode cX7_passes 34 = .ok (.return_, 1) := by decide +kernel
theorem dX7_pass_0 : decode cX7_pass 0 = .ok (.iload_n 1, 1) := by decide +kernel
theorem dX7_pass_1 : decode cX7_pass 1 = .ok (.iconst 1, 1) := by decide +kernel
theorem dX7_pass_2 : decode cX7_pass 2 = .ok (.bipush 30, 2) := by decide +kernel
theorem dX7_pass_4 : decode cX7_pass 4 = .ok (.invokestatic 54, 3) := by decide +kernel
theorem dX7_pass_7 : decode cX7_pass 7 = .ok (.ifCond .ne 5, 3) := by decide +kernel
theorem dX7_pass_10 : decode cX7_pass 10 = .ok (.iconst (-1), 1) := by decide +kernel
theorem dX7_pass_11 : decode cX7_pass 11 = .ok (.ireturn, 1) := by decide +kernel
theorem dX7_pass_12 : decode cX7_pass 12 = .ok (.aload_n 0, 1) := by decide +kernel
theorem dX7_pass_13 : decode cX7_pass 13 = .ok (.getfield 22, 3) := by decide +kernel
theorem dX7_pass_16 : decode cX7_pass 16 = .ok (.bipush 28, 2) := by decide +kernel
theorem dX7_pass_18 : decode cX7_pass 18 = .ok (.iaload, 1) := by decide +kernel
theorem dX7_pass_19 : decode cX7_pass 19 = .ok (.iload_n 1, 1) := by decide +kernel
theorem dX7_pass_20 : decode cX7_pass 20 = .ok (.iadd, 1) := by decide +kernel
theorem dX7_pass_21 : decode cX7_pass 21 = .ok (.bipush 99, 2) := by decide +kernel
theorem dX7_pass_23 : decode cX7_pass 23 = .ok (.if_icmp .le 6, 3) := by decide +kernel
theorem dX7_pass_26 : decode cX7_pass 26 = .ok (.bipush (-2), 2) := by decide +kernel
theorem dX7_pass_28 : decode cX7_pass 28 = .ok (.ireturn, 1) := by decide +kernel
theorem dX7_pass_29 : decode cX7_pass 29 = .ok (.aload_n 0, 1) := by decide +kernel
theorem dX7_pass_30 : decode cX7_pass 30 = .ok (.invokevirtual 113, 3) := by decide +kernel
theorem dX7_pass_33 : decode cX7_pass 33 = .ok (.iconst 0, 1) := by decide +kernel
theorem dX7_pass_34 : decode cX7_pass 34 = .ok (.istore_n 2, 1) := by decide +kernel
theorem dX7_pass_35 : decode cX7_pass 35 = .ok (.iload_n 2, 1) := by decide +kernel
theorem dX7_pass_36 : decode cX7_pass 36 = .ok (.iload_n 1, 1) := by decide +kernel
theorem dX7_pass_37 : decode cX7_pass 37 = .ok (.if_icmp .ge 13, 3) := by decide +kernel
theorem dX7_pass_40 : decode cX7_pass 40 = .ok (.aload_n 0, 1) := by decide +kernel
theorem dX7_pass_41 : decode cX7_pass 41 = .ok (.invokevirtual 120, 3) := by decide +kernel
theorem dX7_pass_44 : decode cX7_pass 44 = .ok (.iinc 2 1, 3) := by decide +kernel
theorem dX7_pass_47 : decode cX7_pass 47 = .ok (.goto (-12), 3) := by decide +kernel
theorem dX7_pass_50 : decode cX7_pass 50 = .ok (.aload_n 0, 1) := by decide +kernel
theorem dX7_pass_51 : decode cX7_pass 51 = .ok (.getfield 22, 3) := by decide +kernel
theorem dX7_pass_54 : decode cX7_pass 54 = .ok (.bipush 28, 2) := by decide +kernel
theorem dX7_pass_56 : decode cX7_pass 56 = .ok (.iaload, 1) := by decide +kernel
theorem dX7_pass_57 : decode cX7_pass 57 = .ok (.ireturn, 1) := by decide +kernel
theorem dX7_hook_0 : decode cX7_hook 0 = .ok (.aload_n 0, 1) := by decide +kernel
theorem dX7_hook_1 : decode cX7_hook 1 = .ok (.iload_n 1, 1) := by decide +kernel
theorem dX7_hook_2 : decode cX7_hook 2 = .ok (.invokevirtual 100, 3) := by decide +kernel
theorem dX7_hook_5 : decode cX7_hook 5 = .ok (.ifCond .eq 13, 3) := by decide +kernel
theorem dX7_hook_8 : decode cX7_hook 8 = .ok (.iload_n 2, 1) := by decide +kernel
theorem dX7_hook_9 : decode cX7_hook 9 = .ok (.iconst 1, 1) := by decide +kernel
theorem dX7_hook_10 : decode cX7_hook 10 = .ok (.bipush 20, 2) := by decide +kernel
theorem dX7_hook_12 : decode cX7_hook 12 = .ok (.invokestatic 54, 3) := by decide +kernel
theorem dX7_hook_15 : decode cX7_hook 15 = .ok (.ifCond .ne 5, 3) := by decide +kernel
theorem dX7_hook_18 : decode cX7_hook 18 = .ok (.iconst (-1), 1) := by decide +kernel
theorem dX7_hook_19 : decode cX7_hook 19 = .ok (.ireturn, 1) := by decide +kernel
theorem dX7_hook_20 : decode cX7_hook 20 = .ok (.aload_n 0, 1) := by decide +kernel
theorem dX7_hook_21 : decode cX7_hook 21 = .ok (.invokevirtual 113, 3) := by decide +kernel
theorem dX7_hook_24 : decode cX7_hook 24 = .ok (.aload_n 0, 1) := by decide +kernel
theorem dX7_hook_25 : decode cX7_hook 25 = .ok (.getfield 22, 3) := by decide +kernel
theorem dX7_hook_28 : decode cX7_hook 28 = .ok (.bipush 16, 2) := by decide +kernel
theorem dX7_hook_30 : decode cX7_hook 30 = .ok (.iload_n 1, 1) := by decide +kernel
theorem dX7_hook_31 : decode cX7_hook 31 = .ok (.iadd, 1) := by decide +kernel
theorem dX7_hook_32 : decode cX7_hook 32 = .ok (.iaload, 1) := by decide +kernel
theorem dX7_hook_33 : decode cX7_hook 33 = .ok (.istore_n 3, 1) := by decide +kernel
theorem dX7_hook_34 : decode cX7_hook 34 = .ok (.aload_n 0, 1) := by decide +kernel
theorem dX7_hook_35 : decode cX7_hook 35 = .ok (.getfield 22, 3) := by decide +kernel
theorem dX7_hook_38 : decode cX7_hook 38 = .ok (.bipush 16, 2) := by decide +kernel
theorem dX7_hook_40 : decode cX7_hook 40 = .ok (.iload_n 1, 1) := by decide +kernel
theorem dX7_hook_41 : decode cX7_hook 41 = .ok (.iadd, 1) := by decide +kernel
theorem dX7_hook_42 : decode cX7_hook 42 = .ok (.iload_n 2, 1) := by decide +kernel
theorem dX7_hook_43 : decode cX7_hook 43 = .ok (.iastore, 1) := by decide +kernel
theorem dX7_hook_44 : decode cX7_hook 44 = .ok (.iload_n 3, 1) := by decide +kernel
theorem dX7_hook_45 : decode cX7_hook 45 = .ok (.ireturn, 1) := by decide +kernel
theorem dX7_ring_0 : decode cX7_ring 0 = .ok (.aload_n 0, 1) := by decide +kernel
theorem dX7_ring_1 : decode cX7_ring 1 = .ok (.iload_n 1, 1) := by decide +kernel
theorem dX7_ring_2 : decode cX7_ring 2 = .ok (.invokevirtual 90, 3) := by decide +kernel
theorem dX7_ring_5 : decode cX7_ring 5 = .ok (.ifCond .ne 5, 3) := by decide +kernel
theorem dX7_ring_8 : decode cX7_ring 8 = .ok (.iconst (-1), 1) := by decide +kernel
theorem dX7_ring_9 : decode cX7_ring 9 = .ok (.ireturn, 1) := by decide +kernel
theorem dX7_ring_10 : decode cX7_ring 10 = .ok (.aload_n 0, 1) := by decide +kernel
theorem dX7_ring_11 : decode cX7_ring 11 = .ok (.iload_n 1, 1) := by decide +kernel
theorem dX7_ring_12 : decode cX7_ring 12 = .ok (.aload_n 0, 1) := by decide +kernel
theorem dX7_ring_13 : decode cX7_ring 13 = .ok (.getfield 22, 3) := by decide +kernel
theorem dX7_ring_16 : decode cX7_ring 16 = .ok (.bipush 28, 2) := by decide +kernel
theorem dX7_ring_18 : decode cX7_ring 18 = .ok (.iaload, 1) := by decide +kernel
theorem dX7_ring_19 : decode cX7_ring 19 = .ok (.invokevirtual 93, 3) := by decide +kernel
theorem dX7_ring_22 : decode cX7_ring 22 = .ok (.ifCond .ne 16, 3) := by decide +kernel
theorem dX7_ring_25 : decode cX7_ring 25 = .ok (.aload_n 0, 1) := by decide +kernel
theorem dX7_ring_26 : decode cX7_ring 26 = .ok (.getfield 22, 3) := by decide +kernel
theorem dX7_ring_29 : decode cX7_ring 29 = .ok (.bipush 8, 2) := by decide +kernel
theorem dX7_ring_31 : decode cX7_ring 31 = .ok (.iload_n 1, 1) := by decide +kernel
theorem dX7_ring_32 : decode cX7_ring 32 = .ok (.iadd, 1) := by decide +kernel
theorem dX7_ring_33 : decode cX7_ring 33 = .ok (.iaload, 1) := by decide +kernel
theorem dX7_ring_34 : decode cX7_ring 34 = .ok (.iconst 1, 1) := by decide +kernel
theorem dX7_ring_35 : decode cX7_ring 35 = .ok (.if_icmp .ne 6, 3) := by decide +kernel
theorem dX7_ring_38 : decode cX7_ring 38 = .ok (.bipush (-2), 2) := by decide +kernel
theorem dX7_ring_40 : decode cX7_ring 40 = .ok (.ireturn, 1) := by decide +kernel
theorem dX7_ring_41 : decode cX7_ring 41 = .ok (.aload_n 0, 1) := by decide +kernel
theorem dX7_ring_42 : decode cX7_ring 42 = .ok (.invokevirtual 113, 3) := by decide +kernel
theorem dX7_ring_45 : decode cX7_ring 45 = .ok (.aload_n 0, 1) := by decide +kernel
theorem dX7_ring_46 : decode cX7_ring 46 = .ok (.getfield 22, 3) := by decide +kernel
theorem dX7_ring_49 : decode cX7_ring 49 = .ok (.iload_n 1, 1) := by decide +kernel
theorem dX7_ring_50 : decode cX7_ring 50 = .ok (.iaload, 1) := by decide +kernel
theorem dX7_ring_51 : decode cX7_ring 51 = .ok (.istore_n 2, 1) := by decide +kernel
theorem dX7_ring_52 : decode cX7_ring 52 = .ok (.aload_n 0, 1) := by decide +kernel
theorem dX7_ring_53 : decode cX7_ring 53 = .ok (.getfield 22, 3) := by decide +kernel
theorem dX7_ring_56 : decode cX7_ring 56 = .ok (.iload_n 1, 1) := by decide +kernel
theorem dX7_ring_57 : decode cX7_ring 57 = .ok (.aload_n 0, 1) := by decide +kernel
theorem dX7_ring_58 : decode cX7_ring 58 = .ok (.getfield 22, 3) := by decide +kernel
theorem dX7_ring_61 : decode cX7_ring 61 = .ok (.bipush 28, 2) := by decide +kernel
theorem dX7_ring_63 : decode cX7_ring 63 = .ok (.iaload, 1) := by decide +kernel
theorem dX7_ring_64 : decode cX7_ring 64 = .ok (.iastore, 1) := by decide +kernel
theorem dX7_ring_65 : decode cX7_ring 65 = .ok (.iload_n 2, 1) := by decide +kernel
theorem dX7_ring_66 : decode cX7_ring 66 = .ok (.ireturn, 1) := by decide +kernel
theorem dX7_undo_0 : decode cX7_undo 0 = .ok (.aload_n 0, 1) := by decide +kernel
theorem dX7_undo_1 : decode cX7_undo 1 = .ok (.getfield 84, 3) := by decide +kernel
theorem dX7_undo_4 : decode cX7_undo 4 = .ok (.ifCond .ne 6, 3) := by decide +kernel
theorem dX7_undo_7 : decode cX7_undo 7 = .ok (.bipush (-2), 2) := by decide +kernel
theorem dX7_undo_9 : decode cX7_undo 9 = .ok (.ireturn, 1) := by decide +kernel
theorem dX7_undo_10 : decode cX7_undo 10 = .ok (.aload_n 0, 1) := by decide +kernel
theorem dX7_undo_11 : decode cX7_undo 11 = .ok (.dup, 1) := by decide +kernel
theorem dX7_undo_12 : decode cX7_undo 12 = .ok (.getfield 84, 3) := by decide +kernel
theorem dX7_undo_15 : decode cX7_undo 15 = .ok (.iconst 1, 1) := by decide +kernel
theorem dX7_undo_16 : decode cX7_undo 16 = .ok (.isub, 1) := by decide +kernel
theorem dX7_undo_17 : decode cX7_undo 17 = .ok (.putfield 84, 3) := by decide +kernel
theorem dX7_undo_20 : decode cX7_undo 20 = .ok (.iconst 0, 1) := by decide +kernel
theorem dX7_undo_21 : decode cX7_undo 21 = .ok (.istore_n 1, 1) := by decide +kernel
theorem dX7_undo_22 : decode cX7_undo 22 = .ok (.iload_n 1, 1) := by decide +kernel
theorem dX7_undo_23 : decode cX7_undo 23 = .ok (.bipush 29, 2) := by decide +kernel
theorem dX7_undo_25 : decode cX7_undo 25 = .ok (.if_icmp .ge 29, 3) := by decide +kernel
theorem dX7_undo_28 : decode cX7_undo 28 = .ok (.aload_n 0, 1) := by decide +kernel
theorem dX7_undo_29 : decode cX7_undo 29 = .ok (.getfield 22, 3) := by decide +kernel
theorem dX7_undo_32 : decode cX7_undo 32 = .ok (.iload_n 1, 1) := by decide +kernel
theorem dX7_undo_33 : decode cX7_undo 33 = .ok (.aload_n 0, 1) := by decide +kernel
theorem dX7_undo_34 : decode cX7_undo 34 = .ok (.getfield 25, 3) := by decide +kernel
theorem dX7_undo_37 : decode cX7_undo 37 = .ok (.bipush 29, 2) := by decide +kernel
theorem dX7_undo_39 : decode cX7_undo 39 = .ok (.aload_n 0, 1) := by decide +kernel
theorem dX7_undo_40 : decode cX7_undo 40 = .ok (.getfield 84, 3) := by decide +kernel
theorem dX7_undo_43 : decode cX7_undo 43 = .ok (.imul, 1) := by decide +kernel
theorem dX7_undo_44 : decode cX7_undo 44 = .ok (.iload_n 1, 1) := by decide +kernel
theorem dX7_undo_45 : decode cX7_undo 45 = .ok (.iadd, 1) := by decide +kernel
theorem dX7_undo_46 : decode cX7_undo 46 = .ok (.iaload, 1) := by decide +kernel
theorem dX7_undo_47 : decode cX7_undo 47 = .ok (.iastore, 1) := by decide +kernel
theorem dX7_undo_48 : decode cX7_undo 48 = .ok (.iinc 1 1, 3) := by decide +kernel
theorem dX7_undo_51 : decode cX7_undo 51 = .ok (.goto (-29), 3) := by decide +kernel
theorem dX7_undo_54 : decode cX7_undo 54 = .ok (.aload_n 0, 1) := by decide +kernel
theorem dX7_undo_55 : decode cX7_undo 55 = .ok (.getfield 84, 3) := by decide +kernel
theorem dX7_undo_58 : decode cX7_undo 58 = .ok (.ireturn, 1) := by decide +kernel
theorem dX7_holds_0 : decode cX7_holds 0 = .ok (.iconst 0, 1) := by decide +kernel
theorem dX7_holds_1 : decode cX7_holds 1 = .ok (.istore_n 1, 1) := by decide +kernel
theorem dX7_holds_2 : decode cX7_holds 2 = .ok (.iload_n 1, 1) := by decide +kernel
theorem dX7_holds_3 : decode cX7_holds 3 = .ok (.bipush 29, 2) := by decide +kernel
theorem dX7_holds_5 : decode cX7_holds 5 = .ok (.if_icmp .ge 21, 3) := by decide +kernel
theorem dX7_holds_8 : decode cX7_holds 8 = .ok (.aload_n 0, 1) := by decide +kernel
theorem dX7_holds_9 : decode cX7_holds 9 = .ok (.getfield 31, 3) := by decide +kernel
theorem dX7_holds_12 : decode cX7_holds 12 = .ok (.iload_n 1, 1) := by decide +kernel
theorem dX7_holds_13 : decode cX7_holds 13 = .ok (.aload_n 0, 1) := by decide +kernel
theorem dX7_holds_14 : decode cX7_holds 14 = .ok (.getfield 22, 3) := by decide +kernel
theorem dX7_holds_17 : decode cX7_holds 17 = .ok (.iload_n 1, 1) := by decide +kernel
theorem dX7_holds_18 : decode cX7_holds 18 = .ok (.iaload, 1) := by decide +kernel
theorem dX7_holds_19 : decode cX7_holds 19 = .ok (.iastore, 1) := by decide +kernel
theorem dX7_holds_20 : decode cX7_holds 20 = .ok (.iinc 1 1, 3) := by decide +kernel
theorem dX7_holds_23 : decode cX7_holds 23 = .ok (.goto (-21), 3) := by decide +kernel
theorem dX7_holds_26 : decode cX7_holds 26 = .ok (.return_, 1) := by decide +kernel
theorem dX7_lets_0 : decode cX7_lets 0 = .ok (.iconst 0, 1) := by decide +kernel
theorem dX7_lets_1 : decode cX7_lets 1 = .ok (.istore_n 1, 1) := by decide +kernel
theorem dX7_lets_2 : decode cX7_lets 2 = .ok (.iload_n 1, 1) := by decide +kernel
theorem dX7_lets_3 : decode cX7_lets 3 = .ok (.bipush 29, 2) := by decide +kernel
theorem dX7_lets_5 : decode cX7_lets 5 = .ok (.if_icmp .ge 21, 3) := by decide +kernel
theorem dX7_lets_8 : decode cX7_lets 8 = .ok (.aload_n 0, 1) := by decide +kernel
theorem dX7_lets_9 : decode cX7_lets 9 = .ok (.getfield 22, 3) := by decide +kernel
theorem dX7_lets_12 : decode cX7_lets 12 = .ok (.iload_n 1, 1) := by decide +kernel
theorem dX7_lets_13 : decode cX7_lets 13 = .ok (.aload_n 0, 1) := by decide +kernel
theorem dX7_lets_14 : decode cX7_lets 14 = .ok (.getfield 31, 3) := by decide +kernel
theorem dX7_lets_17 : decode cX7_lets 17 = .ok (.iload_n 1, 1) := by decide +kernel
theorem dX7_lets_18 : decode cX7_lets 18 = .ok (.iaload, 1) := by decide +kernel
theorem dX7_lets_19 : decode cX7_lets 19 = .ok (.iastore, 1) := by decide +kernel
theorem dX7_lets_20 : decode cX7_lets 20 = .ok (.iinc 1 1, 3) := by decide +kernel
theorem dX7_lets_23 : decode cX7_lets 23 = .ok (.goto (-21), 3) := by decide +kernel
theorem dX7_lets_26 : decode cX7_lets 26 = .ok (.return_, 1) := by decide +kernel
theorem dX7_eachTakes_0 : decode cX7_eachTakes 0 = .ok (.iconst 0, 1) := by decide +kernel
theorem dX7_eachTakes_1 : decode cX7_eachTakes 1 = .ok (.istore_n 1, 1) := by decide +kernel
theorem dX7_eachTakes_2 : decode cX7_eachTakes 2 = .ok (.iload_n 1, 1) := by decide +kernel
theorem dX7_eachTakes_3 : decode cX7_eachTakes 3 = .ok (.aload_n 0, 1) := by decide +kernel
theorem dX7_eachTakes_4 : decode cX7_eachTakes 4 = .ok (.getfield 13, 3) := by decide +kernel
theorem dX7_eachTakes_7 : decode cX7_eachTakes 7 = .ok (.iconst 1, 1) := by decide +kernel
theorem dX7_eachTakes_8 : decode cX7_eachTakes 8 = .ok (.iaload, 1) := by decide +kernel
theorem dX7_eachTakes_9 : decode cX7_eachTakes 9 = .ok (.if_icmp .ge 50, 3) := by decide +kernel
theorem dX7_eachTakes_12 : decode cX7_eachTakes 12 = .ok (.iconst 0, 1) := by decide +kernel
theorem dX7_eachTakes_13 : decode cX7_eachTakes 13 = .ok (.istore_n 2, 1) := by decide +kernel
theorem dX7_eachTakes_14 : decode cX7_eachTakes 14 = .ok (.iload_n 2, 1) := by decide +kernel
theorem dX7_eachTakes_15 : decode cX7_eachTakes 15 = .ok (.aload_n 0, 1) := by decide +kernel
theorem dX7_eachTakes_16 : decode cX7_eachTakes 16 = .ok (.getfield 13, 3) := by decide +kernel
theorem dX7_eachTakes_19 : decode cX7_eachTakes 19 = .ok (.iconst 0, 1) := by decide +kernel
theorem dX7_eachTakes_20 : decode cX7_eachTakes 20 = .ok (.iaload, 1) := by decide +kernel
theorem dX7_eachTakes_21 : decode cX7_eachTakes 21 = .ok (.if_icmp .ge 32, 3) := by decide +kernel
theorem dX7_eachTakes_24 : decode cX7_eachTakes 24 = .ok (.aload_n 0, 1) := by decide +kernel
theorem dX7_eachTakes_25 : decode cX7_eachTakes 25 = .ok (.iload_n 1, 1) := by decide +kernel
theorem dX7_eachTakes_26 : decode cX7_eachTakes 26 = .ok (.invokevirtual 103, 3) := by decide +kernel
theorem dX7_eachTakes_29 : decode cX7_eachTakes 29 = .ok (.ifCond .ne 18, 3) := by decide +kernel
theorem dX7_eachTakes_32 : decode cX7_eachTakes 32 = .ok (.aload_n 0, 1) := by decide +kernel
theorem dX7_eachTakes_33 : decode cX7_eachTakes 33 = .ok (.iload_n 1, 1) := by decide +kernel
theorem dX7_eachTakes_34 : decode cX7_eachTakes 34 = .ok (.iload_n 2, 1) := by decide +kernel
theorem dX7_eachTakes_35 : decode cX7_eachTakes 35 = .ok (.invokevirtual 110, 3) := by decide +kernel
theorem dX7_eachTakes_38 : decode cX7_eachTakes 38 = .ok (.ifCond .eq 9, 3) := by decide +kernel
theorem dX7_eachTakes_41 : decode cX7_eachTakes 41 = .ok (.aload_n 0, 1) := by decide +kernel
theorem dX7_eachTakes_42 : decode cX7_eachTakes 42 = .ok (.iload_n 1, 1) := by decide +kernel
theorem dX7_eachTakes_43 : decode cX7_eachTakes 43 = .ok (.iload_n 2, 1) := by decide +kernel
theorem dX7_eachTakes_44 : decode cX7_eachTakes 44 = .ok (.invokevirtual 116, 3) := by decide +kernel
theorem dX7_eachTakes_47 : decode cX7_eachTakes 47 = .ok (.iinc 2 1, 3) := by decide +kernel
theorem dX7_eachTakes_50 : decode cX7_eachTakes 50 = .ok (.goto (-36), 3) := by decide +kernel
theorem dX7_eachTakes_53 : decode cX7_eachTakes 53 = .ok (.iinc 1 1, 3) := by decide +kernel
theorem dX7_eachTakes_56 : decode cX7_eachTakes 56 = .ok (.goto (-54), 3) := by decide +kernel
theorem dX7_eachTakes_59 : decode cX7_eachTakes 59 = .ok (.return_, 1) := by decide +kernel
theorem dX7_warm_0 : decode cX7_warm 0 = .ok (.iconst 0, 1) := by decide +kernel
theorem dX7_warm_1 : decode cX7_warm 1 = .ok (.istore_n 1, 1) := by decide +kernel
theorem dX7_warm_2 : decode cX7_warm 2 = .ok (.iconst 0, 1) := by decide +kernel
theorem dX7_warm_3 : decode cX7_warm 3 = .ok (.istore_n 2, 1) := by decide +kernel
theorem dX7_warm_4 : decode cX7_warm 4 = .ok (.iload_n 2, 1) := by decide +kernel
theorem dX7_warm_5 : decode cX7_warm 5 = .ok (.aload_n 0, 1) := by decide +kernel
theorem dX7_warm_6 : decode cX7_warm 6 = .ok (.getfield 13, 3) := by decide +kernel
theorem dX7_warm_9 : decode cX7_warm 9 = .ok (.iconst 1, 1) := by decide +kernel
theorem dX7_warm_10 : decode cX7_warm 10 = .ok (.iaload, 1) := by decide +kernel
theorem dX7_warm_11 : decode cX7_warm 11 = .ok (.if_icmp .ge 27, 3) := by decide +kernel
theorem dX7_warm_14 : decode cX7_warm 14 = .ok (.iload_n 1, 1) := by decide +kernel
theorem dX7_warm_15 : decode cX7_warm 15 = .ok (.aload_n 0, 1) := by decide +kernel
theorem dX7_warm_16 : decode cX7_warm 16 = .ok (.iload_n 2, 1) := by decide +kernel
theorem dX7_warm_17 : decode cX7_warm 17 = .ok (.invokevirtual 103, 3) := by decide +kernel
theorem dX7_warm_20 : decode cX7_warm 20 = .ok (.ifCond .eq 9, 3) := by decide +kernel
theorem dX7_warm_23 : decode cX7_warm 23 = .ok (.iconst 1, 1) := by decide +kernel
theorem dX7_warm_24 : decode cX7_warm 24 = .ok (.iload_n 2, 1) := by decide +kernel
theorem dX7_warm_25 : decode cX7_warm 25 = .ok (.ishl, 1) := by decide +kernel
theorem dX7_warm_26 : decode cX7_warm 26 = .ok (.goto 4, 3) := by decide +kernel
theorem dX7_warm_29 : decode cX7_warm 29 = .ok (.iconst 0, 1) := by decide +kernel
theorem dX7_warm_30 : decode cX7_warm 30 = .ok (.ior, 1) := by decide +kernel
theorem dX7_warm_31 : decode cX7_warm 31 = .ok (.istore_n 1, 1) := by decide +kernel
theorem dX7_warm_32 : decode cX7_warm 32 = .ok (.iinc 2 1, 3) := by decide +kernel
theorem dX7_warm_35 : decode cX7_warm 35 = .ok (.goto (-31), 3) := by decide +kernel
theorem dX7_warm_38 : decode cX7_warm 38 = .ok (.iload_n 1, 1) := by decide +kernel
theorem dX7_warm_39 : decode cX7_warm 39 = .ok (.ireturn, 1) := by decide +kernel
theorem dX7_warmAt_0 : decode cX7_warmAt 0 = .ok (.aload_n 0, 1) := by decide +kernel
theorem dX7_warmAt_1 : decode cX7_warmAt 1 = .ok (.getfield 22, 3) := by decide +kernel
theorem dX7_warmAt_4 : decode cX7_warmAt 4 = .ok (.bipush 28, 2) := by decide +kernel
theorem dX7_warmAt_6 : decode cX7_warmAt 6 = .ok (.iaload, 1) := by decide +kernel
theorem dX7_warmAt_7 : decode cX7_warmAt 7 = .ok (.iload_n 1, 1) := by decide +kernel
theorem dX7_warmAt_8 : decode cX7_warmAt 8 = .ok (.if_icmp .ge 14, 3) := by decide +kernel
theorem dX7_warmAt_11 : decode cX7_warmAt 11 = .ok (.aload_n 0, 1) := by decide +kernel
theorem dX7_warmAt_12 : decode cX7_warmAt 12 = .ok (.invokevirtual 123, 3) := by decide +kernel
theorem dX7_warmAt_15 : decode cX7_warmAt 15 = .ok (.aload_n 0, 1) := by decide +kernel
theorem dX7_warmAt_16 : decode cX7_warmAt 16 = .ok (.invokevirtual 120, 3) := by decide +kernel
theorem dX7_warmAt_19 : decode cX7_warmAt 19 = .ok (.goto (-19), 3) := by decide +kernel
theorem dX7_warmAt_22 : decode cX7_warmAt 22 = .ok (.aload_n 0, 1) := by decide +kernel
theorem dX7_warmAt_23 : decode cX7_warmAt 23 = .ok (.invokevirtual 123, 3) := by decide +kernel
theorem dX7_warmAt_26 : decode cX7_warmAt 26 = .ok (.aload_n 0, 1) := by decide +kernel
theorem dX7_warmAt_27 : decode cX7_warmAt 27 = .ok (.invokevirtual 126, 3) := by decide +kernel
theorem dX7_warmAt_30 : decode cX7_warmAt 30 = .ok (.ireturn, 1) := by decide +kernel
theorem dX7_warmBy_0 : decode cX7_warmBy 0 = .ok (.iload_n 1, 1) := by decide +kernel
theorem dX7_warmBy_1 : decode cX7_warmBy 1 = .ok (.aload_n 0, 1) := by decide +kernel
theorem dX7_warmBy_2 : decode cX7_warmBy 2 = .ok (.getfield 22, 3) := by decide +kernel
theorem dX7_warmBy_5 : decode cX7_warmBy 5 = .ok (.bipush 28, 2) := by decide +kernel
theorem dX7_warmBy_7 : decode cX7_warmBy 7 = .ok (.iaload, 1) := by decide +kernel
theorem dX7_warmBy_8 : decode cX7_warmBy 8 = .ok (.bipush 99, 2) := by decide +kernel
theorem dX7_warmBy_10 : decode cX7_warmBy 10 = .ok (.invokestatic 54, 3) := by decide +kernel
theorem dX7_warmBy_13 : decode cX7_warmBy 13 = .ok (.ifCond .ne 5, 3) := by decide +kernel
theorem dX7_warmBy_16 : decode cX7_warmBy 16 = .ok (.iconst (-1), 1) := by decide +kernel
theorem dX7_warmBy_17 : decode cX7_warmBy 17 = .ok (.ireturn, 1) := by decide +kernel
theorem dX7_warmBy_18 : decode cX7_warmBy 18 = .ok (.aload_n 0, 1) := by decide +kernel
theorem dX7_warmBy_19 : decode cX7_warmBy 19 = .ok (.invokevirtual 129, 3) := by decide +kernel
theorem dX7_warmBy_22 : decode cX7_warmBy 22 = .ok (.aload_n 0, 1) := by decide +kernel
theorem dX7_warmBy_23 : decode cX7_warmBy 23 = .ok (.iload_n 1, 1) := by decide +kernel
theorem dX7_warmBy_24 : decode cX7_warmBy 24 = .ok (.invokevirtual 132, 3) := by decide +kernel
theorem dX7_warmBy_27 : decode cX7_warmBy 27 = .ok (.istore_n 2, 1) := by decide +kernel
theorem dX7_warmBy_28 : decode cX7_warmBy 28 = .ok (.aload_n 0, 1) := by decide +kernel
theorem dX7_warmBy_29 : decode cX7_warmBy 29 = .ok (.invokevirtual 135, 3) := by decide +kernel
theorem dX7_warmBy_32 : decode cX7_warmBy 32 = .ok (.iload_n 2, 1) := by decide +kernel
theorem dX7_warmBy_33 : decode cX7_warmBy 33 = .ok (.ireturn, 1) := by decide +kernel
theorem dX7_allWarm_0 : decode cX7_allWarm 0 = .ok (.aload_n 0, 1) := by decide +kernel
theorem dX7_allWarm_1 : decode cX7_allWarm 1 = .ok (.invokevirtual 129, 3) := by decide +kernel
theorem dX7_allWarm_4 : decode cX7_allWarm 4 = .ok (.bipush (-4), 2) := by decide +kernel
theorem dX7_allWarm_6 : decode cX7_allWarm 6 = .ok (.istore_n 1, 1) := by decide +kernel
theorem dX7_allWarm_7 : decode cX7_allWarm 7 = .ok (.aload_n 0, 1) := by decide +kernel
theorem dX7_allWarm_8 : decode cX7_allWarm 8 = .ok (.getfield 22, 3) := by decide +kernel
theorem dX7_allWarm_11 : decode cX7_allWarm 11 = .ok (.bipush 28, 2) := by decide +kernel
theorem dX7_allWarm_13 : decode cX7_allWarm 13 = .ok (.iaload, 1) := by decide +kernel
theorem dX7_allWarm_14 : decode cX7_allWarm 14 = .ok (.bipush 99, 2) := by decide +kernel
theorem dX7_allWarm_16 : decode cX7_allWarm 16 = .ok (.if_icmp .gt 50, 3) := by decide +kernel
theorem dX7_allWarm_19 : decode cX7_allWarm 19 = .ok (.iload_n 1, 1) := by decide +kernel
theorem dX7_allWarm_20 : decode cX7_allWarm 20 = .ok (.bipush (-4), 2) := by decide +kernel
theorem dX7_allWarm_22 : decode cX7_allWarm 22 = .ok (.if_icmp .ne 44, 3) := by decide +kernel
theorem dX7_allWarm_25 : decode cX7_allWarm 25 = .ok (.aload_n 0, 1) := by decide +kernel
theorem dX7_allWarm_26 : decode cX7_allWarm 26 = .ok (.invokevirtual 123, 3) := by decide +kernel
theorem dX7_allWarm_29 : decode cX7_allWarm 29 = .ok (.aload_n 0, 1) := by decide +kernel
theorem dX7_allWarm_30 : decode cX7_allWarm 30 = .ok (.invokevirtual 126, 3) := by decide +kernel
theorem dX7_allWarm_33 : decode cX7_allWarm 33 = .ok (.iconst 1, 1) := by decide +kernel
theorem dX7_allWarm_34 : decode cX7_allWarm 34 = .ok (.aload_n 0, 1) := by decide +kernel
theorem dX7_allWarm_35 : decode cX7_allWarm 35 = .ok (.getfield 13, 3) := by decide +kernel
theorem dX7_allWarm_38 : decode cX7_allWarm 38 = .ok (.iconst 1, 1) := by decide +kernel
theorem dX7_allWarm_39 : decode cX7_allWarm 39 = .ok (.iaload, 1) := by decide +kernel
theorem dX7_allWarm_40 : decode cX7_allWarm 40 = .ok (.ishl, 1) := by decide +kernel
theorem dX7_allWarm_41 : decode cX7_allWarm 41 = .ok (.iconst 1, 1) := by decide +kernel
theorem dX7_allWarm_42 : decode cX7_allWarm 42 = .ok (.isub, 1) := by decide +kernel
theorem dX7_allWarm_43 : decode cX7_allWarm 43 = .ok (.if_icmp .ne 13, 3) := by decide +kernel
theorem dX7_allWarm_46 : decode cX7_allWarm 46 = .ok (.aload_n 0, 1) := by decide +kernel
theorem dX7_allWarm_47 : decode cX7_allWarm 47 = .ok (.getfield 22, 3) := by decide +kernel
theorem dX7_allWarm_50 : decode cX7_allWarm 50 = .ok (.bipush 28, 2) := by decide +kernel
theorem dX7_allWarm_52 : decode cX7_allWarm 52 = .ok (.iaload, 1) := by decide +kernel
theorem dX7_allWarm_53 : decode cX7_allWarm 53 = .ok (.goto 5, 3) := by decide +kernel
theorem dX7_allWarm_56 : decode cX7_allWarm 56 = .ok (.bipush (-4), 2) := by decide +kernel
theorem dX7_allWarm_58 : decode cX7_allWarm 58 = .ok (.istore_n 1, 1) := by decide +kernel
theorem dX7_allWarm_59 : decode cX7_allWarm 59 = .ok (.aload_n 0, 1) := by decide +kernel
theorem dX7_allWarm_60 : decode cX7_allWarm 60 = .ok (.invokevirtual 120, 3) := by decide +kernel
theorem dX7_allWarm_63 : decode cX7_allWarm 63 = .ok (.goto (-56), 3) := by decide +kernel
theorem dX7_allWarm_66 : decode cX7_allWarm 66 = .ok (.aload_n 0, 1) := by decide +kernel
theorem dX7_allWarm_67 : decode cX7_allWarm 67 = .ok (.invokevirtual 135, 3) := by decide +kernel
theorem dX7_allWarm_70 : decode cX7_allWarm 70 = .ok (.iload_n 1, 1) := by decide +kernel
theorem dX7_allWarm_71 : decode cX7_allWarm 71 = .ok (.ireturn, 1) := by decide +kernel
theorem dX7_share_0 : decode cX7_share 0 = .ok (.iload_n 1, 1) := by decide +kernel
theorem dX7_share_1 : decode cX7_share 1 = .ok (.iconst (-1), 1) := by decide +kernel
theorem dX7_share_2 : decode cX7_share 2 = .ok (.if_icmp .eq 13, 3) := by decide +kernel
theorem dX7_share_5 : decode cX7_share 5 = .ok (.aload_n 0, 1) := by decide +kernel
theorem dX7_share_6 : decode cX7_share 6 = .ok (.iload_n 1, 1) := by decide +kernel
theorem dX7_share_7 : decode cX7_share 7 = .ok (.invokevirtual 90, 3) := by decide +kernel
theorem dX7_share_10 : decode cX7_share 10 = .ok (.ifCond .ne 5, 3) := by decide +kernel
theorem dX7_share_13 : decode cX7_share 13 = .ok (.iconst (-1), 1) := by decide +kernel
theorem dX7_share_14 : decode cX7_share 14 = .ok (.ireturn, 1) := by decide +kernel
theorem dX7_share_15 : decode cX7_share 15 = .ok (.aload_n 0, 1) := by decide +kernel
theorem dX7_share_16 : decode cX7_share 16 = .ok (.getfield 13, 3) := by decide +kernel
theorem dX7_share_19 : decode cX7_share 19 = .ok (.iconst 0, 1) := by decide +kernel
theorem dX7_share_20 : decode cX7_share 20 = .ok (.iaload, 1) := by decide +kernel
theorem dX7_share_21 : decode cX7_share 21 = .ok (.istore_n 2, 1) := by decide +kernel
theorem dX7_share_22 : decode cX7_share 22 = .ok (.aload_n 0, 1) := by decide +kernel
theorem dX7_share_23 : decode cX7_share 23 = .ok (.getfield 13, 3) := by decide +kernel
theorem dX7_share_26 : decode cX7_share 26 = .ok (.iconst 1, 1) := by decide +kernel
theorem dX7_share_27 : decode cX7_share 27 = .ok (.iaload, 1) := by decide +kernel
theorem dX7_share_28 : decode cX7_share 28 = .ok (.istore_n 3, 1) := by decide +kernel
theorem dX7_share_29 : decode cX7_share 29 = .ok (.iconst 1, 1) := by decide +kernel
theorem dX7_share_30 : decode cX7_share 30 = .ok (.istore 4, 2) := by decide +kernel
theorem dX7_share_32 : decode cX7_share 32 = .ok (.iconst 0, 1) := by decide +kernel
theorem dX7_share_33 : decode cX7_share 33 = .ok (.istore 5, 2) := by decide +kernel
theorem dX7_share_35 : decode cX7_share 35 = .ok (.iload 5, 2) := by decide +kernel
theorem dX7_share_37 : decode cX7_share 37 = .ok (.iload_n 2, 1) := by decide +kernel
theorem dX7_share_38 : decode cX7_share 38 = .ok (.if_icmp .ge 17, 3) := by decide +kernel
theorem dX7_share_41 : decode cX7_share 41 = .ok (.iload 4, 2) := by decide +kernel
theorem dX7_share_43 : decode cX7_share 43 = .ok (.iload_n 3, 1) := by decide +kernel
theorem dX7_share_44 : decode cX7_share 44 = .ok (.iconst 1, 1) := by decide +kernel
theorem dX7_share_45 : decode cX7_share 45 = .ok (.iadd, 1) := by decide +kernel
theorem dX7_share_46 : decode cX7_share 46 = .ok (.imul, 1) := by decide +kernel
theorem dX7_share_47 : decode cX7_share 47 = .ok (.istore 4, 2) := by decide +kernel
theorem dX7_share_49 : decode cX7_share 49 = .ok (.iinc 5 1, 3) := by decide +kernel
theorem dX7_share_52 : decode cX7_share 52 = .ok (.goto (-17), 3) := by decide +kernel
theorem dX7_share_55 : decode cX7_share 55 = .ok (.iconst (-1), 1) := by decide +kernel
theorem dX7_share_56 : decode cX7_share 56 = .ok (.istore 5, 2) := by decide +kernel
theorem dX7_share_58 : decode cX7_share 58 = .ok (.bipush (-4), 2) := by decide +kernel
theorem dX7_share_60 : decode cX7_share 60 = .ok (.istore 6, 2) := by decide +kernel
theorem dX7_share_62 : decode cX7_share 62 = .ok (.iconst 0, 1) := by decide +kernel
theorem dX7_share_63 : decode cX7_share 63 = .ok (.istore 7, 2) := by decide +kernel
theorem dX7_share_65 : decode cX7_share 65 = .ok (.iload 7, 2) := by decide +kernel
theorem dX7_share_67 : decode cX7_share 67 = .ok (.iload 4, 2) := by decide +kernel
theorem dX7_share_69 : decode cX7_share 69 = .ok (.if_icmp .ge 226, 3) := by decide +kernel
theorem dX7_share_72 : decode cX7_share 72 = .ok (.iload 7, 2) := by decide +kernel
theorem dX7_share_74 : decode cX7_share 74 = .ok (.istore 8, 2) := by decide +kernel
theorem dX7_share_76 : decode cX7_share 76 = .ok (.iconst 0, 1) := by decide +kernel
theorem dX7_share_77 : decode cX7_share 77 = .ok (.istore 9, 2) := by decide +kernel
theorem dX7_share_79 : decode cX7_share 79 = .ok (.iconst 1, 1) := by decide +kernel
theorem dX7_share_80 : decode cX7_share 80 = .ok (.istore 10, 2) := by decide +kernel
theorem dX7_share_82 : decode cX7_share 82 = .ok (.iconst 0, 1) := by decide +kernel
theorem dX7_share_83 : decode cX7_share 83 = .ok (.istore 11, 2) := by decide +kernel
theorem dX7_share_85 : decode cX7_share 85 = .ok (.iload 11, 2) := by decide +kernel
theorem dX7_share_87 : decode cX7_share 87 = .ok (.iload_n 3, 1) := by decide +kernel
theorem dX7_share_88 : decode cX7_share 88 = .ok (.if_icmp .ge 26, 3) := by decide +kernel
theorem dX7_share_91 : decode cX7_share 91 = .ok (.aload_n 0, 1) := by decide +kernel
theorem dX7_share_92 : decode cX7_share 92 = .ok (.getfield 34, 3) := by decide +kernel
theorem dX7_share_95 : decode cX7_share 95 = .ok (.iload 11, 2) := by decide +kernel
theorem dX7_share_97 : decode cX7_share 97 = .ok (.aload_n 0, 1) := by decide +kernel
theorem dX7_share_98 : decode cX7_share 98 = .ok (.getfield 22, 3) := by decide +kernel
theorem dX7_share_101 : decode cX7_share 101 = .ok (.bipush 24, 2) := by decide +kernel
theorem dX7_share_103 : decode cX7_share 103 = .ok (.iload 11, 2) := by decide +kernel
theorem dX7_share_105 : decode cX7_share 105 = .ok (.iadd, 1) := by decide +kernel
theorem dX7_share_106 : decode cX7_share 106 = .ok (.iaload, 1) := by decide +kernel
theorem dX7_share_107 : decode cX7_share 107 = .ok (.iastore, 1) := by decide +kernel
theorem dX7_share_108 : decode cX7_share 108 = .ok (.iinc 11 1, 3) := by decide +kernel
theorem dX7_share_111 : decode cX7_share 111 = .ok (.goto (-26), 3) := by decide +kernel
theorem dX7_share_114 : decode cX7_share 114 = .ok (.iload_n 2, 1) := by decide +kernel
theorem dX7_share_115 : decode cX7_share 115 = .ok (.iconst 1, 1) := by decide +kernel
theorem dX7_share_116 : decode cX7_share 116 = .ok (.isub, 1) := by decide +kernel
theorem dX7_share_117 : decode cX7_share 117 = .ok (.istore 11, 2) := by decide +kernel
theorem dX7_share_119 : decode cX7_share 119 = .ok (.iload 11, 2) := by decide +kernel
theorem dX7_share_121 : decode cX7_share 121 = .ok (.ifCond .lt 125, 3) := by decide +kernel
theorem dX7_share_124 : decode cX7_share 124 = .ok (.iload 10, 2) := by decide +kernel
theorem dX7_share_126 : decode cX7_share 126 = .ok (.ifCond .eq 120, 3) := by decide +kernel
theorem dX7_share_129 : decode cX7_share 129 = .ok (.iload 8, 2) := by decide +kernel
theorem dX7_share_131 : decode cX7_share 131 = .ok (.iload_n 3, 1) := by decide +kernel
theorem dX7_share_132 : decode cX7_share 132 = .ok (.iconst 1, 1) := by decide +kernel
theorem dX7_share_133 : decode cX7_share 133 = .ok (.iadd, 1) := by decide +kernel
theorem dX7_share_134 : decode cX7_share 134 = .ok (.irem, 1) := by decide +kernel
theorem dX7_share_135 : decode cX7_share 135 = .ok (.istore 12, 2) := by decide +kernel
theorem dX7_share_137 : decode cX7_share 137 = .ok (.iload 8, 2) := by decide +kernel
theorem dX7_share_139 : decode cX7_share 139 = .ok (.iload_n 3, 1) := by decide +kernel
theorem dX7_share_140 : decode cX7_share 140 = .ok (.iconst 1, 1) := by decide +kernel
theorem dX7_share_141 : decode cX7_share 141 = .ok (.iadd, 1) := by decide +kernel
theorem dX7_share_142 : decode cX7_share 142 = .ok (.idiv, 1) := by decide +kernel
theorem dX7_share_143 : decode cX7_share 143 = .ok (.istore 8, 2) := by decide +kernel
theorem dX7_share_145 : decode cX7_share 145 = .ok (.aload_n 0, 1) := by decide +kernel
theorem dX7_share_146 : decode cX7_share 146 = .ok (.getfield 37, 3) := by decide +kernel
theorem dX7_share_149 : decode cX7_share 149 = .ok (.iload 11, 2) := by decide +kernel
theorem dX7_share_151 : decode cX7_share 151 = .ok (.iload 12, 2) := by decide +kernel
theorem dX7_share_153 : decode cX7_share 153 = .ok (.iastore, 1) := by decide +kernel
theorem dX7_share_154 : decode cX7_share 154 = .ok (.iload 12, 2) := by decide +kernel
theorem dX7_share_156 : decode cX7_share 156 = .ok (.iload_n 3, 1) := by decide +kernel
theorem dX7_share_157 : decode cX7_share 157 = .ok (.if_icmp .ge 83, 3) := by decide +kernel
theorem dX7_share_160 : decode cX7_share 160 = .ok (.aload_n 0, 1) := by decide +kernel
theorem dX7_share_161 : decode cX7_share 161 = .ok (.getfield 22, 3) := by decide +kernel
theorem dX7_share_164 : decode cX7_share 164 = .ok (.bipush 8, 2) := by decide +kernel
theorem dX7_share_166 : decode cX7_share 166 = .ok (.iload 11, 2) := by decide +kernel
theorem dX7_share_168 : decode cX7_share 168 = .ok (.iadd, 1) := by decide +kernel
theorem dX7_share_169 : decode cX7_share 169 = .ok (.iaload, 1) := by decide +kernel
theorem dX7_share_170 : decode cX7_share 170 = .ok (.ifCond .ne 32, 3) := by decide +kernel
theorem dX7_share_173 : decode cX7_share 173 = .ok (.aload_n 0, 1) := by decide +kernel
theorem dX7_share_174 : decode cX7_share 174 = .ok (.iload 12, 2) := by decide +kernel
theorem dX7_share_176 : decode cX7_share 176 = .ok (.iload 11, 2) := by decide +kernel
theorem dX7_share_178 : decode cX7_share 178 = .ok (.aload_n 0, 1) := by decide +kernel
theorem dX7_share_179 : decode cX7_share 179 = .ok (.getfield 22, 3) := by decide +kernel
theorem dX7_share_182 : decode cX7_share 182 = .ok (.bipush 28, 2) := by decide +kernel
theorem dX7_share_184 : decode cX7_share 184 = .ok (.iaload, 1) := by decide +kernel
theorem dX7_share_185 : decode cX7_share 185 = .ok (.aload_n 0, 1) := by decide +kernel
theorem dX7_share_186 : decode cX7_share 186 = .ok (.getfield 34, 3) := by decide +kernel
theorem dX7_share_189 : decode cX7_share 189 = .ok (.iload 12, 2) := by decide +kernel
theorem dX7_share_191 : decode cX7_share 191 = .ok (.iaload, 1) := by decide +kernel
theorem dX7_share_192 : decode cX7_share 192 = .ok (.invokevirtual 106, 3) := by decide +kernel
theorem dX7_share_195 : decode cX7_share 195 = .ok (.ifCond .eq 7, 3) := by decide +kernel
theorem dX7_share_198 : decode cX7_share 198 = .ok (.iconst 1, 1) := by decide +kernel
theorem dX7_share_199 : decode cX7_share 199 = .ok (.goto 4, 3) := by decide +kernel
theorem dX7_share_202 : decode cX7_share 202 = .ok (.iconst 0, 1) := by decide +kernel
theorem dX7_share_203 : decode cX7_share 203 = .ok (.istore 10, 2) := by decide +kernel
theorem dX7_share_205 : decode cX7_share 205 = .ok (.aload_n 0, 1) := by decide +kernel
theorem dX7_share_206 : decode cX7_share 206 = .ok (.getfield 34, 3) := by decide +kernel
theorem dX7_share_209 : decode cX7_share 209 = .ok (.iload 12, 2) := by decide +kernel
theorem dX7_share_211 : decode cX7_share 211 = .ok (.dup2, 1) := by decide +kernel
theorem dX7_share_212 : decode cX7_share 212 = .ok (.iaload, 1) := by decide +kernel
theorem dX7_share_213 : decode cX7_share 213 = .ok (.aload_n 0, 1) := by decide +kernel
theorem dX7_share_214 : decode cX7_share 214 = .ok (.getfield 13, 3) := by decide +kernel
theorem dX7_share_217 : decode cX7_share 217 = .ok (.bipush 21, 2) := by decide +kernel
theorem dX7_share_219 : decode cX7_share 219 = .ok (.iload 11, 2) := by decide +kernel
theorem dX7_share_221 : decode cX7_share 221 = .ok (.iadd, 1) := by decide +kernel
theorem dX7_share_222 : decode cX7_share 222 = .ok (.iaload, 1) := by decide +kernel
theorem dX7_share_223 : decode cX7_share 223 = .ok (.iadd, 1) := by decide +kernel
theorem dX7_share_224 : decode cX7_share 224 = .ok (.iastore, 1) := by decide +kernel
theorem dX7_share_225 : decode cX7_share 225 = .ok (.iload 9, 2) := by decide +kernel
theorem dX7_share_227 : decode cX7_share 227 = .ok (.aload_n 0, 1) := by decide +kernel
theorem dX7_share_228 : decode cX7_share 228 = .ok (.getfield 13, 3) := by decide +kernel
theorem dX7_share_231 : decode cX7_share 231 = .ok (.bipush 21, 2) := by decide +kernel
theorem dX7_share_233 : decode cX7_share 233 = .ok (.iload 11, 2) := by decide +kernel
theorem dX7_share_235 : decode cX7_share 235 = .ok (.iadd, 1) := by decide +kernel
theorem dX7_share_236 : decode cX7_share 236 = .ok (.iaload, 1) := by decide +kernel
theorem dX7_share_237 : decode cX7_share 237 = .ok (.iadd, 1) := by decide +kernel
theorem dX7_share_238 : decode cX7_share 238 = .ok (.istore 9, 2) := by decide +kernel
theorem dX7_share_240 : decode cX7_share 240 = .ok (.iinc 11 (-1), 3) := by decide +kernel
theorem dX7_share_243 : decode cX7_share 243 = .ok (.goto (-124), 3) := by decide +kernel
theorem dX7_share_246 : decode cX7_share 246 = .ok (.iload 10, 2) := by decide +kernel
theorem dX7_share_248 : decode cX7_share 248 = .ok (.ifCond .eq 41, 3) := by decide +kernel
theorem dX7_share_251 : decode cX7_share 251 = .ok (.iload 9, 2) := by decide +kernel
theorem dX7_share_253 : decode cX7_share 253 = .ok (.iload 5, 2) := by decide +kernel
theorem dX7_share_255 : decode cX7_share 255 = .ok (.if_icmp .le 34, 3) := by decide +kernel
theorem dX7_share_258 : decode cX7_share 258 = .ok (.iload 9, 2) := by decide +kernel
theorem dX7_share_260 : decode cX7_share 260 = .ok (.istore 5, 2) := by decide +kernel
theorem dX7_share_262 : decode cX7_share 262 = .ok (.iload_n 1, 1) := by decide +kernel
theorem dX7_share_263 : decode cX7_share 263 = .ok (.ifCond .lt 13, 3) := by decide +kernel
theorem dX7_share_266 : decode cX7_share 266 = .ok (.aload_n 0, 1) := by decide +kernel
theorem dX7_share_267 : decode cX7_share 267 = .ok (.getfield 37, 3) := by decide +kernel
theorem dX7_share_270 : decode cX7_share 270 = .ok (.iload_n 1, 1) := by decide +kernel
theorem dX7_share_271 : decode cX7_share 271 = .ok (.iaload, 1) := by decide +kernel
theorem dX7_share_272 : decode cX7_share 272 = .ok (.iload_n 3, 1) := by decide +kernel
theorem dX7_share_273 : decode cX7_share 273 = .ok (.if_icmp .ne 8, 3) := by decide +kernel
theorem dX7_share_276 : decode cX7_share 276 = .ok (.bipush (-4), 2) := by decide +kernel
theorem dX7_share_278 : decode cX7_share 278 = .ok (.goto 9, 3) := by decide +kernel
theorem dX7_share_281 : decode cX7_share 281 = .ok (.aload_n 0, 1) := by decide +kernel
theorem dX7_share_282 : decode cX7_share 282 = .ok (.getfield 37, 3) := by decide +kernel
theorem dX7_share_285 : decode cX7_share 285 = .ok (.iload_n 1, 1) := by decide +kernel
theorem dX7_share_286 : decode cX7_share 286 = .ok (.iaload, 1) := by decide +kernel
theorem dX7_share_287 : decode cX7_share 287 = .ok (.istore 6, 2) := by decide +kernel
theorem dX7_share_289 : decode cX7_share 289 = .ok (.iinc 7 1, 3) := by decide +kernel
theorem dX7_share_292 : decode cX7_share 292 = .ok (.goto (-227), 3) := by decide +kernel
theorem dX7_share_295 : decode cX7_share 295 = .ok (.iload_n 1, 1) := by decide +kernel
theorem dX7_share_296 : decode cX7_share 296 = .ok (.ifCond .ge 8, 3) := by decide +kernel
theorem dX7_share_299 : decode cX7_share 299 = .ok (.iload 5, 2) := by decide +kernel
theorem dX7_share_301 : decode cX7_share 301 = .ok (.goto 5, 3) := by decide +kernel
theorem dX7_share_304 : decode cX7_share 304 = .ok (.iload 6, 2) := by decide +kernel
theorem dX7_share_306 : decode cX7_share 306 = .ok (.ireturn, 1) := by decide +kernel
theorem dX7_leastHook_0 : decode cX7_leastHook 0 = .ok (.aload_n 0, 1) := by decide +kernel
theorem dX7_leastHook_1 : decode cX7_leastHook 1 = .ok (.iload_n 1, 1) := by decide +kernel
theorem dX7_leastHook_2 : decode cX7_leastHook 2 = .ok (.invokevirtual 100, 3) := by decide +kernel
theorem dX7_leastHook_5 : decode cX7_leastHook 5 = .ok (.ifCond .ne 5, 3) := by decide +kernel
theorem dX7_leastHook_8 : decode cX7_leastHook 8 = .ok (.iconst (-1), 1) := by decide +kernel
theorem dX7_leastHook_9 : decode cX7_leastHook 9 = .ok (.ireturn, 1) := by decide +kernel
theorem dX7_leastHook_10 : decode cX7_leastHook 10 = .ok (.aload_n 0, 1) := by decide +kernel
theorem dX7_leastHook_11 : decode cX7_leastHook 11 = .ok (.invokevirtual 129, 3) := by decide +kernel
theorem dX7_leastHook_14 : decode cX7_leastHook 14 = .ok (.bipush (-4), 2) := by decide +kernel
theorem dX7_leastHook_16 : decode cX7_leastHook 16 = .ok (.istore_n 2, 1) := by decide +kernel
theorem dX7_leastHook_17 : decode cX7_leastHook 17 = .ok (.bipush 20, 2) := by decide +kernel
theorem dX7_leastHook_19 : decode cX7_leastHook 19 = .ok (.istore_n 3, 1) := by decide +kernel
theorem dX7_leastHook_20 : decode cX7_leastHook 20 = .ok (.iload_n 3, 1) := by decide +kernel
theorem dX7_leastHook_21 : decode cX7_leastHook 21 = .ok (.ifCond .le 43, 3) := by decide +kernel
theorem dX7_leastHook_24 : decode cX7_leastHook 24 = .ok (.aload_n 0, 1) := by decide +kernel
theorem dX7_leastHook_25 : decode cX7_leastHook 25 = .ok (.getfield 22, 3) := by decide +kernel
theorem dX7_leastHook_28 : decode cX7_leastHook 28 = .ok (.bipush 16, 2) := by decide +kernel
theorem dX7_leastHook_30 : decode cX7_leastHook 30 = .ok (.iload_n 1, 1) := by decide +kernel
theorem dX7_leastHook_31 : decode cX7_leastHook 31 = .ok (.iadd, 1) := by decide +kernel
theorem dX7_leastHook_32 : decode cX7_leastHook 32 = .ok (.iload_n 3, 1) := by decide +kernel
theorem dX7_leastHook_33 : decode cX7_leastHook 33 = .ok (.iastore, 1) := by decide +kernel
theorem dX7_leastHook_34 : decode cX7_leastHook 34 = .ok (.aload_n 0, 1) := by decide +kernel
theorem dX7_leastHook_35 : decode cX7_leastHook 35 = .ok (.bipush 99, 2) := by decide +kernel
theorem dX7_leastHook_37 : decode cX7_leastHook 37 = .ok (.invokevirtual 132, 3) := by decide +kernel
theorem dX7_leastHook_40 : decode cX7_leastHook 40 = .ok (.iload_n 1, 1) := by decide +kernel
theorem dX7_leastHook_41 : decode cX7_leastHook 41 = .ok (.ishr, 1) := by decide +kernel
theorem dX7_leastHook_42 : decode cX7_leastHook 42 = .ok (.iconst 1, 1) := by decide +kernel
theorem dX7_leastHook_43 : decode cX7_leastHook 43 = .ok (.iand, 1) := by decide +kernel
theorem dX7_leastHook_44 : decode cX7_leastHook 44 = .ok (.iconst 1, 1) := by decide +kernel
theorem dX7_leastHook_45 : decode cX7_leastHook 45 = .ok (.if_icmp .ne 7, 3) := by decide +kernel
theorem dX7_leastHook_48 : decode cX7_leastHook 48 = .ok (.iload_n 3, 1) := by decide +kernel
theorem dX7_leastHook_49 : decode cX7_leastHook 49 = .ok (.goto 4, 3) := by decide +kernel
theorem dX7_leastHook_52 : decode cX7_leastHook 52 = .ok (.iload_n 2, 1) := by decide +kernel
theorem dX7_leastHook_53 : decode cX7_leastHook 53 = .ok (.istore_n 2, 1) := by decide +kernel
theorem dX7_leastHook_54 : decode cX7_leastHook 54 = .ok (.aload_n 0, 1) := by decide +kernel
theorem dX7_leastHook_55 : decode cX7_leastHook 55 = .ok (.invokevirtual 135, 3) := by decide +kernel
theorem dX7_leastHook_58 : decode cX7_leastHook 58 = .ok (.iinc 3 (-1), 3) := by decide +kernel
theorem dX7_leastHook_61 : decode cX7_leastHook 61 = .ok (.goto (-41), 3) := by decide +kernel
theorem dX7_leastHook_64 : decode cX7_leastHook 64 = .ok (.iload_n 2, 1) := by decide +kernel
theorem dX7_leastHook_65 : decode cX7_leastHook 65 = .ok (.ireturn, 1) := by decide +kernel
theorem dX7_pole_0 : decode cX7_pole 0 = .ok (.aload_n 0, 1) := by decide +kernel
theorem dX7_pole_1 : decode cX7_pole 1 = .ok (.invokevirtual 129, 3) := by decide +kernel
theorem dX7_pole_4 : decode cX7_pole 4 = .ok (.bipush (-4), 2) := by decide +kernel
theorem dX7_pole_6 : decode cX7_pole 6 = .ok (.istore_n 1, 1) := by decide +kernel
theorem dX7_pole_7 : decode cX7_pole 7 = .ok (.bipush 20, 2) := by decide +kernel
theorem dX7_pole_9 : decode cX7_pole 9 = .ok (.istore_n 2, 1) := by decide +kernel
theorem dX7_pole_10 : decode cX7_pole 10 = .ok (.iload_n 2, 1) := by decide +kernel
theorem dX7_pole_11 : decode cX7_pole 11 = .ok (.ifCond .le 86, 3) := by decide +kernel
theorem dX7_pole_14 : decode cX7_pole 14 = .ok (.iconst 0, 1) := by decide +kernel
theorem dX7_pole_15 : decode cX7_pole 15 = .ok (.istore_n 3, 1) := by decide +kernel
theorem dX7_pole_16 : decode cX7_pole 16 = .ok (.iload_n 3, 1) := by decide +kernel
theorem dX7_pole_17 : decode cX7_pole 17 = .ok (.iconst 4, 1) := by decide +kernel
theorem dX7_pole_18 : decode cX7_pole 18 = .ok (.if_icmp .ge 44, 3) := by decide +kernel
theorem dX7_pole_21 : decode cX7_pole 21 = .ok (.aload_n 0, 1) := by decide +kernel
theorem dX7_pole_22 : decode cX7_pole 22 = .ok (.getfield 22, 3) := by decide +kernel
theorem dX7_pole_25 : decode cX7_pole 25 = .ok (.bipush 16, 2) := by decide +kernel
theorem dX7_pole_27 : decode cX7_pole 27 = .ok (.iload_n 3, 1) := by decide +kernel
theorem dX7_pole_28 : decode cX7_pole 28 = .ok (.iadd, 1) := by decide +kernel
theorem dX7_pole_29 : decode cX7_pole 29 = .ok (.aload_n 0, 1) := by decide +kernel
theorem dX7_pole_30 : decode cX7_pole 30 = .ok (.getfield 22, 3) := by decide +kernel
theorem dX7_pole_33 : decode cX7_pole 33 = .ok (.bipush 16, 2) := by decide +kernel
theorem dX7_pole_35 : decode cX7_pole 35 = .ok (.iload_n 3, 1) := by decide +kernel
theorem dX7_pole_36 : decode cX7_pole 36 = .ok (.iadd, 1) := by decide +kernel
theorem dX7_pole_37 : decode cX7_pole 37 = .ok (.iaload, 1) := by decide +kernel
theorem dX7_pole_38 : decode cX7_pole 38 = .ok (.iload_n 2, 1) := by decide +kernel
theorem dX7_pole_39 : decode cX7_pole 39 = .ok (.if_icmp .le 7, 3) := by decide +kernel
theorem dX7_pole_42 : decode cX7_pole 42 = .ok (.iload_n 2, 1) := by decide +kernel
theorem dX7_pole_43 : decode cX7_pole 43 = .ok (.goto 12, 3) := by decide +kernel
theorem dX7_pole_46 : decode cX7_pole 46 = .ok (.aload_n 0, 1) := by decide +kernel
theorem dX7_pole_47 : decode cX7_pole 47 = .ok (.getfield 22, 3) := by decide +kernel
theorem dX7_pole_50 : decode cX7_pole 50 = .ok (.bipush 16, 2) := by decide +kernel
theorem dX7_pole_52 : decode cX7_pole 52 = .ok (.iload_n 3, 1) := by decide +kernel
theorem dX7_pole_53 : decode cX7_pole 53 = .ok (.iadd, 1) := by decide +kernel
theorem dX7_pole_54 : decode cX7_pole 54 = .ok (.iaload, 1) := by decide +kernel
theorem dX7_pole_55 : decode cX7_pole 55 = .ok (.iastore, 1) := by decide +kernel
theorem dX7_pole_56 : decode cX7_pole 56 = .ok (.iinc 3 1, 3) := by decide +kernel
theorem dX7_pole_59 : decode cX7_pole 59 = .ok (.goto (-43), 3) := by decide +kernel
theorem dX7_pole_62 : decode cX7_pole 62 = .ok (.aload_n 0, 1) := by decide +kernel
theorem dX7_pole_63 : decode cX7_pole 63 = .ok (.bipush 99, 2) := by decide +kernel
theorem dX7_pole_65 : decode cX7_pole 65 = .ok (.invokevirtual 132, 3) := by decide +kernel
theorem dX7_pole_68 : decode cX7_pole 68 = .ok (.iconst 1, 1) := by decide +kernel
theorem dX7_pole_69 : decode cX7_pole 69 = .ok (.aload_n 0, 1) := by decide +kernel
theorem dX7_pole_70 : decode cX7_pole 70 = .ok (.getfield 13, 3) := by decide +kernel
theorem dX7_pole_73 : decode cX7_pole 73 = .ok (.iconst 1, 1) := by decide +kernel
theorem dX7_pole_74 : decode cX7_pole 74 = .ok (.iaload, 1) := by decide +kernel
theorem dX7_pole_75 : decode cX7_pole 75 = .ok (.ishl, 1) := by decide +kernel
theorem dX7_pole_76 : decode cX7_pole 76 = .ok (.iconst 1, 1) := by decide +kernel
theorem dX7_pole_77 : decode cX7_pole 77 = .ok (.isub, 1) := by decide +kernel
theorem dX7_pole_78 : decode cX7_pole 78 = .ok (.if_icmp .ne 7, 3) := by decide +kernel
theorem dX7_pole_81 : decode cX7_pole 81 = .ok (.iload_n 2, 1) := by decide +kernel
theorem dX7_pole_82 : decode cX7_pole 82 = .ok (.goto 4, 3) := by decide +kernel
theorem dX7_pole_85 : decode cX7_pole 85 = .ok (.iload_n 1, 1) := by decide +kernel
theorem dX7_pole_86 : decode cX7_pole 86 = .ok (.istore_n 1, 1) := by decide +kernel
theorem dX7_pole_87 : decode cX7_pole 87 = .ok (.aload_n 0, 1) := by decide +kernel
theorem dX7_pole_88 : decode cX7_pole 88 = .ok (.invokevirtual 135, 3) := by decide +kernel
theorem dX7_pole_91 : decode cX7_pole 91 = .ok (.iinc 2 (-1), 3) := by decide +kernel
theorem dX7_pole_94 : decode cX7_pole 94 = .ok (.goto (-84), 3) := by decide +kernel
theorem dX7_pole_97 : decode cX7_pole 97 = .ok (.iload_n 1, 1) := by decide +kernel
theorem dX7_pole_98 : decode cX7_pole 98 = .ok (.ireturn, 1) := by decide +kernel
theorem dX7_firstOf_0 : decode cX7_firstOf 0 = .ok (.bipush (-4), 2) := by decide +kernel
theorem dX7_firstOf_2 : decode cX7_firstOf 2 = .ok (.istore_n 3, 1) := by decide +kernel
theorem dX7_firstOf_3 : decode cX7_firstOf 3 = .ok (.bipush 99, 2) := by decide +kernel
theorem dX7_firstOf_5 : decode cX7_firstOf 5 = .ok (.istore 4, 2) := by decide +kernel
theorem dX7_firstOf_7 : decode cX7_firstOf 7 = .ok (.iload 4, 2) := by decide +kernel
theorem dX7_firstOf_9 : decode cX7_firstOf 9 = .ok (.aload_n 0, 1) := by decide +kernel
theorem dX7_firstOf_10 : decode cX7_firstOf 10 = .ok (.getfield 22, 3) := by decide +kernel
theorem dX7_firstOf_13 : decode cX7_firstOf 13 = .ok (.bipush 28, 2) := by decide +kernel
theorem dX7_firstOf_15 : decode cX7_firstOf 15 = .ok (.iaload, 1) := by decide +kernel
theorem dX7_firstOf_16 : decode cX7_firstOf 16 = .ok (.if_icmp .lt 40, 3) := by decide +kernel
theorem dX7_firstOf_19 : decode cX7_firstOf 19 = .ok (.aload_n 0, 1) := by decide +kernel
theorem dX7_firstOf_20 : decode cX7_firstOf 20 = .ok (.getfield 22, 3) := by decide +kernel
theorem dX7_firstOf_23 : decode cX7_firstOf 23 = .ok (.bipush 8, 2) := by decide +kernel
theorem dX7_firstOf_25 : decode cX7_firstOf 25 = .ok (.iload_n 2, 1) := by decide +kernel
theorem dX7_firstOf_26 : decode cX7_firstOf 26 = .ok (.iadd, 1) := by decide +kernel
theorem dX7_firstOf_27 : decode cX7_firstOf 27 = .ok (.iaload, 1) := by decide +kernel
theorem dX7_firstOf_28 : decode cX7_firstOf 28 = .ok (.ifCond .ne 20, 3) := by decide +kernel
theorem dX7_firstOf_31 : decode cX7_firstOf 31 = .ok (.aload_n 0, 1) := by decide +kernel
theorem dX7_firstOf_32 : decode cX7_firstOf 32 = .ok (.iload_n 1, 1) := by decide +kernel
theorem dX7_firstOf_33 : decode cX7_firstOf 33 = .ok (.iload_n 2, 1) := by decide +kernel
theorem dX7_firstOf_34 : decode cX7_firstOf 34 = .ok (.iload 4, 2) := by decide +kernel
theorem dX7_firstOf_36 : decode cX7_firstOf 36 = .ok (.iconst 0, 1) := by decide +kernel
theorem dX7_firstOf_37 : decode cX7_firstOf 37 = .ok (.invokevirtual 106, 3) := by decide +kernel
theorem dX7_firstOf_40 : decode cX7_firstOf 40 = .ok (.ifCond .eq 8, 3) := by decide +kernel
theorem dX7_firstOf_43 : decode cX7_firstOf 43 = .ok (.iload 4, 2) := by decide +kernel
theorem dX7_firstOf_45 : decode cX7_firstOf 45 = .ok (.goto 4, 3) := by decide +kernel
theorem dX7_firstOf_48 : decode cX7_firstOf 48 = .ok (.iload_n 3, 1) := by decide +kernel
theorem dX7_firstOf_49 : decode cX7_firstOf 49 = .ok (.istore_n 3, 1) := by decide +kernel
theorem dX7_firstOf_50 : decode cX7_firstOf 50 = .ok (.iinc 4 (-1), 3) := by decide +kernel
theorem dX7_firstOf_53 : decode cX7_firstOf 53 = .ok (.goto (-46), 3) := by decide +kernel
theorem dX7_firstOf_56 : decode cX7_firstOf 56 = .ok (.iload_n 3, 1) := by decide +kernel
theorem dX7_firstOf_57 : decode cX7_firstOf 57 = .ok (.ireturn, 1) := by decide +kernel
theorem dX7_firstDay_0 : decode cX7_firstDay 0 = .ok (.aload_n 0, 1) := by decide +kernel
theorem dX7_firstDay_1 : decode cX7_firstDay 1 = .ok (.iload_n 1, 1) := by decide +kernel
theorem dX7_firstDay_2 : decode cX7_firstDay 2 = .ok (.invokevirtual 100, 3) := by decide +kernel
theorem dX7_firstDay_5 : decode cX7_firstDay 5 = .ok (.ifCond .eq 20, 3) := by decide +kernel
theorem dX7_firstDay_8 : decode cX7_firstDay 8 = .ok (.aload_n 0, 1) := by decide +kernel
theorem dX7_firstDay_9 : decode cX7_firstDay 9 = .ok (.iload_n 2, 1) := by decide +kernel
theorem dX7_firstDay_10 : decode cX7_firstDay 10 = .ok (.invokevirtual 90, 3) := by decide +kernel
theorem dX7_firstDay_13 : decode cX7_firstDay 13 = .ok (.ifCond .eq 12, 3) := by decide +kernel
theorem dX7_firstDay_16 : decode cX7_firstDay 16 = .ok (.aload_n 0, 1) := by decide +kernel
theorem dX7_firstDay_17 : decode cX7_firstDay 17 = .ok (.iload_n 1, 1) := by decide +kernel
theorem dX7_firstDay_18 : decode cX7_firstDay 18 = .ok (.iload_n 2, 1) := by decide +kernel
theorem dX7_firstDay_19 : decode cX7_firstDay 19 = .ok (.invokevirtual 138, 3) := by decide +kernel
theorem dX7_firstDay_22 : decode cX7_firstDay 22 = .ok (.goto 4, 3) := by decide +kernel
theorem dX7_firstDay_25 : decode cX7_firstDay 25 = .ok (.iconst (-1), 1) := by decide +kernel
theorem dX7_firstDay_26 : decode cX7_firstDay 26 = .ok (.ireturn, 1) := by decide +kernel
theorem dX7_sticks_0 : decode cX7_sticks 0 = .ok (.iload_n 1, 1) := by decide +kernel
theorem dX7_sticks_1 : decode cX7_sticks 1 = .ok (.iconst 0, 1) := by decide +kernel
theorem dX7_sticks_2 : decode cX7_sticks 2 = .ok (.bipush 99, 2) := by decide +kernel
theorem dX7_sticks_4 : decode cX7_sticks 4 = .ok (.invokestatic 54, 3) := by decide +kernel
theorem dX7_sticks_7 : decode cX7_sticks 7 = .ok (.ifCond .eq 12, 3) := by decide +kernel
theorem dX7_sticks_10 : decode cX7_sticks 10 = .ok (.iload_n 2, 1) := by decide +kernel
theorem dX7_sticks_11 : decode cX7_sticks 11 = .ok (.iconst 0, 1) := by decide +kernel
theorem dX7_sticks_12 : decode cX7_sticks 12 = .ok (.iconst 1, 1) := by decide +kernel
theorem dX7_sticks_13 : decode cX7_sticks 13 = .ok (.invokestatic 54, 3) := by decide +kernel
theorem dX7_sticks_16 : decode cX7_sticks 16 = .ok (.ifCond .ne 5, 3) := by decide +kernel
theorem dX7_sticks_19 : decode cX7_sticks 19 = .ok (.iconst (-1), 1) := by decide +kernel
theorem dX7_sticks_20 : decode cX7_sticks 20 = .ok (.ireturn, 1) := by decide +kernel
theorem dX7_sticks_21 : decode cX7_sticks 21 = .ok (.iconst 0, 1) := by decide +kernel
theorem dX7_sticks_22 : decode cX7_sticks 22 = .ok (.istore_n 3, 1) := by decide +kernel
theorem dX7_sticks_23 : decode cX7_sticks 23 = .ok (.bipush (-4), 2) := by decide +kernel
theorem dX7_sticks_25 : decode cX7_sticks 25 = .ok (.istore 4, 2) := by decide +kernel
theorem dX7_sticks_27 : decode cX7_sticks 27 = .ok (.iconst 1, 1) := by decide +kernel
theorem dX7_sticks_28 : decode cX7_sticks 28 = .ok (.aload_n 0, 1) := by decide +kernel
theorem dX7_sticks_29 : decode cX7_sticks 29 = .ok (.getfield 13, 3) := by decide +kernel
theorem dX7_sticks_32 : decode cX7_sticks 32 = .ok (.iconst 0, 1) := by decide +kernel
theorem dX7_sticks_33 : decode cX7_sticks 33 = .ok (.iaload, 1) := by decide +kernel
theorem dX7_sticks_34 : decode cX7_sticks 34 = .ok (.ishl, 1) := by decide +kernel
theorem dX7_sticks_35 : decode cX7_sticks 35 = .ok (.iconst 1, 1) := by decide +kernel
theorem dX7_sticks_36 : decode cX7_sticks 36 = .ok (.isub, 1) := by decide +kernel
theorem dX7_sticks_37 : decode cX7_sticks 37 = .ok (.istore 5, 2) := by decide +kernel
theorem dX7_sticks_39 : decode cX7_sticks 39 = .ok (.iload 5, 2) := by decide +kernel
theorem dX7_sticks_41 : decode cX7_sticks 41 = .ok (.ifCond .lt 147, 3) := by decide +kernel
theorem dX7_sticks_44 : decode cX7_sticks 44 = .ok (.iconst 0, 1) := by decide +kernel
theorem dX7_sticks_45 : decode cX7_sticks 45 = .ok (.istore 6, 2) := by decide +kernel
theorem dX7_sticks_47 : decode cX7_sticks 47 = .ok (.iconst 1, 1) := by decide +kernel
theorem dX7_sticks_48 : decode cX7_sticks 48 = .ok (.istore 7, 2) := by decide +kernel
theorem dX7_sticks_50 : decode cX7_sticks 50 = .ok (.iconst 0, 1) := by decide +kernel
theorem dX7_sticks_51 : decode cX7_sticks 51 = .ok (.istore 8, 2) := by decide +kernel
theorem dX7_sticks_53 : decode cX7_sticks 53 = .ok (.iload 8, 2) := by decide +kernel
theorem dX7_sticks_55 : decode cX7_sticks 55 = .ok (.aload_n 0, 1) := by decide +kernel
theorem dX7_sticks_56 : decode cX7_sticks 56 = .ok (.getfield 13, 3) := by decide +kernel
theorem dX7_sticks_59 : decode cX7_sticks 59 = .ok (.iconst 0, 1) := by decide +kernel
theorem dX7_sticks_60 : decode cX7_sticks 60 = .ok (.iaload, 1) := by decide +kernel
theorem dX7_sticks_61 : decode cX7_sticks 61 = .ok (.if_icmp .ge 82, 3) := by decide +kernel
theorem dX7_sticks_64 : decode cX7_sticks 64 = .ok (.iload 5, 2) := by decide +kernel
theorem dX7_sticks_66 : decode cX7_sticks 66 = .ok (.iload 8, 2) := by decide +kernel
theorem dX7_sticks_68 : decode cX7_sticks 68 = .ok (.ishr, 1) := by decide +kernel
theorem dX7_sticks_69 : decode cX7_sticks 69 = .ok (.iconst 1, 1) := by decide +kernel
theorem dX7_sticks_70 : decode cX7_sticks 70 = .ok (.iand, 1) := by decide +kernel
theorem dX7_sticks_71 : decode cX7_sticks 71 = .ok (.iconst 1, 1) := by decide +kernel
theorem dX7_sticks_72 : decode cX7_sticks 72 = .ok (.if_icmp .ne 7, 3) := by decide +kernel
theorem dX7_sticks_75 : decode cX7_sticks 75 = .ok (.iconst 1, 1) := by decide +kernel
theorem dX7_sticks_76 : decode cX7_sticks 76 = .ok (.goto 4, 3) := by decide +kernel
theorem dX7_sticks_79 : decode cX7_sticks 79 = .ok (.iconst 0, 1) := by decide +kernel
theorem dX7_sticks_80 : decode cX7_sticks 80 = .ok (.istore 9, 2) := by decide +kernel
theorem dX7_sticks_82 : decode cX7_sticks 82 = .ok (.iload 7, 2) := by decide +kernel
theorem dX7_sticks_84 : decode cX7_sticks 84 = .ok (.ifCond .eq 26, 3) := by decide +kernel
theorem dX7_sticks_87 : decode cX7_sticks 87 = .ok (.iload 9, 2) := by decide +kernel
theorem dX7_sticks_89 : decode cX7_sticks 89 = .ok (.ifCond .eq 17, 3) := by decide +kernel
theorem dX7_sticks_92 : decode cX7_sticks 92 = .ok (.aload_n 0, 1) := by decide +kernel
theorem dX7_sticks_93 : decode cX7_sticks 93 = .ok (.getfield 22, 3) := by decide +kernel
theorem dX7_sticks_96 : decode cX7_sticks 96 = .ok (.bipush 8, 2) := by decide +kernel
theorem dX7_sticks_98 : decode cX7_sticks 98 = .ok (.iload 8, 2) := by decide +kernel
theorem dX7_sticks_100 : decode cX7_sticks 100 = .ok (.iadd, 1) := by decide +kernel
theorem dX7_sticks_101 : decode cX7_sticks 101 = .ok (.iaload, 1) := by decide +kernel
theorem dX7_sticks_102 : decode cX7_sticks 102 = .ok (.iconst 1, 1) := by decide +kernel
theorem dX7_sticks_103 : decode cX7_sticks 103 = .ok (.if_icmp .ne 7, 3) := by decide +kernel
theorem dX7_sticks_106 : decode cX7_sticks 106 = .ok (.iconst 1, 1) := by decide +kernel
theorem dX7_sticks_107 : decode cX7_sticks 107 = .ok (.goto 4, 3) := by decide +kernel
theorem dX7_sticks_110 : decode cX7_sticks 110 = .ok (.iconst 0, 1) := by decide +kernel
theorem dX7_sticks_111 : decode cX7_sticks 111 = .ok (.istore 7, 2) := by decide +kernel
theorem dX7_sticks_113 : decode cX7_sticks 113 = .ok (.iload 6, 2) := by decide +kernel
theorem dX7_sticks_115 : decode cX7_sticks 115 = .ok (.iload 9, 2) := by decide +kernel
theorem dX7_sticks_117 : decode cX7_sticks 117 = .ok (.ifCond .eq 16, 3) := by decide +kernel
theorem dX7_sticks_120 : decode cX7_sticks 120 = .ok (.aload_n 0, 1) := by decide +kernel
theorem dX7_sticks_121 : decode cX7_sticks 121 = .ok (.getfield 13, 3) := by decide +kernel
theorem dX7_sticks_124 : decode cX7_sticks 124 = .ok (.bipush 21, 2) := by decide +kernel
theorem dX7_sticks_126 : decode cX7_sticks 126 = .ok (.iload 8, 2) := by decide +kernel
theorem dX7_sticks_128 : decode cX7_sticks 128 = .ok (.iadd, 1) := by decide +kernel
theorem dX7_sticks_129 : decode cX7_sticks 129 = .ok (.iaload, 1) := by decide +kernel
theorem dX7_sticks_130 : decode cX7_sticks 130 = .ok (.goto 4, 3) := by decide +kernel
theorem dX7_sticks_133 : decode cX7_sticks 133 = .ok (.iconst 0, 1) := by decide +kernel
theorem dX7_sticks_134 : decode cX7_sticks 134 = .ok (.iadd, 1) := by decide +kernel
theorem dX7_sticks_135 : decode cX7_sticks 135 = .ok (.istore 6, 2) := by decide +kernel
end
section
theorem dX7_sticks_137 : decode cX7_sticks 137 = .ok (.iinc 8 1, 3) := by decide +kernel
theorem dX7_sticks_140 : decode cX7_sticks 140 = .ok (.goto (-87), 3) := by decide +kernel
theorem dX7_sticks_143 : decode cX7_sticks 143 = .ok (.iload_n 3, 1) := by decide +kernel
theorem dX7_sticks_144 : decode cX7_sticks 144 = .ok (.iload 7, 2) := by decide +kernel
theorem dX7_sticks_146 : decode cX7_sticks 146 = .ok (.ifCond .eq 13, 3) := by decide +kernel
theorem dX7_sticks_149 : decode cX7_sticks 149 = .ok (.iload 6, 2) := by decide +kernel
theorem dX7_sticks_151 : decode cX7_sticks 151 = .ok (.iload_n 1, 1) := by decide +kernel
theorem dX7_sticks_152 : decode cX7_sticks 152 = .ok (.if_icmp .ne 7, 3) := by decide +kernel
theorem dX7_sticks_155 : decode cX7_sticks 155 = .ok (.iconst 1, 1) := by decide +kernel
theorem dX7_sticks_156 : decode cX7_sticks 156 = .ok (.goto 4, 3) := by decide +kernel
theorem dX7_sticks_159 : decode cX7_sticks 159 = .ok (.iconst 0, 1) := by decide +kernel
theorem dX7_sticks_160 : decode cX7_sticks 160 = .ok (.iadd, 1) := by decide +kernel
theorem dX7_sticks_161 : decode cX7_sticks 161 = .ok (.istore_n 3, 1) := by decide +kernel
theorem dX7_sticks_162 : decode cX7_sticks 162 = .ok (.iload 7, 2) := by decide +kernel
theorem dX7_sticks_164 : decode cX7_sticks 164 = .ok (.ifCond .eq 14, 3) := by decide +kernel
theorem dX7_sticks_167 : decode cX7_sticks 167 = .ok (.iload 6, 2) := by decide +kernel
theorem dX7_sticks_169 : decode cX7_sticks 169 = .ok (.iload_n 1, 1) := by decide +kernel
theorem dX7_sticks_170 : decode cX7_sticks 170 = .ok (.if_icmp .ne 8, 3) := by decide +kernel
theorem dX7_sticks_173 : decode cX7_sticks 173 = .ok (.iload 5, 2) := by decide +kernel
theorem dX7_sticks_175 : decode cX7_sticks 175 = .ok (.goto 5, 3) := by decide +kernel
theorem dX7_sticks_178 : decode cX7_sticks 178 = .ok (.iload 4, 2) := by decide +kernel
theorem dX7_sticks_180 : decode cX7_sticks 180 = .ok (.istore 4, 2) := by decide +kernel
theorem dX7_sticks_182 : decode cX7_sticks 182 = .ok (.iinc 5 (-1), 3) := by decide +kernel
theorem dX7_sticks_185 : decode cX7_sticks 185 = .ok (.goto (-146), 3) := by decide +kernel
theorem dX7_sticks_188 : decode cX7_sticks 188 = .ok (.iload_n 2, 1) := by decide +kernel
theorem dX7_sticks_189 : decode cX7_sticks 189 = .ok (.ifCond .ne 7, 3) := by decide +kernel
theorem dX7_sticks_192 : decode cX7_sticks 192 = .ok (.iload_n 3, 1) := by decide +kernel
theorem dX7_sticks_193 : decode cX7_sticks 193 = .ok (.goto 5, 3) := by decide +kernel
theorem dX7_sticks_196 : decode cX7_sticks 196 = .ok (.iload 4, 2) := by decide +kernel
theorem dX7_sticks_198 : decode cX7_sticks 198 = .ok (.ireturn, 1) := by decide +kernel
theorem dX7_whose_0 : decode cX7_whose 0 = .ok (.aload_n 0, 1) := by decide +kernel
theorem dX7_whose_1 : decode cX7_whose 1 = .ok (.iload_n 1, 1) := by decide +kernel
theorem dX7_whose_2 : decode cX7_whose 2 = .ok (.invokevirtual 90, 3) := by decide +kernel
theorem dX7_whose_5 : decode cX7_whose 5 = .ok (.ifCond .eq 13, 3) := by decide +kernel
theorem dX7_whose_8 : decode cX7_whose 8 = .ok (.iload_n 2, 1) := by decide +kernel
theorem dX7_whose_9 : decode cX7_whose 9 = .ok (.iconst 0, 1) := by decide +kernel
theorem dX7_whose_10 : decode cX7_whose 10 = .ok (.bipush 99, 2) := by decide +kernel
theorem dX7_whose_12 : decode cX7_whose 12 = .ok (.invokestatic 54, 3) := by decide +kernel
theorem dX7_whose_15 : decode cX7_whose 15 = .ok (.ifCond .ne 5, 3) := by decide +kernel
theorem dX7_whose_18 : decode cX7_whose 18 = .ok (.iconst (-1), 1) := by decide +kernel
theorem dX7_whose_19 : decode cX7_whose 19 = .ok (.ireturn, 1) := by decide +kernel
theorem dX7_whose_20 : decode cX7_whose 20 = .ok (.iconst 0, 1) := by decide +kernel
theorem dX7_whose_21 : decode cX7_whose 21 = .ok (.istore_n 3, 1) := by decide +kernel
theorem dX7_whose_22 : decode cX7_whose 22 = .ok (.iconst 0, 1) := by decide +kernel
theorem dX7_whose_23 : decode cX7_whose 23 = .ok (.istore 4, 2) := by decide +kernel
theorem dX7_whose_25 : decode cX7_whose 25 = .ok (.iload 4, 2) := by decide +kernel
theorem dX7_whose_27 : decode cX7_whose 27 = .ok (.aload_n 0, 1) := by decide +kernel
theorem dX7_whose_28 : decode cX7_whose 28 = .ok (.getfield 13, 3) := by decide +kernel
theorem dX7_whose_31 : decode cX7_whose 31 = .ok (.iconst 1, 1) := by decide +kernel
theorem dX7_whose_32 : decode cX7_whose 32 = .ok (.iaload, 1) := by decide +kernel
theorem dX7_whose_33 : decode cX7_whose 33 = .ok (.if_icmp .ge 32, 3) := by decide +kernel
theorem dX7_whose_36 : decode cX7_whose 36 = .ok (.iload_n 3, 1) := by decide +kernel
theorem dX7_whose_37 : decode cX7_whose 37 = .ok (.aload_n 0, 1) := by decide +kernel
theorem dX7_whose_38 : decode cX7_whose 38 = .ok (.iload 4, 2) := by decide +kernel
theorem dX7_whose_40 : decode cX7_whose 40 = .ok (.iload_n 1, 1) := by decide +kernel
theorem dX7_whose_41 : decode cX7_whose 41 = .ok (.iload_n 2, 1) := by decide +kernel
theorem dX7_whose_42 : decode cX7_whose 42 = .ok (.iconst 0, 1) := by decide +kernel
theorem dX7_whose_43 : decode cX7_whose 43 = .ok (.invokevirtual 106, 3) := by decide +kernel
theorem dX7_whose_46 : decode cX7_whose 46 = .ok (.ifCond .eq 10, 3) := by decide +kernel
theorem dX7_whose_49 : decode cX7_whose 49 = .ok (.iconst 1, 1) := by decide +kernel
theorem dX7_whose_50 : decode cX7_whose 50 = .ok (.iload 4, 2) := by decide +kernel
theorem dX7_whose_52 : decode cX7_whose 52 = .ok (.ishl, 1) := by decide +kernel
theorem dX7_whose_53 : decode cX7_whose 53 = .ok (.goto 4, 3) := by decide +kernel
theorem dX7_whose_56 : decode cX7_whose 56 = .ok (.iconst 0, 1) := by decide +kernel
theorem dX7_whose_57 : decode cX7_whose 57 = .ok (.ior, 1) := by decide +kernel
theorem dX7_whose_58 : decode cX7_whose 58 = .ok (.istore_n 3, 1) := by decide +kernel
theorem dX7_whose_59 : decode cX7_whose 59 = .ok (.iinc 4 1, 3) := by decide +kernel
theorem dX7_whose_62 : decode cX7_whose 62 = .ok (.goto (-37), 3) := by decide +kernel
theorem dX7_whose_65 : decode cX7_whose 65 = .ok (.iload_n 3, 1) := by decide +kernel
theorem dX7_whose_66 : decode cX7_whose 66 = .ok (.ireturn, 1) := by decide +kernel
theorem dX7_sure_0 : decode cX7_sure 0 = .ok (.aload_n 0, 1) := by decide +kernel
theorem dX7_sure_1 : decode cX7_sure 1 = .ok (.iload_n 1, 1) := by decide +kernel
theorem dX7_sure_2 : decode cX7_sure 2 = .ok (.invokevirtual 100, 3) := by decide +kernel
theorem dX7_sure_5 : decode cX7_sure 5 = .ok (.ifCond .eq 33, 3) := by decide +kernel
theorem dX7_sure_8 : decode cX7_sure 8 = .ok (.iload_n 2, 1) := by decide +kernel
theorem dX7_sure_9 : decode cX7_sure 9 = .ok (.iconst 0, 1) := by decide +kernel
theorem dX7_sure_10 : decode cX7_sure 10 = .ok (.bipush 8, 2) := by decide +kernel
theorem dX7_sure_12 : decode cX7_sure 12 = .ok (.invokestatic 54, 3) := by decide +kernel
theorem dX7_sure_15 : decode cX7_sure 15 = .ok (.ifCond .eq 23, 3) := by decide +kernel
theorem dX7_sure_18 : decode cX7_sure 18 = .ok (.iload_n 3, 1) := by decide +kernel
theorem dX7_sure_19 : decode cX7_sure 19 = .ok (.iconst 0, 1) := by decide +kernel
theorem dX7_sure_20 : decode cX7_sure 20 = .ok (.bipush 10, 2) := by decide +kernel
theorem dX7_sure_22 : decode cX7_sure 22 = .ok (.invokestatic 54, 3) := by decide +kernel
theorem dX7_sure_25 : decode cX7_sure 25 = .ok (.ifCond .eq 13, 3) := by decide +kernel
theorem dX7_sure_28 : decode cX7_sure 28 = .ok (.iload 4, 2) := by decide +kernel
theorem dX7_sure_30 : decode cX7_sure 30 = .ok (.iconst 0, 1) := by decide +kernel
theorem dX7_sure_31 : decode cX7_sure 31 = .ok (.iconst 1, 1) := by decide +kernel
theorem dX7_sure_32 : decode cX7_sure 32 = .ok (.invokestatic 54, 3) := by decide +kernel
theorem dX7_sure_35 : decode cX7_sure 35 = .ok (.ifCond .ne 5, 3) := by decide +kernel
theorem dX7_sure_38 : decode cX7_sure 38 = .ok (.iconst (-1), 1) := by decide +kernel
theorem dX7_sure_39 : decode cX7_sure 39 = .ok (.ireturn, 1) := by decide +kernel
theorem dX7_sure_40 : decode cX7_sure 40 = .ok (.iconst 1, 1) := by decide +kernel
theorem dX7_sure_41 : decode cX7_sure 41 = .ok (.istore 5, 2) := by decide +kernel
theorem dX7_sure_43 : decode cX7_sure 43 = .ok (.iconst 1, 1) := by decide +kernel
theorem dX7_sure_44 : decode cX7_sure 44 = .ok (.istore 6, 2) := by decide +kernel
theorem dX7_sure_46 : decode cX7_sure 46 = .ok (.iconst 0, 1) := by decide +kernel
theorem dX7_sure_47 : decode cX7_sure 47 = .ok (.istore 7, 2) := by decide +kernel
theorem dX7_sure_49 : decode cX7_sure 49 = .ok (.iload 7, 2) := by decide +kernel
theorem dX7_sure_51 : decode cX7_sure 51 = .ok (.iload_n 2, 1) := by decide +kernel
theorem dX7_sure_52 : decode cX7_sure 52 = .ok (.if_icmp .ge 43, 3) := by decide +kernel
theorem dX7_sure_55 : decode cX7_sure 55 = .ok (.aload_n 0, 1) := by decide +kernel
theorem dX7_sure_56 : decode cX7_sure 56 = .ok (.getfield 22, 3) := by decide +kernel
theorem dX7_sure_59 : decode cX7_sure 59 = .ok (.bipush 16, 2) := by decide +kernel
theorem dX7_sure_61 : decode cX7_sure 61 = .ok (.iload_n 1, 1) := by decide +kernel
theorem dX7_sure_62 : decode cX7_sure 62 = .ok (.iadd, 1) := by decide +kernel
theorem dX7_sure_63 : decode cX7_sure 63 = .ok (.iaload, 1) := by decide +kernel
theorem dX7_sure_64 : decode cX7_sure 64 = .ok (.aload_n 0, 1) := by decide +kernel
theorem dX7_sure_65 : decode cX7_sure 65 = .ok (.getfield 13, 3) := by decide +kernel
theorem dX7_sure_68 : decode cX7_sure 68 = .ok (.iconst 2, 1) := by decide +kernel
theorem dX7_sure_69 : decode cX7_sure 69 = .ok (.iaload, 1) := by decide +kernel
theorem dX7_sure_70 : decode cX7_sure 70 = .ok (.if_icmp .le 25, 3) := by decide +kernel
theorem dX7_sure_73 : decode cX7_sure 73 = .ok (.iload 5, 2) := by decide +kernel
theorem dX7_sure_75 : decode cX7_sure 75 = .ok (.bipush 10, 2) := by decide +kernel
theorem dX7_sure_77 : decode cX7_sure 77 = .ok (.iload_n 3, 1) := by decide +kernel
theorem dX7_sure_78 : decode cX7_sure 78 = .ok (.isub, 1) := by decide +kernel
theorem dX7_sure_79 : decode cX7_sure 79 = .ok (.imul, 1) := by decide +kernel
theorem dX7_sure_80 : decode cX7_sure 80 = .ok (.istore 5, 2) := by decide +kernel
theorem dX7_sure_82 : decode cX7_sure 82 = .ok (.iload 6, 2) := by decide +kernel
theorem dX7_sure_84 : decode cX7_sure 84 = .ok (.bipush 10, 2) := by decide +kernel
theorem dX7_sure_86 : decode cX7_sure 86 = .ok (.imul, 1) := by decide +kernel
theorem dX7_sure_87 : decode cX7_sure 87 = .ok (.istore 6, 2) := by decide +kernel
theorem dX7_sure_89 : decode cX7_sure 89 = .ok (.iinc 7 1, 3) := by decide +kernel
theorem dX7_sure_92 : decode cX7_sure 92 = .ok (.goto (-43), 3) := by decide +kernel
theorem dX7_sure_95 : decode cX7_sure 95 = .ok (.iload 5, 2) := by decide +kernel
theorem dX7_sure_97 : decode cX7_sure 97 = .ok (.istore 7, 2) := by decide +kernel
theorem dX7_sure_99 : decode cX7_sure 99 = .ok (.iload 6, 2) := by decide +kernel
theorem dX7_sure_101 : decode cX7_sure 101 = .ok (.istore 8, 2) := by decide +kernel
theorem dX7_sure_103 : decode cX7_sure 103 = .ok (.iload 8, 2) := by decide +kernel
theorem dX7_sure_105 : decode cX7_sure 105 = .ok (.ifCond .le 21, 3) := by decide +kernel
theorem dX7_sure_108 : decode cX7_sure 108 = .ok (.iload 7, 2) := by decide +kernel
theorem dX7_sure_110 : decode cX7_sure 110 = .ok (.iload 8, 2) := by decide +kernel
theorem dX7_sure_112 : decode cX7_sure 112 = .ok (.irem, 1) := by decide +kernel
theorem dX7_sure_113 : decode cX7_sure 113 = .ok (.istore 9, 2) := by decide +kernel
theorem dX7_sure_115 : decode cX7_sure 115 = .ok (.iload 8, 2) := by decide +kernel
theorem dX7_sure_117 : decode cX7_sure 117 = .ok (.istore 7, 2) := by decide +kernel
theorem dX7_sure_119 : decode cX7_sure 119 = .ok (.iload 9, 2) := by decide +kernel
theorem dX7_sure_121 : decode cX7_sure 121 = .ok (.istore 8, 2) := by decide +kernel
theorem dX7_sure_123 : decode cX7_sure 123 = .ok (.goto (-20), 3) := by decide +kernel
theorem dX7_sure_126 : decode cX7_sure 126 = .ok (.iload 4, 2) := by decide +kernel
theorem dX7_sure_128 : decode cX7_sure 128 = .ok (.ifCond .ne 11, 3) := by decide +kernel
theorem dX7_sure_131 : decode cX7_sure 131 = .ok (.iload 5, 2) := by decide +kernel
theorem dX7_sure_133 : decode cX7_sure 133 = .ok (.iload 7, 2) := by decide +kernel
theorem dX7_sure_135 : decode cX7_sure 135 = .ok (.idiv, 1) := by decide +kernel
theorem dX7_sure_136 : decode cX7_sure 136 = .ok (.goto 8, 3) := by decide +kernel
theorem dX7_sure_139 : decode cX7_sure 139 = .ok (.iload 6, 2) := by decide +kernel
theorem dX7_sure_141 : decode cX7_sure 141 = .ok (.iload 7, 2) := by decide +kernel
theorem dX7_sure_143 : decode cX7_sure 143 = .ok (.idiv, 1) := by decide +kernel
theorem dX7_sure_144 : decode cX7_sure 144 = .ok (.ireturn, 1) := by decide +kernel
theorem dX7_waste_0 : decode cX7_waste 0 = .ok (.iconst 0, 1) := by decide +kernel
theorem dX7_waste_1 : decode cX7_waste 1 = .ok (.istore_n 1, 1) := by decide +kernel
theorem dX7_waste_2 : decode cX7_waste 2 = .ok (.iconst 0, 1) := by decide +kernel
theorem dX7_waste_3 : decode cX7_waste 3 = .ok (.istore_n 2, 1) := by decide +kernel
theorem dX7_waste_4 : decode cX7_waste 4 = .ok (.iload_n 2, 1) := by decide +kernel
theorem dX7_waste_5 : decode cX7_waste 5 = .ok (.aload_n 0, 1) := by decide +kernel
theorem dX7_waste_6 : decode cX7_waste 6 = .ok (.getfield 13, 3) := by decide +kernel
theorem dX7_waste_9 : decode cX7_waste 9 = .ok (.iconst 0, 1) := by decide +kernel
theorem dX7_waste_10 : decode cX7_waste 10 = .ok (.iaload, 1) := by decide +kernel
theorem dX7_waste_11 : decode cX7_waste 11 = .ok (.if_icmp .ge 90, 3) := by decide +kernel
theorem dX7_waste_14 : decode cX7_waste 14 = .ok (.aload_n 0, 1) := by decide +kernel
theorem dX7_waste_15 : decode cX7_waste 15 = .ok (.getfield 22, 3) := by decide +kernel
theorem dX7_waste_18 : decode cX7_waste 18 = .ok (.bipush 8, 2) := by decide +kernel
theorem dX7_waste_20 : decode cX7_waste 20 = .ok (.iload_n 2, 1) := by decide +kernel
theorem dX7_waste_21 : decode cX7_waste 21 = .ok (.iadd, 1) := by decide +kernel
theorem dX7_waste_22 : decode cX7_waste 22 = .ok (.iaload, 1) := by decide +kernel
theorem dX7_waste_23 : decode cX7_waste 23 = .ok (.iconst 1, 1) := by decide +kernel
theorem dX7_waste_24 : decode cX7_waste 24 = .ok (.if_icmp .ne 7, 3) := by decide +kernel
theorem dX7_waste_27 : decode cX7_waste 27 = .ok (.iconst 1, 1) := by decide +kernel
theorem dX7_waste_28 : decode cX7_waste 28 = .ok (.goto 4, 3) := by decide +kernel
theorem dX7_waste_31 : decode cX7_waste 31 = .ok (.iconst 0, 1) := by decide +kernel
theorem dX7_waste_32 : decode cX7_waste 32 = .ok (.istore_n 3, 1) := by decide +kernel
theorem dX7_waste_33 : decode cX7_waste 33 = .ok (.iconst 0, 1) := by decide +kernel
theorem dX7_waste_34 : decode cX7_waste 34 = .ok (.istore 4, 2) := by decide +kernel
theorem dX7_waste_36 : decode cX7_waste 36 = .ok (.iload 4, 2) := by decide +kernel
theorem dX7_waste_38 : decode cX7_waste 38 = .ok (.aload_n 0, 1) := by decide +kernel
theorem dX7_waste_39 : decode cX7_waste 39 = .ok (.getfield 13, 3) := by decide +kernel
theorem dX7_waste_42 : decode cX7_waste 42 = .ok (.iconst 1, 1) := by decide +kernel
theorem dX7_waste_43 : decode cX7_waste 43 = .ok (.iaload, 1) := by decide +kernel
theorem dX7_waste_44 : decode cX7_waste 44 = .ok (.if_icmp .ge 31, 3) := by decide +kernel
theorem dX7_waste_47 : decode cX7_waste 47 = .ok (.iload_n 3, 1) := by decide +kernel
theorem dX7_waste_48 : decode cX7_waste 48 = .ok (.ifCond .ne 15, 3) := by decide +kernel
theorem dX7_waste_51 : decode cX7_waste 51 = .ok (.aload_n 0, 1) := by decide +kernel
theorem dX7_waste_52 : decode cX7_waste 52 = .ok (.iload 4, 2) := by decide +kernel
theorem dX7_waste_54 : decode cX7_waste 54 = .ok (.iload_n 2, 1) := by decide +kernel
theorem dX7_waste_55 : decode cX7_waste 55 = .ok (.invokevirtual 138, 3) := by decide +kernel
theorem dX7_waste_58 : decode cX7_waste 58 = .ok (.bipush (-4), 2) := by decide +kernel
theorem dX7_waste_60 : decode cX7_waste 60 = .ok (.if_icmp .eq 7, 3) := by decide +kernel
theorem dX7_waste_63 : decode cX7_waste 63 = .ok (.iconst 1, 1) := by decide +kernel
theorem dX7_waste_64 : decode cX7_waste 64 = .ok (.goto 4, 3) := by decide +kernel
theorem dX7_waste_67 : decode cX7_waste 67 = .ok (.iconst 0, 1) := by decide +kernel
theorem dX7_waste_68 : decode cX7_waste 68 = .ok (.istore_n 3, 1) := by decide +kernel
theorem dX7_waste_69 : decode cX7_waste 69 = .ok (.iinc 4 1, 3) := by decide +kernel
theorem dX7_waste_72 : decode cX7_waste 72 = .ok (.goto (-36), 3) := by decide +kernel
theorem dX7_waste_75 : decode cX7_waste 75 = .ok (.iload_n 1, 1) := by decide +kernel
theorem dX7_waste_76 : decode cX7_waste 76 = .ok (.iload_n 3, 1) := by decide +kernel
theorem dX7_waste_77 : decode cX7_waste 77 = .ok (.ifCond .eq 7, 3) := by decide +kernel
theorem dX7_waste_80 : decode cX7_waste 80 = .ok (.iconst 0, 1) := by decide +kernel
theorem dX7_waste_81 : decode cX7_waste 81 = .ok (.goto 12, 3) := by decide +kernel
theorem dX7_waste_84 : decode cX7_waste 84 = .ok (.aload_n 0, 1) := by decide +kernel
theorem dX7_waste_85 : decode cX7_waste 85 = .ok (.getfield 13, 3) := by decide +kernel
theorem dX7_waste_88 : decode cX7_waste 88 = .ok (.bipush 21, 2) := by decide +kernel
theorem dX7_waste_90 : decode cX7_waste 90 = .ok (.iload_n 2, 1) := by decide +kernel
theorem dX7_waste_91 : decode cX7_waste 91 = .ok (.iadd, 1) := by decide +kernel
theorem dX7_waste_92 : decode cX7_waste 92 = .ok (.iaload, 1) := by decide +kernel
theorem dX7_waste_93 : decode cX7_waste 93 = .ok (.iadd, 1) := by decide +kernel
theorem dX7_waste_94 : decode cX7_waste 94 = .ok (.istore_n 1, 1) := by decide +kernel
theorem dX7_waste_95 : decode cX7_waste 95 = .ok (.iinc 2 1, 3) := by decide +kernel
theorem dX7_waste_98 : decode cX7_waste 98 = .ok (.goto (-94), 3) := by decide +kernel
theorem dX7_waste_101 : decode cX7_waste 101 = .ok (.iload_n 1, 1) := by decide +kernel
theorem dX7_waste_102 : decode cX7_waste 102 = .ok (.ireturn, 1) := by decide +kernel
theorem dX7_needs_0 : decode cX7_needs 0 = .ok (.iconst 0, 1) := by decide +kernel
theorem dX7_needs_1 : decode cX7_needs 1 = .ok (.istore_n 1, 1) := by decide +kernel
theorem dX7_needs_2 : decode cX7_needs 2 = .ok (.iconst 0, 1) := by decide +kernel
theorem dX7_needs_3 : decode cX7_needs 3 = .ok (.istore_n 2, 1) := by decide +kernel
theorem dX7_needs_4 : decode cX7_needs 4 = .ok (.iload_n 2, 1) := by decide +kernel
theorem dX7_needs_5 : decode cX7_needs 5 = .ok (.aload_n 0, 1) := by decide +kernel
theorem dX7_needs_6 : decode cX7_needs 6 = .ok (.getfield 13, 3) := by decide +kernel
theorem dX7_needs_9 : decode cX7_needs 9 = .ok (.iconst 1, 1) := by decide +kernel
theorem dX7_needs_10 : decode cX7_needs 10 = .ok (.iaload, 1) := by decide +kernel
theorem dX7_needs_11 : decode cX7_needs 11 = .ok (.if_icmp .ge 43, 3) := by decide +kernel
theorem dX7_needs_14 : decode cX7_needs 14 = .ok (.iload_n 1, 1) := by decide +kernel
theorem dX7_needs_15 : decode cX7_needs 15 = .ok (.aload_n 0, 1) := by decide +kernel
theorem dX7_needs_16 : decode cX7_needs 16 = .ok (.iload_n 2, 1) := by decide +kernel
theorem dX7_needs_17 : decode cX7_needs 17 = .ok (.invokevirtual 103, 3) := by decide +kernel
theorem dX7_needs_20 : decode cX7_needs 20 = .ok (.ifCond .eq 7, 3) := by decide +kernel
theorem dX7_needs_23 : decode cX7_needs 23 = .ok (.iconst 0, 1) := by decide +kernel
theorem dX7_needs_24 : decode cX7_needs 24 = .ok (.goto 22, 3) := by decide +kernel
theorem dX7_needs_27 : decode cX7_needs 27 = .ok (.aload_n 0, 1) := by decide +kernel
theorem dX7_needs_28 : decode cX7_needs 28 = .ok (.getfield 13, 3) := by decide +kernel
theorem dX7_needs_31 : decode cX7_needs 31 = .ok (.bipush 33, 2) := by decide +kernel
theorem dX7_needs_33 : decode cX7_needs 33 = .ok (.iload_n 2, 1) := by decide +kernel
theorem dX7_needs_34 : decode cX7_needs 34 = .ok (.iadd, 1) := by decide +kernel
theorem dX7_needs_35 : decode cX7_needs 35 = .ok (.iaload, 1) := by decide +kernel
theorem dX7_needs_36 : decode cX7_needs 36 = .ok (.aload_n 0, 1) := by decide +kernel
theorem dX7_needs_37 : decode cX7_needs 37 = .ok (.getfield 22, 3) := by decide +kernel
theorem dX7_needs_40 : decode cX7_needs 40 = .ok (.bipush 20, 2) := by decide +kernel
theorem dX7_needs_42 : decode cX7_needs 42 = .ok (.iload_n 2, 1) := by decide +kernel
theorem dX7_needs_43 : decode cX7_needs 43 = .ok (.iadd, 1) := by decide +kernel
theorem dX7_needs_44 : decode cX7_needs 44 = .ok (.iaload, 1) := by decide +kernel
theorem dX7_needs_45 : decode cX7_needs 45 = .ok (.isub, 1) := by decide +kernel
theorem dX7_needs_46 : decode cX7_needs 46 = .ok (.iadd, 1) := by decide +kernel
theorem dX7_needs_47 : decode cX7_needs 47 = .ok (.istore_n 1, 1) := by decide +kernel
theorem dX7_needs_48 : decode cX7_needs 48 = .ok (.iinc 2 1, 3) := by decide +kernel
theorem dX7_needs_51 : decode cX7_needs 51 = .ok (.goto (-47), 3) := by decide +kernel
theorem dX7_needs_54 : decode cX7_needs 54 = .ok (.iload_n 1, 1) := by decide +kernel
theorem dX7_needs_55 : decode cX7_needs 55 = .ok (.ireturn, 1) := by decide +kernel
theorem dX7_weighs_0 : decode cX7_weighs 0 = .ok (.iconst 0, 1) := by decide +kernel
theorem dX7_weighs_1 : decode cX7_weighs 1 = .ok (.istore_n 1, 1) := by decide +kernel
theorem dX7_weighs_2 : decode cX7_weighs 2 = .ok (.iconst 0, 1) := by decide +kernel
theorem dX7_weighs_3 : decode cX7_weighs 3 = .ok (.istore_n 2, 1) := by decide +kernel
theorem dX7_weighs_4 : decode cX7_weighs 4 = .ok (.iload_n 2, 1) := by decide +kernel
theorem dX7_weighs_5 : decode cX7_weighs 5 = .ok (.aload_n 0, 1) := by decide +kernel
theorem dX7_weighs_6 : decode cX7_weighs 6 = .ok (.getfield 13, 3) := by decide +kernel
theorem dX7_weighs_9 : decode cX7_weighs 9 = .ok (.iconst 0, 1) := by decide +kernel
theorem dX7_weighs_10 : decode cX7_weighs 10 = .ok (.iaload, 1) := by decide +kernel
theorem dX7_weighs_11 : decode cX7_weighs 11 = .ok (.if_icmp .ge 31, 3) := by decide +kernel
theorem dX7_weighs_14 : decode cX7_weighs 14 = .ok (.iload_n 1, 1) := by decide +kernel
theorem dX7_weighs_15 : decode cX7_weighs 15 = .ok (.aload_n 0, 1) := by decide +kernel
theorem dX7_weighs_16 : decode cX7_weighs 16 = .ok (.getfield 22, 3) := by decide +kernel
theorem dX7_weighs_19 : decode cX7_weighs 19 = .ok (.bipush 8, 2) := by decide +kernel
theorem dX7_weighs_21 : decode cX7_weighs 21 = .ok (.iload_n 2, 1) := by decide +kernel
theorem dX7_weighs_22 : decode cX7_weighs 22 = .ok (.iadd, 1) := by decide +kernel
theorem dX7_weighs_23 : decode cX7_weighs 23 = .ok (.iaload, 1) := by decide +kernel
theorem dX7_weighs_24 : decode cX7_weighs 24 = .ok (.aload_n 0, 1) := by decide +kernel
theorem dX7_weighs_25 : decode cX7_weighs 25 = .ok (.getfield 13, 3) := by decide +kernel
theorem dX7_weighs_28 : decode cX7_weighs 28 = .ok (.bipush 21, 2) := by decide +kernel
theorem dX7_weighs_30 : decode cX7_weighs 30 = .ok (.iload_n 2, 1) := by decide +kernel
theorem dX7_weighs_31 : decode cX7_weighs 31 = .ok (.iadd, 1) := by decide +kernel
theorem dX7_weighs_32 : decode cX7_weighs 32 = .ok (.iaload, 1) := by decide +kernel
theorem dX7_weighs_33 : decode cX7_weighs 33 = .ok (.imul, 1) := by decide +kernel
theorem dX7_weighs_34 : decode cX7_weighs 34 = .ok (.iadd, 1) := by decide +kernel
theorem dX7_weighs_35 : decode cX7_weighs 35 = .ok (.istore_n 1, 1) := by decide +kernel
theorem dX7_weighs_36 : decode cX7_weighs 36 = .ok (.iinc 2 1, 3) := by decide +kernel
theorem dX7_weighs_39 : decode cX7_weighs 39 = .ok (.goto (-35), 3) := by decide +kernel
theorem dX7_weighs_42 : decode cX7_weighs 42 = .ok (.iload_n 1, 1) := by decide +kernel
theorem dX7_weighs_43 : decode cX7_weighs 43 = .ok (.ireturn, 1) := by decide +kernel
theorem dX7_storm_0 : decode cX7_storm 0 = .ok (.iload_n 1, 1) := by decide +kernel
theorem dX7_storm_1 : decode cX7_storm 1 = .ok (.iconst 0, 1) := by decide +kernel
theorem dX7_storm_2 : decode cX7_storm 2 = .ok (.sipush 9999, 3) := by decide +kernel
theorem dX7_storm_5 : decode cX7_storm 5 = .ok (.invokestatic 54, 3) := by decide +kernel
theorem dX7_storm_8 : decode cX7_storm 8 = .ok (.ifCond .eq 22, 3) := by decide +kernel
theorem dX7_storm_11 : decode cX7_storm 11 = .ok (.iload_n 2, 1) := by decide +kernel
theorem dX7_storm_12 : decode cX7_storm 12 = .ok (.iconst 1, 1) := by decide +kernel
theorem dX7_storm_13 : decode cX7_storm 13 = .ok (.bipush 30, 2) := by decide +kernel
theorem dX7_storm_15 : decode cX7_storm 15 = .ok (.invokestatic 54, 3) := by decide +kernel
theorem dX7_storm_18 : decode cX7_storm 18 = .ok (.ifCond .eq 12, 3) := by decide +kernel
theorem dX7_storm_21 : decode cX7_storm 21 = .ok (.iload_n 3, 1) := by decide +kernel
theorem dX7_storm_22 : decode cX7_storm 22 = .ok (.iconst 0, 1) := by decide +kernel
theorem dX7_storm_23 : decode cX7_storm 23 = .ok (.iconst 1, 1) := by decide +kernel
theorem dX7_storm_24 : decode cX7_storm 24 = .ok (.invokestatic 54, 3) := by decide +kernel
theorem dX7_storm_27 : decode cX7_storm 27 = .ok (.ifCond .ne 5, 3) := by decide +kernel
theorem dX7_storm_30 : decode cX7_storm 30 = .ok (.iconst (-1), 1) := by decide +kernel
theorem dX7_storm_31 : decode cX7_storm 31 = .ok (.ireturn, 1) := by decide +kernel
theorem dX7_storm_32 : decode cX7_storm 32 = .ok (.aload_n 0, 1) := by decide +kernel
theorem dX7_storm_33 : decode cX7_storm 33 = .ok (.getfield 22, 3) := by decide +kernel
theorem dX7_storm_36 : decode cX7_storm 36 = .ok (.bipush 28, 2) := by decide +kernel
theorem dX7_storm_38 : decode cX7_storm 38 = .ok (.iaload, 1) := by decide +kernel
theorem dX7_storm_39 : decode cX7_storm 39 = .ok (.iload_n 2, 1) := by decide +kernel
theorem dX7_storm_40 : decode cX7_storm 40 = .ok (.iadd, 1) := by decide +kernel
theorem dX7_storm_41 : decode cX7_storm 41 = .ok (.iconst 1, 1) := by decide +kernel
theorem dX7_storm_42 : decode cX7_storm 42 = .ok (.isub, 1) := by decide +kernel
theorem dX7_storm_43 : decode cX7_storm 43 = .ok (.bipush 99, 2) := by decide +kernel
theorem dX7_storm_45 : decode cX7_storm 45 = .ok (.if_icmp .le 6, 3) := by decide +kernel
theorem dX7_storm_48 : decode cX7_storm 48 = .ok (.bipush (-2), 2) := by decide +kernel
theorem dX7_storm_50 : decode cX7_storm 50 = .ok (.ireturn, 1) := by decide +kernel
theorem dX7_storm_51 : decode cX7_storm 51 = .ok (.aload_n 0, 1) := by decide +kernel
theorem dX7_storm_52 : decode cX7_storm 52 = .ok (.invokevirtual 129, 3) := by decide +kernel
theorem dX7_storm_55 : decode cX7_storm 55 = .ok (.aload_n 0, 1) := by decide +kernel
theorem dX7_storm_56 : decode cX7_storm 56 = .ok (.invokevirtual 142, 3) := by decide +kernel
theorem dX7_storm_59 : decode cX7_storm 59 = .ok (.istore 4, 2) := by decide +kernel
theorem dX7_storm_61 : decode cX7_storm 61 = .ok (.iconst 0, 1) := by decide +kernel
theorem dX7_storm_62 : decode cX7_storm 62 = .ok (.istore 5, 2) := by decide +kernel
theorem dX7_storm_64 : decode cX7_storm 64 = .ok (.iload 5, 2) := by decide +kernel
theorem dX7_storm_66 : decode cX7_storm 66 = .ok (.iload_n 2, 1) := by decide +kernel
theorem dX7_storm_67 : decode cX7_storm 67 = .ok (.if_icmp .ge 135, 3) := by decide +kernel
theorem dX7_storm_70 : decode cX7_storm 70 = .ok (.iload 5, 2) := by decide +kernel
theorem dX7_storm_72 : decode cX7_storm 72 = .ok (.ifCond .le 7, 3) := by decide +kernel
theorem dX7_storm_75 : decode cX7_storm 75 = .ok (.aload_n 0, 1) := by decide +kernel
theorem dX7_storm_76 : decode cX7_storm 76 = .ok (.invokevirtual 120, 3) := by decide +kernel
theorem dX7_storm_79 : decode cX7_storm 79 = .ok (.ldc2_w 145, 3) := by decide +kernel
theorem dX7_storm_82 : decode cX7_storm 82 = .ok (.iload_n 1, 1) := by decide +kernel
theorem dX7_storm_83 : decode cX7_storm 83 = .ok (.i2l, 1) := by decide +kernel
theorem dX7_storm_84 : decode cX7_storm 84 = .ok (.lmul, 1) := by decide +kernel
theorem dX7_storm_85 : decode cX7_storm 85 = .ok (.ldc2_w 147, 3) := by decide +kernel
theorem dX7_storm_88 : decode cX7_storm 88 = .ok (.iload 5, 2) := by decide +kernel
theorem dX7_storm_90 : decode cX7_storm 90 = .ok (.i2l, 1) := by decide +kernel
theorem dX7_storm_91 : decode cX7_storm 91 = .ok (.lmul, 1) := by decide +kernel
theorem dX7_storm_92 : decode cX7_storm 92 = .ok (.ladd, 1) := by decide +kernel
theorem dX7_storm_93 : decode cX7_storm 93 = .ok (.lconst 1, 1) := by decide +kernel
theorem dX7_storm_94 : decode cX7_storm 94 = .ok (.ladd, 1) := by decide +kernel
theorem dX7_storm_95 : decode cX7_storm 95 = .ok (.lstore 6, 2) := by decide +kernel
theorem dX7_storm_97 : decode cX7_storm 97 = .ok (.lload 6, 2) := by decide +kernel
theorem dX7_storm_99 : decode cX7_storm 99 = .ok (.lload 6, 2) := by decide +kernel
theorem dX7_storm_101 : decode cX7_storm 101 = .ok (.lmul, 1) := by decide +kernel
theorem dX7_storm_102 : decode cX7_storm 102 = .ok (.ldc2_w 149, 3) := by decide +kernel
theorem dX7_storm_105 : decode cX7_storm 105 = .ok (.lrem, 1) := by decide +kernel
theorem dX7_storm_106 : decode cX7_storm 106 = .ok (.l2i, 1) := by decide +kernel
theorem dX7_storm_107 : decode cX7_storm 107 = .ok (.iconst 2, 1) := by decide +kernel
theorem dX7_storm_108 : decode cX7_storm 108 = .ok (.idiv, 1) := by decide +kernel
theorem dX7_storm_109 : decode cX7_storm 109 = .ok (.istore 8, 2) := by decide +kernel
theorem dX7_storm_111 : decode cX7_storm 111 = .ok (.iload 8, 2) := by decide +kernel
theorem dX7_storm_113 : decode cX7_storm 113 = .ok (.aload_n 0, 1) := by decide +kernel
theorem dX7_storm_114 : decode cX7_storm 114 = .ok (.getfield 13, 3) := by decide +kernel
theorem dX7_storm_117 : decode cX7_storm 117 = .ok (.iconst 0, 1) := by decide +kernel
theorem dX7_storm_118 : decode cX7_storm 118 = .ok (.iaload, 1) := by decide +kernel
theorem dX7_storm_119 : decode cX7_storm 119 = .ok (.irem, 1) := by decide +kernel
theorem dX7_storm_120 : decode cX7_storm 120 = .ok (.istore 9, 2) := by decide +kernel
theorem dX7_storm_122 : decode cX7_storm 122 = .ok (.aload_n 0, 1) := by decide +kernel
theorem dX7_storm_123 : decode cX7_storm 123 = .ok (.getfield 22, 3) := by decide +kernel
theorem dX7_storm_126 : decode cX7_storm 126 = .ok (.bipush 28, 2) := by decide +kernel
theorem dX7_storm_128 : decode cX7_storm 128 = .ok (.iaload, 1) := by decide +kernel
theorem dX7_storm_129 : decode cX7_storm 129 = .ok (.aload_n 0, 1) := by decide +kernel
theorem dX7_storm_130 : decode cX7_storm 130 = .ok (.getfield 13, 3) := by decide +kernel
theorem dX7_storm_133 : decode cX7_storm 133 = .ok (.iconst 4, 1) := by decide +kernel
theorem dX7_storm_134 : decode cX7_storm 134 = .ok (.iaload, 1) := by decide +kernel
theorem dX7_storm_135 : decode cX7_storm 135 = .ok (.isub, 1) := by decide +kernel
theorem dX7_storm_136 : decode cX7_storm 136 = .ok (.istore 10, 2) := by decide +kernel
theorem dX7_storm_138 : decode cX7_storm 138 = .ok (.aload_n 0, 1) := by decide +kernel
theorem dX7_storm_139 : decode cX7_storm 139 = .ok (.getfield 22, 3) := by decide +kernel
theorem dX7_storm_142 : decode cX7_storm 142 = .ok (.iload 9, 2) := by decide +kernel
theorem dX7_storm_144 : decode cX7_storm 144 = .ok (.iload 8, 2) := by decide +kernel
theorem dX7_storm_146 : decode cX7_storm 146 = .ok (.bipush 8, 2) := by decide +kernel
theorem dX7_storm_148 : decode cX7_storm 148 = .ok (.idiv, 1) := by decide +kernel
theorem dX7_storm_149 : decode cX7_storm 149 = .ok (.iconst 3, 1) := by decide +kernel
theorem dX7_storm_150 : decode cX7_storm 150 = .ok (.irem, 1) := by decide +kernel
theorem dX7_storm_151 : decode cX7_storm 151 = .ok (.ifCond .ne 33, 3) := by decide +kernel
theorem dX7_storm_154 : decode cX7_storm 154 = .ok (.aload_n 0, 1) := by decide +kernel
theorem dX7_storm_155 : decode cX7_storm 155 = .ok (.getfield 22, 3) := by decide +kernel
theorem dX7_storm_158 : decode cX7_storm 158 = .ok (.bipush 8, 2) := by decide +kernel
theorem dX7_storm_160 : decode cX7_storm 160 = .ok (.iload 9, 2) := by decide +kernel
theorem dX7_storm_162 : decode cX7_storm 162 = .ok (.iadd, 1) := by decide +kernel
theorem dX7_storm_163 : decode cX7_storm 163 = .ok (.iaload, 1) := by decide +kernel
theorem dX7_storm_164 : decode cX7_storm 164 = .ok (.ifCond .ne 20, 3) := by decide +kernel
theorem dX7_storm_167 : decode cX7_storm 167 = .ok (.aload_n 0, 1) := by decide +kernel
theorem dX7_storm_168 : decode cX7_storm 168 = .ok (.getfield 22, 3) := by decide +kernel
theorem dX7_storm_171 : decode cX7_storm 171 = .ok (.iload 9, 2) := by decide +kernel
theorem dX7_storm_173 : decode cX7_storm 173 = .ok (.iaload, 1) := by decide +kernel
theorem dX7_storm_174 : decode cX7_storm 174 = .ok (.iload 10, 2) := by decide +kernel
theorem dX7_storm_176 : decode cX7_storm 176 = .ok (.if_icmp .le 8, 3) := by decide +kernel
theorem dX7_storm_179 : decode cX7_storm 179 = .ok (.iload 10, 2) := by decide +kernel
theorem dX7_storm_181 : decode cX7_storm 181 = .ok (.goto 10, 3) := by decide +kernel
theorem dX7_storm_184 : decode cX7_storm 184 = .ok (.aload_n 0, 1) := by decide +kernel
theorem dX7_storm_185 : decode cX7_storm 185 = .ok (.getfield 22, 3) := by decide +kernel
theorem dX7_storm_188 : decode cX7_storm 188 = .ok (.iload 9, 2) := by decide +kernel
theorem dX7_storm_190 : decode cX7_storm 190 = .ok (.iaload, 1) := by decide +kernel
theorem dX7_storm_191 : decode cX7_storm 191 = .ok (.iastore, 1) := by decide +kernel
theorem dX7_storm_192 : decode cX7_storm 192 = .ok (.aload_n 0, 1) := by decide +kernel
theorem dX7_storm_193 : decode cX7_storm 193 = .ok (.invokevirtual 123, 3) := by decide +kernel
theorem dX7_storm_196 : decode cX7_storm 196 = .ok (.iinc 5 1, 3) := by decide +kernel
theorem dX7_storm_199 : decode cX7_storm 199 = .ok (.goto (-135), 3) := by decide +kernel
theorem dX7_storm_202 : decode cX7_storm 202 = .ok (.iload_n 3, 1) := by decide +kernel
theorem dX7_storm_203 : decode cX7_storm 203 = .ok (.ifCond .ne 10, 3) := by decide +kernel
theorem dX7_storm_206 : decode cX7_storm 206 = .ok (.aload_n 0, 1) := by decide +kernel
theorem dX7_storm_207 : decode cX7_storm 207 = .ok (.invokevirtual 126, 3) := by decide +kernel
theorem dX7_storm_210 : decode cX7_storm 210 = .ok (.goto 10, 3) := by decide +kernel
theorem dX7_storm_213 : decode cX7_storm 213 = .ok (.aload_n 0, 1) := by decide +kernel
theorem dX7_storm_214 : decode cX7_storm 214 = .ok (.invokevirtual 142, 3) := by decide +kernel
theorem dX7_storm_217 : decode cX7_storm 217 = .ok (.iload 4, 2) := by decide +kernel
theorem dX7_storm_219 : decode cX7_storm 219 = .ok (.isub, 1) := by decide +kernel
theorem dX7_storm_220 : decode cX7_storm 220 = .ok (.istore 5, 2) := by decide +kernel
theorem dX7_storm_222 : decode cX7_storm 222 = .ok (.aload_n 0, 1) := by decide +kernel
theorem dX7_storm_223 : decode cX7_storm 223 = .ok (.invokevirtual 135, 3) := by decide +kernel
theorem dX7_storm_226 : decode cX7_storm 226 = .ok (.iload 5, 2) := by decide +kernel
theorem dX7_storm_228 : decode cX7_storm 228 = .ok (.ireturn, 1) := by decide +kernel
theorem dX7_keep_0 : decode cX7_keep 0 = .ok (.aload_n 0, 1) := by decide +kernel
theorem dX7_keep_1 : decode cX7_keep 1 = .ok (.getfield 87, 3) := by decide +kernel
theorem dX7_keep_4 : decode cX7_keep 4 = .ok (.iconst 2, 1) := by decide +kernel
theorem dX7_keep_5 : decode cX7_keep 5 = .ok (.if_icmp .ne 6, 3) := by decide +kernel
theorem dX7_keep_8 : decode cX7_keep 8 = .ok (.bipush (-3), 2) := by decide +kernel
theorem dX7_keep_10 : decode cX7_keep 10 = .ok (.ireturn, 1) := by decide +kernel
theorem dX7_keep_11 : decode cX7_keep 11 = .ok (.iconst 0, 1) := by decide +kernel
theorem dX7_keep_12 : decode cX7_keep 12 = .ok (.istore_n 1, 1) := by decide +kernel
theorem dX7_keep_13 : decode cX7_keep 13 = .ok (.iload_n 1, 1) := by decide +kernel
theorem dX7_keep_14 : decode cX7_keep 14 = .ok (.bipush 29, 2) := by decide +kernel
theorem dX7_keep_16 : decode cX7_keep 16 = .ok (.if_icmp .ge 29, 3) := by decide +kernel
theorem dX7_keep_19 : decode cX7_keep 19 = .ok (.aload_n 0, 1) := by decide +kernel
theorem dX7_keep_20 : decode cX7_keep 20 = .ok (.getfield 28, 3) := by decide +kernel
theorem dX7_keep_23 : decode cX7_keep 23 = .ok (.bipush 29, 2) := by decide +kernel
theorem dX7_keep_25 : decode cX7_keep 25 = .ok (.aload_n 0, 1) := by decide +kernel
theorem dX7_keep_26 : decode cX7_keep 26 = .ok (.getfield 87, 3) := by decide +kernel
theorem dX7_keep_29 : decode cX7_keep 29 = .ok (.imul, 1) := by decide +kernel
theorem dX7_keep_30 : decode cX7_keep 30 = .ok (.iload_n 1, 1) := by decide +kernel
theorem dX7_keep_31 : decode cX7_keep 31 = .ok (.iadd, 1) := by decide +kernel
theorem dX7_keep_32 : decode cX7_keep 32 = .ok (.aload_n 0, 1) := by decide +kernel
theorem dX7_keep_33 : decode cX7_keep 33 = .ok (.getfield 22, 3) := by decide +kernel
theorem dX7_keep_36 : decode cX7_keep 36 = .ok (.iload_n 1, 1) := by decide +kernel
theorem dX7_keep_37 : decode cX7_keep 37 = .ok (.iaload, 1) := by decide +kernel
theorem dX7_keep_38 : decode cX7_keep 38 = .ok (.iastore, 1) := by decide +kernel
theorem dX7_keep_39 : decode cX7_keep 39 = .ok (.iinc 1 1, 3) := by decide +kernel
theorem dX7_keep_42 : decode cX7_keep 42 = .ok (.goto (-29), 3) := by decide +kernel
theorem dX7_keep_45 : decode cX7_keep 45 = .ok (.aload_n 0, 1) := by decide +kernel
theorem dX7_keep_46 : decode cX7_keep 46 = .ok (.dup, 1) := by decide +kernel
theorem dX7_keep_47 : decode cX7_keep 47 = .ok (.getfield 87, 3) := by decide +kernel
theorem dX7_keep_50 : decode cX7_keep 50 = .ok (.iconst 1, 1) := by decide +kernel
theorem dX7_keep_51 : decode cX7_keep 51 = .ok (.iadd, 1) := by decide +kernel
theorem dX7_keep_52 : decode cX7_keep 52 = .ok (.putfield 87, 3) := by decide +kernel
theorem dX7_keep_55 : decode cX7_keep 55 = .ok (.aload_n 0, 1) := by decide +kernel
theorem dX7_keep_56 : decode cX7_keep 56 = .ok (.getfield 87, 3) := by decide +kernel
theorem dX7_keep_59 : decode cX7_keep 59 = .ok (.ireturn, 1) := by decide +kernel
theorem dX7_back_0 : decode cX7_back 0 = .ok (.aload_n 0, 1) := by decide +kernel
theorem dX7_back_1 : decode cX7_back 1 = .ok (.getfield 87, 3) := by decide +kernel
theorem dX7_back_4 : decode cX7_back 4 = .ok (.ifCond .ne 6, 3) := by decide +kernel
theorem dX7_back_7 : decode cX7_back 7 = .ok (.bipush (-2), 2) := by decide +kernel
theorem dX7_back_9 : decode cX7_back 9 = .ok (.ireturn, 1) := by decide +kernel
theorem dX7_back_10 : decode cX7_back 10 = .ok (.aload_n 0, 1) := by decide +kernel
theorem dX7_back_11 : decode cX7_back 11 = .ok (.dup, 1) := by decide +kernel
theorem dX7_back_12 : decode cX7_back 12 = .ok (.getfield 87, 3) := by decide +kernel
theorem dX7_back_15 : decode cX7_back 15 = .ok (.iconst 1, 1) := by decide +kernel
theorem dX7_back_16 : decode cX7_back 16 = .ok (.isub, 1) := by decide +kernel
theorem dX7_back_17 : decode cX7_back 17 = .ok (.putfield 87, 3) := by decide +kernel
theorem dX7_back_20 : decode cX7_back 20 = .ok (.iconst 0, 1) := by decide +kernel
theorem dX7_back_21 : decode cX7_back 21 = .ok (.istore_n 1, 1) := by decide +kernel
theorem dX7_back_22 : decode cX7_back 22 = .ok (.iload_n 1, 1) := by decide +kernel
theorem dX7_back_23 : decode cX7_back 23 = .ok (.bipush 29, 2) := by decide +kernel
theorem dX7_back_25 : decode cX7_back 25 = .ok (.if_icmp .ge 29, 3) := by decide +kernel
theorem dX7_back_28 : decode cX7_back 28 = .ok (.aload_n 0, 1) := by decide +kernel
theorem dX7_back_29 : decode cX7_back 29 = .ok (.getfield 22, 3) := by decide +kernel
theorem dX7_back_32 : decode cX7_back 32 = .ok (.iload_n 1, 1) := by decide +kernel
theorem dX7_back_33 : decode cX7_back 33 = .ok (.aload_n 0, 1) := by decide +kernel
theorem dX7_back_34 : decode cX7_back 34 = .ok (.getfield 28, 3) := by decide +kernel
theorem dX7_back_37 : decode cX7_back 37 = .ok (.bipush 29, 2) := by decide +kernel
theorem dX7_back_39 : decode cX7_back 39 = .ok (.aload_n 0, 1) := by decide +kernel
theorem dX7_back_40 : decode cX7_back 40 = .ok (.getfield 87, 3) := by decide +kernel
theorem dX7_back_43 : decode cX7_back 43 = .ok (.imul, 1) := by decide +kernel
theorem dX7_back_44 : decode cX7_back 44 = .ok (.iload_n 1, 1) := by decide +kernel
theorem dX7_back_45 : decode cX7_back 45 = .ok (.iadd, 1) := by decide +kernel
theorem dX7_back_46 : decode cX7_back 46 = .ok (.iaload, 1) := by decide +kernel
theorem dX7_back_47 : decode cX7_back 47 = .ok (.iastore, 1) := by decide +kernel
theorem dX7_back_48 : decode cX7_back 48 = .ok (.iinc 1 1, 3) := by decide +kernel
theorem dX7_back_51 : decode cX7_back 51 = .ok (.goto (-29), 3) := by decide +kernel
theorem dX7_back_54 : decode cX7_back 54 = .ok (.aload_n 0, 1) := by decide +kernel
theorem dX7_back_55 : decode cX7_back 55 = .ok (.iconst 0, 1) := by decide +kernel
theorem dX7_back_56 : decode cX7_back 56 = .ok (.putfield 84, 3) := by decide +kernel
theorem dX7_back_59 : decode cX7_back 59 = .ok (.aload_n 0, 1) := by decide +kernel
theorem dX7_back_60 : decode cX7_back 60 = .ok (.getfield 87, 3) := by decide +kernel
theorem dX7_back_63 : decode cX7_back 63 = .ok (.ireturn, 1) := by decide +kernel
theorem dX7_count_0 : decode cX7_count 0 = .ok (.iconst 0, 1) := by decide +kernel
theorem dX7_count_1 : decode cX7_count 1 = .ok (.istore_n 2, 1) := by decide +kernel
theorem dX7_count_2 : decode cX7_count 2 = .ok (.iconst 0, 1) := by decide +kernel
theorem dX7_count_3 : decode cX7_count 3 = .ok (.istore_n 3, 1) := by decide +kernel
theorem dX7_count_4 : decode cX7_count 4 = .ok (.iload_n 3, 1) := by decide +kernel
theorem dX7_count_5 : decode cX7_count 5 = .ok (.aload_n 0, 1) := by decide +kernel
theorem dX7_count_6 : decode cX7_count 6 = .ok (.getfield 13, 3) := by decide +kernel
theorem dX7_count_9 : decode cX7_count 9 = .ok (.iconst 0, 1) := by decide +kernel
theorem dX7_count_10 : decode cX7_count 10 = .ok (.iaload, 1) := by decide +kernel
theorem dX7_count_11 : decode cX7_count 11 = .ok (.if_icmp .ge 21, 3) := by decide +kernel
theorem dX7_count_14 : decode cX7_count 14 = .ok (.iload_n 2, 1) := by decide +kernel
theorem dX7_count_15 : decode cX7_count 15 = .ok (.aload_n 0, 1) := by decide +kernel
theorem dX7_count_16 : decode cX7_count 16 = .ok (.getfield 22, 3) := by decide +kernel
theorem dX7_count_19 : decode cX7_count 19 = .ok (.bipush 8, 2) := by decide +kernel
theorem dX7_count_21 : decode cX7_count 21 = .ok (.iload_n 3, 1) := by decide +kernel
theorem dX7_count_22 : decode cX7_count 22 = .ok (.iadd, 1) := by decide +kernel
theorem dX7_count_23 : decode cX7_count 23 = .ok (.iaload, 1) := by decide +kernel
theorem dX7_count_24 : decode cX7_count 24 = .ok (.iadd, 1) := by decide +kernel
theorem dX7_count_25 : decode cX7_count 25 = .ok (.istore_n 2, 1) := by decide +kernel
theorem dX7_count_26 : decode cX7_count 26 = .ok (.iinc 3 1, 3) := by decide +kernel
theorem dX7_count_29 : decode cX7_count 29 = .ok (.goto (-25), 3) := by decide +kernel
theorem dX7_count_32 : decode cX7_count 32 = .ok (.iload_n 1, 1) := by decide +kernel
theorem dX7_count_33 : decode cX7_count 33 = .ok (.tableswitch 115 0 9 #[55, 62, 69, 77, 84, 91, 98, 100, 105, 110], 55) := by decide +kernel
theorem dX7_count_88 : decode cX7_count 88 = .ok (.aload_n 0, 1) := by decide +kernel
theorem dX7_count_89 : decode cX7_count 89 = .ok (.getfield 13, 3) := by decide +kernel
theorem dX7_count_92 : decode cX7_count 92 = .ok (.iconst 0, 1) := by decide +kernel
theorem dX7_count_93 : decode cX7_count 93 = .ok (.iaload, 1) := by decide +kernel
theorem dX7_count_94 : decode cX7_count 94 = .ok (.ireturn, 1) := by decide +kernel
theorem dX7_count_95 : decode cX7_count 95 = .ok (.aload_n 0, 1) := by decide +kernel
theorem dX7_count_96 : decode cX7_count 96 = .ok (.getfield 13, 3) := by decide +kernel
theorem dX7_count_99 : decode cX7_count 99 = .ok (.iconst 1, 1) := by decide +kernel
theorem dX7_count_100 : decode cX7_count 100 = .ok (.iaload, 1) := by decide +kernel
theorem dX7_count_101 : decode cX7_count 101 = .ok (.ireturn, 1) := by decide +kernel
theorem dX7_count_102 : decode cX7_count 102 = .ok (.aload_n 0, 1) := by decide +kernel
theorem dX7_count_103 : decode cX7_count 103 = .ok (.getfield 22, 3) := by decide +kernel
theorem dX7_count_106 : decode cX7_count 106 = .ok (.bipush 28, 2) := by decide +kernel
theorem dX7_count_108 : decode cX7_count 108 = .ok (.iaload, 1) := by decide +kernel
theorem dX7_count_109 : decode cX7_count 109 = .ok (.ireturn, 1) := by decide +kernel
theorem dX7_count_110 : decode cX7_count 110 = .ok (.aload_n 0, 1) := by decide +kernel
theorem dX7_count_111 : decode cX7_count 111 = .ok (.getfield 13, 3) := by decide +kernel
theorem dX7_count_114 : decode cX7_count 114 = .ok (.iconst 2, 1) := by decide +kernel
theorem dX7_count_115 : decode cX7_count 115 = .ok (.iaload, 1) := by decide +kernel
theorem dX7_count_116 : decode cX7_count 116 = .ok (.ireturn, 1) := by decide +kernel
theorem dX7_count_117 : decode cX7_count 117 = .ok (.aload_n 0, 1) := by decide +kernel
theorem dX7_count_118 : decode cX7_count 118 = .ok (.getfield 13, 3) := by decide +kernel
theorem dX7_count_121 : decode cX7_count 121 = .ok (.iconst 3, 1) := by decide +kernel
theorem dX7_count_122 : decode cX7_count 122 = .ok (.iaload, 1) := by decide +kernel
theorem dX7_count_123 : decode cX7_count 123 = .ok (.ireturn, 1) := by decide +kernel
theorem dX7_count_124 : decode cX7_count 124 = .ok (.aload_n 0, 1) := by decide +kernel
theorem dX7_count_125 : decode cX7_count 125 = .ok (.getfield 13, 3) := by decide +kernel
theorem dX7_count_128 : decode cX7_count 128 = .ok (.iconst 4, 1) := by decide +kernel
theorem dX7_count_129 : decode cX7_count 129 = .ok (.iaload, 1) := by decide +kernel
theorem dX7_count_130 : decode cX7_count 130 = .ok (.ireturn, 1) := by decide +kernel
theorem dX7_count_131 : decode cX7_count 131 = .ok (.iload_n 2, 1) := by decide +kernel
theorem dX7_count_132 : decode cX7_count 132 = .ok (.ireturn, 1) := by decide +kernel
theorem dX7_count_133 : decode cX7_count 133 = .ok (.aload_n 0, 1) := by decide +kernel
theorem dX7_count_134 : decode cX7_count 134 = .ok (.getfield 84, 3) := by decide +kernel
theorem dX7_count_137 : decode cX7_count 137 = .ok (.ireturn, 1) := by decide +kernel
theorem dX7_count_138 : decode cX7_count 138 = .ok (.aload_n 0, 1) := by decide +kernel
theorem dX7_count_139 : decode cX7_count 139 = .ok (.getfield 87, 3) := by decide +kernel
theorem dX7_count_142 : decode cX7_count 142 = .ok (.ireturn, 1) := by decide +kernel
theorem dX7_count_143 : decode cX7_count 143 = .ok (.aload_n 0, 1) := by decide +kernel
theorem dX7_count_144 : decode cX7_count 144 = .ok (.getfield 58, 3) := by decide +kernel
theorem dX7_count_147 : decode cX7_count 147 = .ok (.ireturn, 1) := by decide +kernel
theorem dX7_count_148 : decode cX7_count 148 = .ok (.iconst (-1), 1) := by decide +kernel
theorem dX7_count_149 : decode cX7_count 149 = .ok (.ireturn, 1) := by decide +kernel
theorem dJ6_bitCount_0f7a4_0 : decode cJ6_bitCount_0f7a4 0 = .ok (.iload_n 0, 1) := by decide +kernel
theorem dJ6_bitCount_0f7a4_1 : decode cJ6_bitCount_0f7a4 1 = .ok (.iload_n 0, 1) := by decide +kernel
theorem dJ6_bitCount_0f7a4_2 : decode cJ6_bitCount_0f7a4 2 = .ok (.iconst 1, 1) := by decide +kernel
theorem dJ6_bitCount_0f7a4_3 : decode cJ6_bitCount_0f7a4 3 = .ok (.iushr, 1) := by decide +kernel
theorem dJ6_bitCount_0f7a4_4 : decode cJ6_bitCount_0f7a4 4 = .ok (.ldc_w 265, 3) := by decide +kernel
theorem dJ6_bitCount_0f7a4_7 : decode cJ6_bitCount_0f7a4 7 = .ok (.iand, 1) := by decide +kernel
theorem dJ6_bitCount_0f7a4_8 : decode cJ6_bitCount_0f7a4 8 = .ok (.isub, 1) := by decide +kernel
theorem dJ6_bitCount_0f7a4_9 : decode cJ6_bitCount_0f7a4 9 = .ok (.istore_n 0, 1) := by decide +kernel
theorem dJ6_bitCount_0f7a4_10 : decode cJ6_bitCount_0f7a4 10 = .ok (.iload_n 0, 1) := by decide +kernel
theorem dJ6_bitCount_0f7a4_11 : decode cJ6_bitCount_0f7a4 11 = .ok (.ldc_w 266, 3) := by decide +kernel
theorem dJ6_bitCount_0f7a4_14 : decode cJ6_bitCount_0f7a4 14 = .ok (.iand, 1) := by decide +kernel
theorem dJ6_bitCount_0f7a4_15 : decode cJ6_bitCount_0f7a4 15 = .ok (.iload_n 0, 1) := by decide +kernel
theorem dJ6_bitCount_0f7a4_16 : decode cJ6_bitCount_0f7a4 16 = .ok (.iconst 2, 1) := by decide +kernel
theorem dJ6_bitCount_0f7a4_17 : decode cJ6_bitCount_0f7a4 17 = .ok (.iushr, 1) := by decide +kernel
theorem dJ6_bitCount_0f7a4_18 : decode cJ6_bitCount_0f7a4 18 = .ok (.ldc_w 266, 3) := by decide +kernel
theorem dJ6_bitCount_0f7a4_21 : decode cJ6_bitCount_0f7a4 21 = .ok (.iand, 1) := by decide +kernel
theorem dJ6_bitCount_0f7a4_22 : decode cJ6_bitCount_0f7a4 22 = .ok (.iadd, 1) := by decide +kernel
theorem dJ6_bitCount_0f7a4_23 : decode cJ6_bitCount_0f7a4 23 = .ok (.istore_n 0, 1) := by decide +kernel
theorem dJ6_bitCount_0f7a4_24 : decode cJ6_bitCount_0f7a4 24 = .ok (.iload_n 0, 1) := by decide +kernel
theorem dJ6_bitCount_0f7a4_25 : decode cJ6_bitCount_0f7a4 25 = .ok (.iload_n 0, 1) := by decide +kernel
theorem dJ6_bitCount_0f7a4_26 : decode cJ6_bitCount_0f7a4 26 = .ok (.iconst 4, 1) := by decide +kernel
theorem dJ6_bitCount_0f7a4_27 : decode cJ6_bitCount_0f7a4 27 = .ok (.iushr, 1) := by decide +kernel
theorem dJ6_bitCount_0f7a4_28 : decode cJ6_bitCount_0f7a4 28 = .ok (.iadd, 1) := by decide +kernel
theorem dJ6_bitCount_0f7a4_29 : decode cJ6_bitCount_0f7a4 29 = .ok (.ldc_w 267, 3) := by decide +kernel
theorem dJ6_bitCount_0f7a4_32 : decode cJ6_bitCount_0f7a4 32 = .ok (.iand, 1) := by decide +kernel
theorem dJ6_bitCount_0f7a4_33 : decode cJ6_bitCount_0f7a4 33 = .ok (.istore_n 0, 1) := by decide +kernel
theorem dJ6_bitCount_0f7a4_34 : decode cJ6_bitCount_0f7a4 34 = .ok (.iload_n 0, 1) := by decide +kernel
theorem dJ6_bitCount_0f7a4_35 : decode cJ6_bitCount_0f7a4 35 = .ok (.iload_n 0, 1) := by decide +kernel
theorem dJ6_bitCount_0f7a4_36 : decode cJ6_bitCount_0f7a4 36 = .ok (.bipush 8, 2) := by decide +kernel
theorem dJ6_bitCount_0f7a4_38 : decode cJ6_bitCount_0f7a4 38 = .ok (.iushr, 1) := by decide +kernel
theorem dJ6_bitCount_0f7a4_39 : decode cJ6_bitCount_0f7a4 39 = .ok (.iadd, 1) := by decide +kernel
theorem dJ6_bitCount_0f7a4_40 : decode cJ6_bitCount_0f7a4 40 = .ok (.istore_n 0, 1) := by decide +kernel
theorem dJ6_bitCount_0f7a4_41 : decode cJ6_bitCount_0f7a4 41 = .ok (.iload_n 0, 1) := by decide +kernel
theorem dJ6_bitCount_0f7a4_42 : decode cJ6_bitCount_0f7a4 42 = .ok (.iload_n 0, 1) := by decide +kernel
theorem dJ6_bitCount_0f7a4_43 : decode cJ6_bitCount_0f7a4 43 = .ok (.bipush 16, 2) := by decide +kernel
theorem dJ6_bitCount_0f7a4_45 : decode cJ6_bitCount_0f7a4 45 = .ok (.iushr, 1) := by decide +kernel
theorem dJ6_bitCount_0f7a4_46 : decode cJ6_bitCount_0f7a4 46 = .ok (.iadd, 1) := by decide +kernel
theorem dJ6_bitCount_0f7a4_47 : decode cJ6_bitCount_0f7a4 47 = .ok (.istore_n 0, 1) := by decide +kernel
theorem dJ6_bitCount_0f7a4_48 : decode cJ6_bitCount_0f7a4 48 = .ok (.iload_n 0, 1) := by decide +kernel
theorem dJ6_bitCount_0f7a4_49 : decode cJ6_bitCount_0f7a4 49 = .ok (.bipush 63, 2) := by decide +kernel
theorem dJ6_bitCount_0f7a4_51 : decode cJ6_bitCount_0f7a4 51 = .ok (.iand, 1) := by decide +kernel
theorem dJ6_bitCount_0f7a4_52 : decode cJ6_bitCount_0f7a4 52 = .ok (.ireturn, 1) := by decide +kernel
theorem dJ9_max_7cf53_0 : decode cJ9_max_7cf53 0 = .ok (.iload_n 0, 1) := by decide +kernel
theorem dJ9_max_7cf53_1 : decode cJ9_max_7cf53 1 = .ok (.iload_n 1, 1) := by decide +kernel
theorem dJ9_max_7cf53_2 : decode cJ9_max_7cf53 2 = .ok (.if_icmp .lt 7, 3) := by decide +kernel
theorem dJ9_max_7cf53_5 : decode cJ9_max_7cf53 5 = .ok (.iload_n 0, 1) := by decide +kernel
theorem dJ9_max_7cf53_6 : decode cJ9_max_7cf53 6 = .ok (.goto 4, 3) := by decide +kernel
theorem dJ9_max_7cf53_9 : decode cJ9_max_7cf53 9 = .ok (.iload_n 1, 1) := by decide +kernel
theorem dJ9_max_7cf53_10 : decode cJ9_max_7cf53 10 = .ok (.ireturn, 1) := by decide +kernel
theorem dJ9_min_7cf53_0 : decode cJ9_min_7cf53 0 = .ok (.iload_n 0, 1) := by decide +kernel
theorem dJ9_min_7cf53_1 : decode cJ9_min_7cf53 1 = .ok (.iload_n 1, 1) := by decide +kernel
theorem dJ9_min_7cf53_2 : decode cJ9_min_7cf53 2 = .ok (.if_icmp .gt 7, 3) := by decide +kernel
theorem dJ9_min_7cf53_5 : decode cJ9_min_7cf53 5 = .ok (.iload_n 0, 1) := by decide +kernel
theorem dJ9_min_7cf53_6 : decode cJ9_min_7cf53 6 = .ok (.goto 4, 3) := by decide +kernel
theorem dJ9_min_7cf53_9 : decode cJ9_min_7cf53 9 = .ok (.iload_n 1, 1) := by decide +kernel
theorem dJ9_min_7cf53_10 : decode cJ9_min_7cf53 10 = .ok (.ireturn, 1) := by decide +kernel
theorem dJ0_length_8abf5_0 : decode cJ0_length_8abf5 0 = .ok (.aload_n 0, 1) := by decide +kernel
theorem dJ0_length_8abf5_1 : decode cJ0_length_8abf5 1 = .ok (.getfield 9, 3) := by decide +kernel
theorem dJ0_length_8abf5_4 : decode cJ0_length_8abf5 4 = .ok (.arraylength, 1) := by decide +kernel
theorem dJ0_length_8abf5_5 : decode cJ0_length_8abf5 5 = .ok (.aload_n 0, 1) := by decide +kernel
theorem dJ0_length_8abf5_6 : decode cJ0_length_8abf5 6 = .ok (.invokevirtual 335, 3) := by decide +kernel
theorem dJ0_length_8abf5_9 : decode cJ0_length_8abf5 9 = .ok (.ishr, 1) := by decide +kernel
theorem dJ0_length_8abf5_10 : decode cJ0_length_8abf5 10 = .ok (.ireturn, 1) := by decide +kernel
theorem dJ0_charAt_5068e_0 : decode cJ0_charAt_5068e 0 = .ok (.aload_n 0, 1) := by decide +kernel
theorem dJ0_charAt_5068e_1 : decode cJ0_charAt_5068e 1 = .ok (.invokevirtual 492, 3) := by decide +kernel
theorem dJ0_charAt_5068e_4 : decode cJ0_charAt_5068e 4 = .ok (.ifCond .eq 12, 3) := by decide +kernel
theorem dJ0_charAt_5068e_7 : decode cJ0_charAt_5068e 7 = .ok (.aload_n 0, 1) := by decide +kernel
theorem dJ0_charAt_5068e_8 : decode cJ0_charAt_5068e 8 = .ok (.getfield 9, 3) := by decide +kernel
theorem dJ0_charAt_5068e_11 : decode cJ0_charAt_5068e 11 = .ok (.iload_n 1, 1) := by decide +kernel
theorem dJ0_charAt_5068e_12 : decode cJ0_charAt_5068e 12 = .ok (.invokestatic 495, 3) := by decide +kernel
theorem dJ0_charAt_5068e_15 : decode cJ0_charAt_5068e 15 = .ok (.ireturn, 1) := by decide +kernel
theorem dJ0_charAt_5068e_16 : decode cJ0_charAt_5068e 16 = .ok (.aload_n 0, 1) := by decide +kernel
theorem dJ0_charAt_5068e_17 : decode cJ0_charAt_5068e 17 = .ok (.getfield 9, 3) := by decide +kernel
theorem dJ0_charAt_5068e_20 : decode cJ0_charAt_5068e 20 = .ok (.iload_n 1, 1) := by decide +kernel
theorem dJ0_charAt_5068e_21 : decode cJ0_charAt_5068e 21 = .ok (.invokestatic 498, 3) := by decide +kernel
theorem dJ0_charAt_5068e_24 : decode cJ0_charAt_5068e 24 = .ok (.ireturn, 1) := by decide +kernel
theorem dJ0_coder_7d493_0 : decode cJ0_coder_7d493 0 = .ok (.getstatic 38, 3) := by decide +kernel
theorem dJ0_coder_7d493_3 : decode cJ0_coder_7d493 3 = .ok (.ifCond .eq 10, 3) := by decide +kernel
theorem dJ0_coder_7d493_6 : decode cJ0_coder_7d493 6 = .ok (.aload_n 0, 1) := by decide +kernel
theorem dJ0_coder_7d493_7 : decode cJ0_coder_7d493 7 = .ok (.getfield 15, 3) := by decide +kernel
theorem dJ0_coder_7d493_10 : decode cJ0_coder_7d493 10 = .ok (.goto 4, 3) := by decide +kernel
theorem dJ0_coder_7d493_13 : decode cJ0_coder_7d493 13 = .ok (.iconst 1, 1) := by decide +kernel
theorem dJ0_coder_7d493_14 : decode cJ0_coder_7d493 14 = .ok (.ireturn, 1) := by decide +kernel
theorem dJ0_isLatin1_aae02_0 : decode cJ0_isLatin1_aae02 0 = .ok (.getstatic 38, 3) := by decide +kernel
theorem dJ0_isLatin1_aae02_3 : decode cJ0_isLatin1_aae02 3 = .ok (.ifCond .eq 14, 3) := by decide +kernel
theorem dJ0_isLatin1_aae02_6 : decode cJ0_isLatin1_aae02 6 = .ok (.aload_n 0, 1) := by decide +kernel
theorem dJ0_isLatin1_aae02_7 : decode cJ0_isLatin1_aae02 7 = .ok (.getfield 15, 3) := by decide +kernel
theorem dJ0_isLatin1_aae02_10 : decode cJ0_isLatin1_aae02 10 = .ok (.ifCond .ne 7, 3) := by decide +kernel
theorem dJ0_isLatin1_aae02_13 : decode cJ0_isLatin1_aae02 13 = .ok (.iconst 1, 1) := by decide +kernel
theorem dJ0_isLatin1_aae02_14 : decode cJ0_isLatin1_aae02 14 = .ok (.goto 4, 3) := by decide +kernel
theorem dJ0_isLatin1_aae02_17 : decode cJ0_isLatin1_aae02 17 = .ok (.iconst 0, 1) := by decide +kernel
theorem dJ0_isLatin1_aae02_18 : decode cJ0_isLatin1_aae02 18 = .ok (.ireturn, 1) := by decide +kernel
theorem dJ0_checkIndex_df160_0 : decode cJ0_checkIndex_df160 0 = .ok (.iload_n 0, 1) := by decide +kernel
theorem dJ0_checkIndex_df160_1 : decode cJ0_checkIndex_df160 1 = .ok (.iload_n 1, 1) := by decide +kernel
theorem dJ0_checkIndex_df160_2 : decode cJ0_checkIndex_df160 2 = .ok (.getstatic 1053, 3) := by decide +kernel
theorem dJ0_checkIndex_df160_5 : decode cJ0_checkIndex_df160 5 = .ok (.invokestatic 1059, 3) := by decide +kernel
theorem dJ0_checkIndex_df160_8 : decode cJ0_checkIndex_df160 8 = .ok (.pop, 1) := by decide +kernel
theorem dJ0_checkIndex_df160_9 : decode cJ0_checkIndex_df160 9 = .ok (.return_, 1) := by decide +kernel
theorem dJ1_charAt_3b067_0 : decode cJ1_charAt_3b067 0 = .ok (.iload_n 1, 1) := by decide +kernel
theorem dJ1_charAt_3b067_1 : decode cJ1_charAt_3b067 1 = .ok (.aload_n 0, 1) := by decide +kernel
theorem dJ1_charAt_3b067_2 : decode cJ1_charAt_3b067 2 = .ok (.arraylength, 1) := by decide +kernel
theorem dJ1_charAt_3b067_3 : decode cJ1_charAt_3b067 3 = .ok (.invokestatic 9, 3) := by decide +kernel
theorem dJ1_charAt_3b067_6 : decode cJ1_charAt_3b067 6 = .ok (.aload_n 0, 1) := by decide +kernel
theorem dJ1_charAt_3b067_7 : decode cJ1_charAt_3b067 7 = .ok (.iload_n 1, 1) := by decide +kernel
theorem dJ1_charAt_3b067_8 : decode cJ1_charAt_3b067 8 = .ok (.baload, 1) := by decide +kernel
theorem dJ1_charAt_3b067_9 : decode cJ1_charAt_3b067 9 = .ok (.sipush 255, 3) := by decide +kernel
theorem dJ1_charAt_3b067_12 : decode cJ1_charAt_3b067 12 = .ok (.iand, 1) := by decide +kernel
theorem dJ1_charAt_3b067_13 : decode cJ1_charAt_3b067 13 = .ok (.i2c, 1) := by decide +kernel
theorem dJ1_charAt_3b067_14 : decode cJ1_charAt_3b067 14 = .ok (.ireturn, 1) := by decide +kernel
theorem dJ2_getChar_3b067_0 : decode cJ2_getChar_3b067 0 = .ok (.getstatic 44, 3) := by decide +kernel
theorem dJ2_getChar_3b067_3 : decode cJ2_getChar_3b067 3 = .ok (.ifCond .ne 25, 3) := by decide +kernel
theorem dJ2_getChar_3b067_6 : decode cJ2_getChar_3b067 6 = .ok (.iload_n 1, 1) := by decide +kernel
theorem dJ2_getChar_3b067_7 : decode cJ2_getChar_3b067 7 = .ok (.ifCond .lt 11, 3) := by decide +kernel
theorem dJ2_getChar_3b067_10 : decode cJ2_getChar_3b067 10 = .ok (.iload_n 1, 1) := by decide +kernel
theorem dJ2_getChar_3b067_11 : decode cJ2_getChar_3b067 11 = .ok (.aload_n 0, 1) := by decide +kernel
theorem dJ2_getChar_3b067_12 : decode cJ2_getChar_3b067 12 = .ok (.invokestatic 48, 3) := by decide +kernel
theorem dJ2_getChar_3b067_15 : decode cJ2_getChar_3b067 15 = .ok (.if_icmp .lt 13, 3) := by decide +kernel
theorem dJ2_getChar_3b067_18 : decode cJ2_getChar_3b067 18 = .ok (.new 52, 3) := by decide +kernel
theorem dJ2_getChar_3b067_21 : decode cJ2_getChar_3b067 21 = .ok (.dup, 1) := by decide +kernel
theorem dJ2_getChar_3b067_22 : decode cJ2_getChar_3b067 22 = .ok (.ldc 54, 2) := by decide +kernel
theorem dJ2_getChar_3b067_24 : decode cJ2_getChar_3b067 24 = .ok (.invokespecial 56, 3) := by decide +kernel
theorem dJ2_getChar_3b067_27 : decode cJ2_getChar_3b067 27 = .ok (.athrow, 1) := by decide +kernel
theorem dJ2_getChar_3b067_28 : decode cJ2_getChar_3b067 28 = .ok (.iload_n 1, 1) := by decide +kernel
theorem dJ2_getChar_3b067_29 : decode cJ2_getChar_3b067 29 = .ok (.iconst 1, 1) := by decide +kernel
theorem dJ2_getChar_3b067_30 : decode cJ2_getChar_3b067 30 = .ok (.ishl, 1) := by decide +kernel
theorem dJ2_getChar_3b067_31 : decode cJ2_getChar_3b067 31 = .ok (.istore_n 1, 1) := by decide +kernel
theorem dJ2_getChar_3b067_32 : decode cJ2_getChar_3b067 32 = .ok (.aload_n 0, 1) := by decide +kernel
theorem dJ2_getChar_3b067_33 : decode cJ2_getChar_3b067 33 = .ok (.iload_n 1, 1) := by decide +kernel
theorem dJ2_getChar_3b067_34 : decode cJ2_getChar_3b067 34 = .ok (.iinc 1 1, 3) := by decide +kernel
theorem dJ2_getChar_3b067_37 : decode cJ2_getChar_3b067 37 = .ok (.baload, 1) := by decide +kernel
theorem dJ2_getChar_3b067_38 : decode cJ2_getChar_3b067 38 = .ok (.sipush 255, 3) := by decide +kernel
theorem dJ2_getChar_3b067_41 : decode cJ2_getChar_3b067 41 = .ok (.iand, 1) := by decide +kernel
theorem dJ2_getChar_3b067_42 : decode cJ2_getChar_3b067 42 = .ok (.getstatic 59, 3) := by decide +kernel
theorem dJ2_getChar_3b067_45 : decode cJ2_getChar_3b067 45 = .ok (.ishl, 1) := by decide +kernel
theorem dJ2_getChar_3b067_46 : decode cJ2_getChar_3b067 46 = .ok (.aload_n 0, 1) := by decide +kernel
theorem dJ2_getChar_3b067_47 : decode cJ2_getChar_3b067 47 = .ok (.iload_n 1, 1) := by decide +kernel
theorem dJ2_getChar_3b067_48 : decode cJ2_getChar_3b067 48 = .ok (.baload, 1) := by decide +kernel
theorem dJ2_getChar_3b067_49 : decode cJ2_getChar_3b067 49 = .ok (.sipush 255, 3) := by decide +kernel
theorem dJ2_getChar_3b067_52 : decode cJ2_getChar_3b067 52 = .ok (.iand, 1) := by decide +kernel
theorem dJ2_getChar_3b067_53 : decode cJ2_getChar_3b067 53 = .ok (.getstatic 63, 3) := by decide +kernel
theorem dJ2_getChar_3b067_56 : decode cJ2_getChar_3b067 56 = .ok (.ishl, 1) := by decide +kernel
theorem dJ2_getChar_3b067_57 : decode cJ2_getChar_3b067 57 = .ok (.ior, 1) := by decide +kernel
theorem dJ2_getChar_3b067_58 : decode cJ2_getChar_3b067 58 = .ok (.i2c, 1) := by decide +kernel
theorem dJ2_getChar_3b067_59 : decode cJ2_getChar_3b067 59 = .ok (.ireturn, 1) := by decide +kernel
theorem dJ2_length_9d52b_0 : decode cJ2_length_9d52b 0 = .ok (.aload_n 0, 1) := by decide +kernel
theorem dJ2_length_9d52b_1 : decode cJ2_length_9d52b 1 = .ok (.arraylength, 1) := by decide +kernel
theorem dJ2_length_9d52b_2 : decode cJ2_length_9d52b 2 = .ok (.iconst 1, 1) := by decide +kernel
theorem dJ2_length_9d52b_3 : decode cJ2_length_9d52b 3 = .ok (.ishr, 1) := by decide +kernel
theorem dJ2_length_9d52b_4 : decode cJ2_length_9d52b 4 = .ok (.ireturn, 1) := by decide +kernel
theorem dJ2_charAt_3b067_0 : decode cJ2_charAt_3b067 0 = .ok (.iload_n 1, 1) := by decide +kernel
theorem dJ2_charAt_3b067_1 : decode cJ2_charAt_3b067 1 = .ok (.aload_n 0, 1) := by decide +kernel
theorem dJ2_charAt_3b067_2 : decode cJ2_charAt_3b067 2 = .ok (.invokestatic 67, 3) := by decide +kernel
theorem dJ2_charAt_3b067_5 : decode cJ2_charAt_3b067 5 = .ok (.aload_n 0, 1) := by decide +kernel
theorem dJ2_charAt_3b067_6 : decode cJ2_charAt_3b067 6 = .ok (.iload_n 1, 1) := by decide +kernel
theorem dJ2_charAt_3b067_7 : decode cJ2_charAt_3b067 7 = .ok (.invokestatic 71, 3) := by decide +kernel
theorem dJ2_charAt_3b067_10 : decode cJ2_charAt_3b067 10 = .ok (.ireturn, 1) := by decide +kernel
theorem dJ2_checkIndex_2214a_0 : decode cJ2_checkIndex_2214a 0 = .ok (.iload_n 0, 1) := by decide +kernel
theorem dJ2_checkIndex_2214a_1 : decode cJ2_checkIndex_2214a 1 = .ok (.aload_n 1, 1) := by decide +kernel
theorem dJ2_checkIndex_2214a_2 : decode cJ2_checkIndex_2214a 2 = .ok (.invokestatic 48, 3) := by decide +kernel
theorem dJ2_checkIndex_2214a_5 : decode cJ2_checkIndex_2214a 5 = .ok (.invokestatic 414, 3) := by decide +kernel
theorem dJ2_checkIndex_2214a_8 : decode cJ2_checkIndex_2214a 8 = .ok (.return_, 1) := by decide +kernel
theorem dJ3_checkIndex_8e157_0 : decode cJ3_checkIndex_8e157 0 = .ok (.iload_n 0, 1) := by decide +kernel
theorem dJ3_checkIndex_8e157_1 : decode cJ3_checkIndex_8e157 1 = .ok (.ifCond .lt 8, 3) := by decide +kernel
theorem dJ3_checkIndex_8e157_4 : decode cJ3_checkIndex_8e157 4 = .ok (.iload_n 0, 1) := by decide +kernel
theorem dJ3_checkIndex_8e157_5 : decode cJ3_checkIndex_8e157 5 = .ok (.iload_n 1, 1) := by decide +kernel
theorem dJ3_checkIndex_8e157_6 : decode cJ3_checkIndex_8e157 6 = .ok (.if_icmp .lt 10, 3) := by decide +kernel
theorem dJ3_checkIndex_8e157_9 : decode cJ3_checkIndex_8e157 9 = .ok (.aload_n 2, 1) := by decide +kernel
theorem dJ3_checkIndex_8e157_10 : decode cJ3_checkIndex_8e157 10 = .ok (.iload_n 0, 1) := by decide +kernel
theorem dJ3_checkIndex_8e157_11 : decode cJ3_checkIndex_8e157 11 = .ok (.iload_n 1, 1) := by decide +kernel
theorem dJ3_checkIndex_8e157_12 : decode cJ3_checkIndex_8e157 12 = .ok (.invokestatic 95, 3) := by decide +kernel
theorem dJ3_checkIndex_8e157_15 : decode cJ3_checkIndex_8e157 15 = .ok (.athrow, 1) := by decide +kernel
theorem dJ3_checkIndex_8e157_16 : decode cJ3_checkIndex_8e157 16 = .ok (.iload_n 0, 1) := by decide +kernel
theorem dJ3_checkIndex_8e157_17 : decode cJ3_checkIndex_8e157 17 = .ok (.ireturn, 1) := by decide +kernel
theorem dL_law_0 : decode cL_law 0 = .ok (.new 7, 3) := by decide +kernel
theorem dL_law_3 : decode cL_law 3 = .ok (.dup, 1) := by decide +kernel
theorem dL_law_4 : decode cL_law 4 = .ok (.invokespecial 9, 3) := by decide +kernel
theorem dL_law_7 : decode cL_law 7 = .ok (.astore_n 1, 1) := by decide +kernel
theorem dL_law_8 : decode cL_law 8 = .ok (.new 10, 3) := by decide +kernel
theorem dL_law_11 : decode cL_law 11 = .ok (.dup, 1) := by decide +kernel
theorem dL_law_12 : decode cL_law 12 = .ok (.invokespecial 12, 3) := by decide +kernel
theorem dL_law_15 : decode cL_law 15 = .ok (.astore_n 2, 1) := by decide +kernel
theorem dL_law_16 : decode cL_law 16 = .ok (.iconst 0, 1) := by decide +kernel
theorem dL_law_17 : decode cL_law 17 = .ok (.istore_n 3, 1) := by decide +kernel
theorem dL_law_18 : decode cL_law 18 = .ok (.iload_n 3, 1) := by decide +kernel
theorem dL_law_19 : decode cL_law 19 = .ok (.aload_n 0, 1) := by decide +kernel
theorem dL_law_20 : decode cL_law 20 = .ok (.arraylength, 1) := by decide +kernel
theorem dL_law_21 : decode cL_law 21 = .ok (.iconst 5, 1) := by decide +kernel
theorem dL_law_22 : decode cL_law 22 = .ok (.isub, 1) := by decide +kernel
theorem dL_law_23 : decode cL_law 23 = .ok (.if_icmp .gt 790, 3) := by decide +kernel
theorem dL_law_26 : decode cL_law 26 = .ok (.aload_n 0, 1) := by decide +kernel
theorem dL_law_27 : decode cL_law 27 = .ok (.iload_n 3, 1) := by decide +kernel
theorem dL_law_28 : decode cL_law 28 = .ok (.iaload, 1) := by decide +kernel
theorem dL_law_29 : decode cL_law 29 = .ok (.bipush 31, 2) := by decide +kernel
theorem dL_law_31 : decode cL_law 31 = .ok (.iand, 1) := by decide +kernel
theorem dL_law_32 : decode cL_law 32 = .ok (.tableswitch 775 0 26 #[124, 147, 160, 173, 186, 219, 252, 285, 318, 341, 374, 397, 410, 433, 446, 469, 492, 505, 538, 571, 604, 657, 670, 683, 726, 739, 752], 124) := by decide +kernel
theorem dL_law_156 : decode cL_law 156 = .ok (.aload_n 1, 1) := by decide +kernel
theorem dL_law_157 : decode cL_law 157 = .ok (.aload_n 0, 1) := by decide +kernel
theorem dL_law_158 : decode cL_law 158 = .ok (.iload_n 3, 1) := by decide +kernel
theorem dL_law_159 : decode cL_law 159 = .ok (.iconst 1, 1) := by decide +kernel
theorem dL_law_160 : decode cL_law 160 = .ok (.iadd, 1) := by decide +kernel
theorem dL_law_161 : decode cL_law 161 = .ok (.iaload, 1) := by decide +kernel
theorem dL_law_162 : decode cL_law 162 = .ok (.invokevirtual 13, 3) := by decide +kernel
theorem dL_law_165 : decode cL_law 165 = .ok (.aload_n 2, 1) := by decide +kernel
theorem dL_law_166 : decode cL_law 166 = .ok (.aload_n 0, 1) := by decide +kernel
theorem dL_law_167 : decode cL_law 167 = .ok (.iload_n 3, 1) := by decide +kernel
theorem dL_law_168 : decode cL_law 168 = .ok (.iconst 1, 1) := by decide +kernel
theorem dL_law_169 : decode cL_law 169 = .ok (.iadd, 1) := by decide +kernel
theorem dL_law_170 : decode cL_law 170 = .ok (.iaload, 1) := by decide +kernel
theorem dL_law_171 : decode cL_law 171 = .ok (.invokevirtual 17, 3) := by decide +kernel
theorem dL_law_174 : decode cL_law 174 = .ok (.if_icmp .eq 633, 3) := by decide +kernel
theorem dL_law_177 : decode cL_law 177 = .ok (.iconst 0, 1) := by decide +kernel
theorem dL_law_178 : decode cL_law 178 = .ok (.ireturn, 1) := by decide +kernel
theorem dL_law_179 : decode cL_law 179 = .ok (.aload_n 1, 1) := by decide +kernel
theorem dL_law_180 : decode cL_law 180 = .ok (.invokevirtual 18, 3) := by decide +kernel
theorem dL_law_183 : decode cL_law 183 = .ok (.aload_n 2, 1) := by decide +kernel
theorem dL_law_184 : decode cL_law 184 = .ok (.invokevirtual 22, 3) := by decide +kernel
theorem dL_law_187 : decode cL_law 187 = .ok (.if_icmp .eq 620, 3) := by decide +kernel
theorem dL_law_190 : decode cL_law 190 = .ok (.iconst 0, 1) := by decide +kernel
theorem dL_law_191 : decode cL_law 191 = .ok (.ireturn, 1) := by decide +kernel
theorem dL_law_192 : decode cL_law 192 = .ok (.aload_n 1, 1) := by decide +kernel
theorem dL_law_193 : decode cL_law 193 = .ok (.invokevirtual 23, 3) := by decide +kernel
theorem dL_law_196 : decode cL_law 196 = .ok (.aload_n 2, 1) := by decide +kernel
theorem dL_law_197 : decode cL_law 197 = .ok (.invokevirtual 26, 3) := by decide +kernel
theorem dL_law_200 : decode cL_law 200 = .ok (.if_icmp .eq 607, 3) := by decide +kernel
theorem dL_law_203 : decode cL_law 203 = .ok (.iconst 0, 1) := by decide +kernel
theorem dL_law_204 : decode cL_law 204 = .ok (.ireturn, 1) := by decide +kernel
theorem dL_law_205 : decode cL_law 205 = .ok (.aload_n 1, 1) := by decide +kernel
theorem dL_law_206 : decode cL_law 206 = .ok (.invokevirtual 27, 3) := by decide +kernel
theorem dL_law_209 : decode cL_law 209 = .ok (.aload_n 2, 1) := by decide +kernel
theorem dL_law_210 : decode cL_law 210 = .ok (.invokevirtual 30, 3) := by decide +kernel
theorem dL_law_213 : decode cL_law 213 = .ok (.if_icmp .eq 594, 3) := by decide +kernel
theorem dL_law_216 : decode cL_law 216 = .ok (.iconst 0, 1) := by decide +kernel
theorem dL_law_217 : decode cL_law 217 = .ok (.ireturn, 1) := by decide +kernel
theorem dL_law_218 : decode cL_law 218 = .ok (.aload_n 1, 1) := by decide +kernel
theorem dL_law_219 : decode cL_law 219 = .ok (.aload_n 0, 1) := by decide +kernel
theorem dL_law_220 : decode cL_law 220 = .ok (.iload_n 3, 1) := by decide +kernel
theorem dL_law_221 : decode cL_law 221 = .ok (.iconst 1, 1) := by decide +kernel
theorem dL_law_222 : decode cL_law 222 = .ok (.iadd, 1) := by decide +kernel
theorem dL_law_223 : decode cL_law 223 = .ok (.iaload, 1) := by decide +kernel
theorem dL_law_224 : decode cL_law 224 = .ok (.aload_n 0, 1) := by decide +kernel
theorem dL_law_225 : decode cL_law 225 = .ok (.iload_n 3, 1) := by decide +kernel
theorem dL_law_226 : decode cL_law 226 = .ok (.iconst 2, 1) := by decide +kernel
theorem dL_law_227 : decode cL_law 227 = .ok (.iadd, 1) := by decide +kernel
theorem dL_law_228 : decode cL_law 228 = .ok (.iaload, 1) := by decide +kernel
theorem dL_law_229 : decode cL_law 229 = .ok (.invokevirtual 31, 3) := by decide +kernel
theorem dL_law_232 : decode cL_law 232 = .ok (.aload_n 2, 1) := by decide +kernel
theorem dL_law_233 : decode cL_law 233 = .ok (.aload_n 0, 1) := by decide +kernel
theorem dL_law_234 : decode cL_law 234 = .ok (.iload_n 3, 1) := by decide +kernel
theorem dL_law_235 : decode cL_law 235 = .ok (.iconst 1, 1) := by decide +kernel
theorem dL_law_236 : decode cL_law 236 = .ok (.iadd, 1) := by decide +kernel
theorem dL_law_237 : decode cL_law 237 = .ok (.iaload, 1) := by decide +kernel
theorem dL_law_238 : decode cL_law 238 = .ok (.aload_n 0, 1) := by decide +kernel
theorem dL_law_239 : decode cL_law 239 = .ok (.iload_n 3, 1) := by decide +kernel
theorem dL_law_240 : decode cL_law 240 = .ok (.iconst 2, 1) := by decide +kernel
theorem dL_law_241 : decode cL_law 241 = .ok (.iadd, 1) := by decide +kernel
theorem dL_law_242 : decode cL_law 242 = .ok (.iaload, 1) := by decide +kernel
theorem dL_law_243 : decode cL_law 243 = .ok (.invokevirtual 35, 3) := by decide +kernel
theorem dL_law_246 : decode cL_law 246 = .ok (.if_icmp .eq 561, 3) := by decide +kernel
theorem dL_law_249 : decode cL_law 249 = .ok (.iconst 0, 1) := by decide +kernel
theorem dL_law_250 : decode cL_law 250 = .ok (.ireturn, 1) := by decide +kernel
theorem dL_law_251 : decode cL_law 251 = .ok (.aload_n 1, 1) := by decide +kernel
theorem dL_law_252 : decode cL_law 252 = .ok (.aload_n 0, 1) := by decide +kernel
theorem dL_law_253 : decode cL_law 253 = .ok (.iload_n 3, 1) := by decide +kernel
theorem dL_law_254 : decode cL_law 254 = .ok (.iconst 1, 1) := by decide +kernel
theorem dL_law_255 : decode cL_law 255 = .ok (.iadd, 1) := by decide +kernel
theorem dL_law_256 : decode cL_law 256 = .ok (.iaload, 1) := by decide +kernel
theorem dL_law_257 : decode cL_law 257 = .ok (.aload_n 0, 1) := by decide +kernel
theorem dL_law_258 : decode cL_law 258 = .ok (.iload_n 3, 1) := by decide +kernel
theorem dL_law_259 : decode cL_law 259 = .ok (.iconst 2, 1) := by decide +kernel
theorem dL_law_260 : decode cL_law 260 = .ok (.iadd, 1) := by decide +kernel
theorem dL_law_261 : decode cL_law 261 = .ok (.iaload, 1) := by decide +kernel
theorem dL_law_262 : decode cL_law 262 = .ok (.invokevirtual 36, 3) := by decide +kernel
theorem dL_law_265 : decode cL_law 265 = .ok (.aload_n 2, 1) := by decide +kernel
theorem dL_law_266 : decode cL_law 266 = .ok (.aload_n 0, 1) := by decide +kernel
theorem dL_law_267 : decode cL_law 267 = .ok (.iload_n 3, 1) := by decide +kernel
theorem dL_law_268 : decode cL_law 268 = .ok (.iconst 1, 1) := by decide +kernel
theorem dL_law_269 : decode cL_law 269 = .ok (.iadd, 1) := by decide +kernel
theorem dL_law_270 : decode cL_law 270 = .ok (.iaload, 1) := by decide +kernel
theorem dL_law_271 : decode cL_law 271 = .ok (.aload_n 0, 1) := by decide +kernel
theorem dL_law_272 : decode cL_law 272 = .ok (.iload_n 3, 1) := by decide +kernel
theorem dL_law_273 : decode cL_law 273 = .ok (.iconst 2, 1) := by decide +kernel
theorem dL_law_274 : decode cL_law 274 = .ok (.iadd, 1) := by decide +kernel
theorem dL_law_275 : decode cL_law 275 = .ok (.iaload, 1) := by decide +kernel
theorem dL_law_276 : decode cL_law 276 = .ok (.invokevirtual 39, 3) := by decide +kernel
theorem dL_law_279 : decode cL_law 279 = .ok (.if_icmp .eq 528, 3) := by decide +kernel
theorem dL_law_282 : decode cL_law 282 = .ok (.iconst 0, 1) := by decide +kernel
theorem dL_law_283 : decode cL_law 283 = .ok (.ireturn, 1) := by decide +kernel
theorem dL_law_284 : decode cL_law 284 = .ok (.aload_n 1, 1) := by decide +kernel
theorem dL_law_285 : decode cL_law 285 = .ok (.aload_n 0, 1) := by decide +kernel
theorem dL_law_286 : decode cL_law 286 = .ok (.iload_n 3, 1) := by decide +kernel
theorem dL_law_287 : decode cL_law 287 = .ok (.iconst 1, 1) := by decide +kernel
theorem dL_law_288 : decode cL_law 288 = .ok (.iadd, 1) := by decide +kernel
theorem dL_law_289 : decode cL_law 289 = .ok (.iaload, 1) := by decide +kernel
theorem dL_law_290 : decode cL_law 290 = .ok (.aload_n 0, 1) := by decide +kernel
theorem dL_law_291 : decode cL_law 291 = .ok (.iload_n 3, 1) := by decide +kernel
theorem dL_law_292 : decode cL_law 292 = .ok (.iconst 2, 1) := by decide +kernel
theorem dL_law_293 : decode cL_law 293 = .ok (.iadd, 1) := by decide +kernel
theorem dL_law_294 : decode cL_law 294 = .ok (.iaload, 1) := by decide +kernel
theorem dL_law_295 : decode cL_law 295 = .ok (.invokevirtual 40, 3) := by decide +kernel
theorem dL_law_298 : decode cL_law 298 = .ok (.aload_n 2, 1) := by decide +kernel
theorem dL_law_299 : decode cL_law 299 = .ok (.aload_n 0, 1) := by decide +kernel
theorem dL_law_300 : decode cL_law 300 = .ok (.iload_n 3, 1) := by decide +kernel
theorem dL_law_301 : decode cL_law 301 = .ok (.iconst 1, 1) := by decide +kernel
theorem dL_law_302 : decode cL_law 302 = .ok (.iadd, 1) := by decide +kernel
theorem dL_law_303 : decode cL_law 303 = .ok (.iaload, 1) := by decide +kernel
theorem dL_law_304 : decode cL_law 304 = .ok (.aload_n 0, 1) := by decide +kernel
theorem dL_law_305 : decode cL_law 305 = .ok (.iload_n 3, 1) := by decide +kernel
theorem dL_law_306 : decode cL_law 306 = .ok (.iconst 2, 1) := by decide +kernel
theorem dL_law_307 : decode cL_law 307 = .ok (.iadd, 1) := by decide +kernel
theorem dL_law_308 : decode cL_law 308 = .ok (.iaload, 1) := by decide +kernel
theorem dL_law_309 : decode cL_law 309 = .ok (.invokevirtual 43, 3) := by decide +kernel
theorem dL_law_312 : decode cL_law 312 = .ok (.if_icmp .eq 495, 3) := by decide +kernel
theorem dL_law_315 : decode cL_law 315 = .ok (.iconst 0, 1) := by decide +kernel
theorem dL_law_316 : decode cL_law 316 = .ok (.ireturn, 1) := by decide +kernel
theorem dL_law_317 : decode cL_law 317 = .ok (.aload_n 1, 1) := by decide +kernel
theorem dL_law_318 : decode cL_law 318 = .ok (.aload_n 0, 1) := by decide +kernel
theorem dL_law_319 : decode cL_law 319 = .ok (.iload_n 3, 1) := by decide +kernel
theorem dL_law_320 : decode cL_law 320 = .ok (.iconst 1, 1) := by decide +kernel
theorem dL_law_321 : decode cL_law 321 = .ok (.iadd, 1) := by decide +kernel
theorem dL_law_322 : decode cL_law 322 = .ok (.iaload, 1) := by decide +kernel
theorem dL_law_323 : decode cL_law 323 = .ok (.aload_n 0, 1) := by decide +kernel
theorem dL_law_324 : decode cL_law 324 = .ok (.iload_n 3, 1) := by decide +kernel
theorem dL_law_325 : decode cL_law 325 = .ok (.iconst 2, 1) := by decide +kernel
theorem dL_law_326 : decode cL_law 326 = .ok (.iadd, 1) := by decide +kernel
theorem dL_law_327 : decode cL_law 327 = .ok (.iaload, 1) := by decide +kernel
theorem dL_law_328 : decode cL_law 328 = .ok (.invokevirtual 44, 3) := by decide +kernel
theorem dL_law_331 : decode cL_law 331 = .ok (.aload_n 2, 1) := by decide +kernel
theorem dL_law_332 : decode cL_law 332 = .ok (.aload_n 0, 1) := by decide +kernel
theorem dL_law_333 : decode cL_law 333 = .ok (.iload_n 3, 1) := by decide +kernel
theorem dL_law_334 : decode cL_law 334 = .ok (.iconst 1, 1) := by decide +kernel
theorem dL_law_335 : decode cL_law 335 = .ok (.iadd, 1) := by decide +kernel
theorem dL_law_336 : decode cL_law 336 = .ok (.iaload, 1) := by decide +kernel
theorem dL_law_337 : decode cL_law 337 = .ok (.aload_n 0, 1) := by decide +kernel
theorem dL_law_338 : decode cL_law 338 = .ok (.iload_n 3, 1) := by decide +kernel
theorem dL_law_339 : decode cL_law 339 = .ok (.iconst 2, 1) := by decide +kernel
theorem dL_law_340 : decode cL_law 340 = .ok (.iadd, 1) := by decide +kernel
theorem dL_law_341 : decode cL_law 341 = .ok (.iaload, 1) := by decide +kernel
theorem dL_law_342 : decode cL_law 342 = .ok (.invokevirtual 47, 3) := by decide +kernel
theorem dL_law_345 : decode cL_law 345 = .ok (.if_icmp .eq 462, 3) := by decide +kernel
theorem dL_law_348 : decode cL_law 348 = .ok (.iconst 0, 1) := by decide +kernel
theorem dL_law_349 : decode cL_law 349 = .ok (.ireturn, 1) := by decide +kernel
theorem dL_law_350 : decode cL_law 350 = .ok (.aload_n 1, 1) := by decide +kernel
theorem dL_law_351 : decode cL_law 351 = .ok (.aload_n 0, 1) := by decide +kernel
theorem dL_law_352 : decode cL_law 352 = .ok (.iload_n 3, 1) := by decide +kernel
theorem dL_law_353 : decode cL_law 353 = .ok (.iconst 1, 1) := by decide +kernel
theorem dL_law_354 : decode cL_law 354 = .ok (.iadd, 1) := by decide +kernel
theorem dL_law_355 : decode cL_law 355 = .ok (.iaload, 1) := by decide +kernel
theorem dL_law_356 : decode cL_law 356 = .ok (.invokevirtual 48, 3) := by decide +kernel
theorem dL_law_359 : decode cL_law 359 = .ok (.aload_n 2, 1) := by decide +kernel
theorem dL_law_360 : decode cL_law 360 = .ok (.aload_n 0, 1) := by decide +kernel
theorem dL_law_361 : decode cL_law 361 = .ok (.iload_n 3, 1) := by decide +kernel
theorem dL_law_362 : decode cL_law 362 = .ok (.iconst 1, 1) := by decide +kernel
theorem dL_law_363 : decode cL_law 363 = .ok (.iadd, 1) := by decide +kernel
theorem dL_law_364 : decode cL_law 364 = .ok (.iaload, 1) := by decide +kernel
theorem dL_law_365 : decode cL_law 365 = .ok (.invokevirtual 51, 3) := by decide +kernel
theorem dL_law_368 : decode cL_law 368 = .ok (.if_icmp .eq 439, 3) := by decide +kernel
theorem dL_law_371 : decode cL_law 371 = .ok (.iconst 0, 1) := by decide +kernel
theorem dL_law_372 : decode cL_law 372 = .ok (.ireturn, 1) := by decide +kernel
theorem dL_law_373 : decode cL_law 373 = .ok (.aload_n 1, 1) := by decide +kernel
theorem dL_law_374 : decode cL_law 374 = .ok (.aload_n 0, 1) := by decide +kernel
theorem dL_law_375 : decode cL_law 375 = .ok (.iload_n 3, 1) := by decide +kernel
theorem dL_law_376 : decode cL_law 376 = .ok (.iconst 1, 1) := by decide +kernel
theorem dL_law_377 : decode cL_law 377 = .ok (.iadd, 1) := by decide +kernel
theorem dL_law_378 : decode cL_law 378 = .ok (.iaload, 1) := by decide +kernel
theorem dL_law_379 : decode cL_law 379 = .ok (.aload_n 0, 1) := by decide +kernel
theorem dL_law_380 : decode cL_law 380 = .ok (.iload_n 3, 1) := by decide +kernel
theorem dL_law_381 : decode cL_law 381 = .ok (.iconst 2, 1) := by decide +kernel
theorem dL_law_382 : decode cL_law 382 = .ok (.iadd, 1) := by decide +kernel
theorem dL_law_383 : decode cL_law 383 = .ok (.iaload, 1) := by decide +kernel
theorem dL_law_384 : decode cL_law 384 = .ok (.invokevirtual 52, 3) := by decide +kernel
theorem dL_law_387 : decode cL_law 387 = .ok (.aload_n 2, 1) := by decide +kernel
theorem dL_law_388 : decode cL_law 388 = .ok (.aload_n 0, 1) := by decide +kernel
theorem dL_law_389 : decode cL_law 389 = .ok (.iload_n 3, 1) := by decide +kernel
theorem dL_law_390 : decode cL_law 390 = .ok (.iconst 1, 1) := by decide +kernel
theorem dL_law_391 : decode cL_law 391 = .ok (.iadd, 1) := by decide +kernel
theorem dL_law_392 : decode cL_law 392 = .ok (.iaload, 1) := by decide +kernel
theorem dL_law_393 : decode cL_law 393 = .ok (.aload_n 0, 1) := by decide +kernel
theorem dL_law_394 : decode cL_law 394 = .ok (.iload_n 3, 1) := by decide +kernel
theorem dL_law_395 : decode cL_law 395 = .ok (.iconst 2, 1) := by decide +kernel
theorem dL_law_396 : decode cL_law 396 = .ok (.iadd, 1) := by decide +kernel
theorem dL_law_397 : decode cL_law 397 = .ok (.iaload, 1) := by decide +kernel
theorem dL_law_398 : decode cL_law 398 = .ok (.invokevirtual 55, 3) := by decide +kernel
theorem dL_law_401 : decode cL_law 401 = .ok (.if_icmp .eq 406, 3) := by decide +kernel
theorem dL_law_404 : decode cL_law 404 = .ok (.iconst 0, 1) := by decide +kernel
theorem dL_law_405 : decode cL_law 405 = .ok (.ireturn, 1) := by decide +kernel
theorem dL_law_406 : decode cL_law 406 = .ok (.aload_n 1, 1) := by decide +kernel
theorem dL_law_407 : decode cL_law 407 = .ok (.aload_n 0, 1) := by decide +kernel
theorem dL_law_408 : decode cL_law 408 = .ok (.iload_n 3, 1) := by decide +kernel
theorem dL_law_409 : decode cL_law 409 = .ok (.iconst 1, 1) := by decide +kernel
theorem dL_law_410 : decode cL_law 410 = .ok (.iadd, 1) := by decide +kernel
theorem dL_law_411 : decode cL_law 411 = .ok (.iaload, 1) := by decide +kernel
theorem dL_law_412 : decode cL_law 412 = .ok (.invokevirtual 56, 3) := by decide +kernel
theorem dL_law_415 : decode cL_law 415 = .ok (.aload_n 2, 1) := by decide +kernel
theorem dL_law_416 : decode cL_law 416 = .ok (.aload_n 0, 1) := by decide +kernel
theorem dL_law_417 : decode cL_law 417 = .ok (.iload_n 3, 1) := by decide +kernel
theorem dL_law_418 : decode cL_law 418 = .ok (.iconst 1, 1) := by decide +kernel
theorem dL_law_419 : decode cL_law 419 = .ok (.iadd, 1) := by decide +kernel
theorem dL_law_420 : decode cL_law 420 = .ok (.iaload, 1) := by decide +kernel
theorem dL_law_421 : decode cL_law 421 = .ok (.invokevirtual 59, 3) := by decide +kernel
theorem dL_law_424 : decode cL_law 424 = .ok (.if_icmp .eq 383, 3) := by decide +kernel
theorem dL_law_427 : decode cL_law 427 = .ok (.iconst 0, 1) := by decide +kernel
theorem dL_law_428 : decode cL_law 428 = .ok (.ireturn, 1) := by decide +kernel
theorem dL_law_429 : decode cL_law 429 = .ok (.aload_n 1, 1) := by decide +kernel
theorem dL_law_430 : decode cL_law 430 = .ok (.invokevirtual 60, 3) := by decide +kernel
theorem dL_law_433 : decode cL_law 433 = .ok (.aload_n 2, 1) := by decide +kernel
theorem dL_law_434 : decode cL_law 434 = .ok (.invokevirtual 63, 3) := by decide +kernel
theorem dL_law_437 : decode cL_law 437 = .ok (.if_icmp .eq 370, 3) := by decide +kernel
theorem dL_law_440 : decode cL_law 440 = .ok (.iconst 0, 1) := by decide +kernel
theorem dL_law_441 : decode cL_law 441 = .ok (.ireturn, 1) := by decide +kernel
theorem dL_law_442 : decode cL_law 442 = .ok (.aload_n 1, 1) := by decide +kernel
theorem dL_law_443 : decode cL_law 443 = .ok (.aload_n 0, 1) := by decide +kernel
theorem dL_law_444 : decode cL_law 444 = .ok (.iload_n 3, 1) := by decide +kernel
theorem dL_law_445 : decode cL_law 445 = .ok (.iconst 1, 1) := by decide +kernel
theorem dL_law_446 : decode cL_law 446 = .ok (.iadd, 1) := by decide +kernel
theorem dL_law_447 : decode cL_law 447 = .ok (.iaload, 1) := by decide +kernel
theorem dL_law_448 : decode cL_law 448 = .ok (.invokevirtual 64, 3) := by decide +kernel
theorem dL_law_451 : decode cL_law 451 = .ok (.aload_n 2, 1) := by decide +kernel
theorem dL_law_452 : decode cL_law 452 = .ok (.aload_n 0, 1) := by decide +kernel
theorem dL_law_453 : decode cL_law 453 = .ok (.iload_n 3, 1) := by decide +kernel
theorem dL_law_454 : decode cL_law 454 = .ok (.iconst 1, 1) := by decide +kernel
theorem dL_law_455 : decode cL_law 455 = .ok (.iadd, 1) := by decide +kernel
theorem dL_law_456 : decode cL_law 456 = .ok (.iaload, 1) := by decide +kernel
theorem dL_law_457 : decode cL_law 457 = .ok (.invokevirtual 67, 3) := by decide +kernel
theorem dL_law_460 : decode cL_law 460 = .ok (.if_icmp .eq 347, 3) := by decide +kernel
theorem dL_law_463 : decode cL_law 463 = .ok (.iconst 0, 1) := by decide +kernel
theorem dL_law_464 : decode cL_law 464 = .ok (.ireturn, 1) := by decide +kernel
theorem dL_law_465 : decode cL_law 465 = .ok (.aload_n 1, 1) := by decide +kernel
theorem dL_law_466 : decode cL_law 466 = .ok (.invokevirtual 68, 3) := by decide +kernel
theorem dL_law_469 : decode cL_law 469 = .ok (.aload_n 2, 1) := by decide +kernel
theorem dL_law_470 : decode cL_law 470 = .ok (.invokevirtual 71, 3) := by decide +kernel
theorem dL_law_473 : decode cL_law 473 = .ok (.if_icmp .eq 334, 3) := by decide +kernel
theorem dL_law_476 : decode cL_law 476 = .ok (.iconst 0, 1) := by decide +kernel
theorem dL_law_477 : decode cL_law 477 = .ok (.ireturn, 1) := by decide +kernel
theorem dL_law_478 : decode cL_law 478 = .ok (.aload_n 1, 1) := by decide +kernel
theorem dL_law_479 : decode cL_law 479 = .ok (.aload_n 0, 1) := by decide +kernel
theorem dL_law_480 : decode cL_law 480 = .ok (.iload_n 3, 1) := by decide +kernel
theorem dL_law_481 : decode cL_law 481 = .ok (.iconst 1, 1) := by decide +kernel
theorem dL_law_482 : decode cL_law 482 = .ok (.iadd, 1) := by decide +kernel
theorem dL_law_483 : decode cL_law 483 = .ok (.iaload, 1) := by decide +kernel
theorem dL_law_484 : decode cL_law 484 = .ok (.invokevirtual 72, 3) := by decide +kernel
theorem dL_law_487 : decode cL_law 487 = .ok (.aload_n 2, 1) := by decide +kernel
theorem dL_law_488 : decode cL_law 488 = .ok (.aload_n 0, 1) := by decide +kernel
theorem dL_law_489 : decode cL_law 489 = .ok (.iload_n 3, 1) := by decide +kernel
theorem dL_law_490 : decode cL_law 490 = .ok (.iconst 1, 1) := by decide +kernel
theorem dL_law_491 : decode cL_law 491 = .ok (.iadd, 1) := by decide +kernel
theorem dL_law_492 : decode cL_law 492 = .ok (.iaload, 1) := by decide +kernel
theorem dL_law_493 : decode cL_law 493 = .ok (.invokevirtual 75, 3) := by decide +kernel
theorem dL_law_496 : decode cL_law 496 = .ok (.if_icmp .eq 311, 3) := by decide +kernel
theorem dL_law_499 : decode cL_law 499 = .ok (.iconst 0, 1) := by decide +kernel
theorem dL_law_500 : decode cL_law 500 = .ok (.ireturn, 1) := by decide +kernel
theorem dL_law_501 : decode cL_law 501 = .ok (.aload_n 1, 1) := by decide +kernel
theorem dL_law_502 : decode cL_law 502 = .ok (.aload_n 0, 1) := by decide +kernel
theorem dL_law_503 : decode cL_law 503 = .ok (.iload_n 3, 1) := by decide +kernel
theorem dL_law_504 : decode cL_law 504 = .ok (.iconst 1, 1) := by decide +kernel
theorem dL_law_505 : decode cL_law 505 = .ok (.iadd, 1) := by decide +kernel
theorem dL_law_506 : decode cL_law 506 = .ok (.iaload, 1) := by decide +kernel
theorem dL_law_507 : decode cL_law 507 = .ok (.invokevirtual 76, 3) := by decide +kernel
theorem dL_law_510 : decode cL_law 510 = .ok (.aload_n 2, 1) := by decide +kernel
theorem dL_law_511 : decode cL_law 511 = .ok (.aload_n 0, 1) := by decide +kernel
theorem dL_law_512 : decode cL_law 512 = .ok (.iload_n 3, 1) := by decide +kernel
theorem dL_law_513 : decode cL_law 513 = .ok (.iconst 1, 1) := by decide +kernel
theorem dL_law_514 : decode cL_law 514 = .ok (.iadd, 1) := by decide +kernel
theorem dL_law_515 : decode cL_law 515 = .ok (.iaload, 1) := by decide +kernel
theorem dL_law_516 : decode cL_law 516 = .ok (.invokevirtual 79, 3) := by decide +kernel
theorem dL_law_519 : decode cL_law 519 = .ok (.if_icmp .eq 288, 3) := by decide +kernel
theorem dL_law_522 : decode cL_law 522 = .ok (.iconst 0, 1) := by decide +kernel
theorem dL_law_523 : decode cL_law 523 = .ok (.ireturn, 1) := by decide +kernel
theorem dL_law_524 : decode cL_law 524 = .ok (.aload_n 1, 1) := by decide +kernel
theorem dL_law_525 : decode cL_law 525 = .ok (.invokevirtual 80, 3) := by decide +kernel
theorem dL_law_528 : decode cL_law 528 = .ok (.aload_n 2, 1) := by decide +kernel
theorem dL_law_529 : decode cL_law 529 = .ok (.invokevirtual 83, 3) := by decide +kernel
theorem dL_law_532 : decode cL_law 532 = .ok (.if_icmp .eq 275, 3) := by decide +kernel
theorem dL_law_535 : decode cL_law 535 = .ok (.iconst 0, 1) := by decide +kernel
theorem dL_law_536 : decode cL_law 536 = .ok (.ireturn, 1) := by decide +kernel
theorem dL_law_537 : decode cL_law 537 = .ok (.aload_n 1, 1) := by decide +kernel
theorem dL_law_538 : decode cL_law 538 = .ok (.aload_n 0, 1) := by decide +kernel
theorem dL_law_539 : decode cL_law 539 = .ok (.iload_n 3, 1) := by decide +kernel
theorem dL_law_540 : decode cL_law 540 = .ok (.iconst 1, 1) := by decide +kernel
theorem dL_law_541 : decode cL_law 541 = .ok (.iadd, 1) := by decide +kernel
theorem dL_law_542 : decode cL_law 542 = .ok (.iaload, 1) := by decide +kernel
theorem dL_law_543 : decode cL_law 543 = .ok (.aload_n 0, 1) := by decide +kernel
theorem dL_law_544 : decode cL_law 544 = .ok (.iload_n 3, 1) := by decide +kernel
theorem dL_law_545 : decode cL_law 545 = .ok (.iconst 2, 1) := by decide +kernel
theorem dL_law_546 : decode cL_law 546 = .ok (.iadd, 1) := by decide +kernel
theorem dL_law_547 : decode cL_law 547 = .ok (.iaload, 1) := by decide +kernel
theorem dL_law_548 : decode cL_law 548 = .ok (.invokevirtual 84, 3) := by decide +kernel
theorem dL_law_551 : decode cL_law 551 = .ok (.aload_n 2, 1) := by decide +kernel
theorem dL_law_552 : decode cL_law 552 = .ok (.aload_n 0, 1) := by decide +kernel
theorem dL_law_553 : decode cL_law 553 = .ok (.iload_n 3, 1) := by decide +kernel
theorem dL_law_554 : decode cL_law 554 = .ok (.iconst 1, 1) := by decide +kernel
theorem dL_law_555 : decode cL_law 555 = .ok (.iadd, 1) := by decide +kernel
theorem dL_law_556 : decode cL_law 556 = .ok (.iaload, 1) := by decide +kernel
theorem dL_law_557 : decode cL_law 557 = .ok (.aload_n 0, 1) := by decide +kernel
theorem dL_law_558 : decode cL_law 558 = .ok (.iload_n 3, 1) := by decide +kernel
theorem dL_law_559 : decode cL_law 559 = .ok (.iconst 2, 1) := by decide +kernel
theorem dL_law_560 : decode cL_law 560 = .ok (.iadd, 1) := by decide +kernel
theorem dL_law_561 : decode cL_law 561 = .ok (.iaload, 1) := by decide +kernel
theorem dL_law_562 : decode cL_law 562 = .ok (.invokevirtual 87, 3) := by decide +kernel
theorem dL_law_565 : decode cL_law 565 = .ok (.if_icmp .eq 242, 3) := by decide +kernel
theorem dL_law_568 : decode cL_law 568 = .ok (.iconst 0, 1) := by decide +kernel
theorem dL_law_569 : decode cL_law 569 = .ok (.ireturn, 1) := by decide +kernel
theorem dL_law_570 : decode cL_law 570 = .ok (.aload_n 1, 1) := by decide +kernel
theorem dL_law_571 : decode cL_law 571 = .ok (.aload_n 0, 1) := by decide +kernel
theorem dL_law_572 : decode cL_law 572 = .ok (.iload_n 3, 1) := by decide +kernel
theorem dL_law_573 : decode cL_law 573 = .ok (.iconst 1, 1) := by decide +kernel
theorem dL_law_574 : decode cL_law 574 = .ok (.iadd, 1) := by decide +kernel
theorem dL_law_575 : decode cL_law 575 = .ok (.iaload, 1) := by decide +kernel
theorem dL_law_576 : decode cL_law 576 = .ok (.aload_n 0, 1) := by decide +kernel
theorem dL_law_577 : decode cL_law 577 = .ok (.iload_n 3, 1) := by decide +kernel
theorem dL_law_578 : decode cL_law 578 = .ok (.iconst 2, 1) := by decide +kernel
theorem dL_law_579 : decode cL_law 579 = .ok (.iadd, 1) := by decide +kernel
theorem dL_law_580 : decode cL_law 580 = .ok (.iaload, 1) := by decide +kernel
theorem dL_law_581 : decode cL_law 581 = .ok (.invokevirtual 88, 3) := by decide +kernel
theorem dL_law_584 : decode cL_law 584 = .ok (.aload_n 2, 1) := by decide +kernel
theorem dL_law_585 : decode cL_law 585 = .ok (.aload_n 0, 1) := by decide +kernel
theorem dL_law_586 : decode cL_law 586 = .ok (.iload_n 3, 1) := by decide +kernel
theorem dL_law_587 : decode cL_law 587 = .ok (.iconst 1, 1) := by decide +kernel
theorem dL_law_588 : decode cL_law 588 = .ok (.iadd, 1) := by decide +kernel
theorem dL_law_589 : decode cL_law 589 = .ok (.iaload, 1) := by decide +kernel
theorem dL_law_590 : decode cL_law 590 = .ok (.aload_n 0, 1) := by decide +kernel
theorem dL_law_591 : decode cL_law 591 = .ok (.iload_n 3, 1) := by decide +kernel
theorem dL_law_592 : decode cL_law 592 = .ok (.iconst 2, 1) := by decide +kernel
theorem dL_law_593 : decode cL_law 593 = .ok (.iadd, 1) := by decide +kernel
theorem dL_law_594 : decode cL_law 594 = .ok (.iaload, 1) := by decide +kernel
theorem dL_law_595 : decode cL_law 595 = .ok (.invokevirtual 91, 3) := by decide +kernel
theorem dL_law_598 : decode cL_law 598 = .ok (.if_icmp .eq 209, 3) := by decide +kernel
theorem dL_law_601 : decode cL_law 601 = .ok (.iconst 0, 1) := by decide +kernel
theorem dL_law_602 : decode cL_law 602 = .ok (.ireturn, 1) := by decide +kernel
theorem dL_law_603 : decode cL_law 603 = .ok (.aload_n 1, 1) := by decide +kernel
theorem dL_law_604 : decode cL_law 604 = .ok (.aload_n 0, 1) := by decide +kernel
theorem dL_law_605 : decode cL_law 605 = .ok (.iload_n 3, 1) := by decide +kernel
theorem dL_law_606 : decode cL_law 606 = .ok (.iconst 1, 1) := by decide +kernel
theorem dL_law_607 : decode cL_law 607 = .ok (.iadd, 1) := by decide +kernel
theorem dL_law_608 : decode cL_law 608 = .ok (.iaload, 1) := by decide +kernel
theorem dL_law_609 : decode cL_law 609 = .ok (.aload_n 0, 1) := by decide +kernel
theorem dL_law_610 : decode cL_law 610 = .ok (.iload_n 3, 1) := by decide +kernel
theorem dL_law_611 : decode cL_law 611 = .ok (.iconst 2, 1) := by decide +kernel
theorem dL_law_612 : decode cL_law 612 = .ok (.iadd, 1) := by decide +kernel
theorem dL_law_613 : decode cL_law 613 = .ok (.iaload, 1) := by decide +kernel
theorem dL_law_614 : decode cL_law 614 = .ok (.invokevirtual 92, 3) := by decide +kernel
theorem dL_law_617 : decode cL_law 617 = .ok (.aload_n 2, 1) := by decide +kernel
theorem dL_law_618 : decode cL_law 618 = .ok (.aload_n 0, 1) := by decide +kernel
theorem dL_law_619 : decode cL_law 619 = .ok (.iload_n 3, 1) := by decide +kernel
theorem dL_law_620 : decode cL_law 620 = .ok (.iconst 1, 1) := by decide +kernel
theorem dL_law_621 : decode cL_law 621 = .ok (.iadd, 1) := by decide +kernel
theorem dL_law_622 : decode cL_law 622 = .ok (.iaload, 1) := by decide +kernel
theorem dL_law_623 : decode cL_law 623 = .ok (.aload_n 0, 1) := by decide +kernel
theorem dL_law_624 : decode cL_law 624 = .ok (.iload_n 3, 1) := by decide +kernel
theorem dL_law_625 : decode cL_law 625 = .ok (.iconst 2, 1) := by decide +kernel
theorem dL_law_626 : decode cL_law 626 = .ok (.iadd, 1) := by decide +kernel
theorem dL_law_627 : decode cL_law 627 = .ok (.iaload, 1) := by decide +kernel
theorem dL_law_628 : decode cL_law 628 = .ok (.invokevirtual 95, 3) := by decide +kernel
theorem dL_law_631 : decode cL_law 631 = .ok (.if_icmp .eq 176, 3) := by decide +kernel
theorem dL_law_634 : decode cL_law 634 = .ok (.iconst 0, 1) := by decide +kernel
theorem dL_law_635 : decode cL_law 635 = .ok (.ireturn, 1) := by decide +kernel
theorem dL_law_636 : decode cL_law 636 = .ok (.aload_n 1, 1) := by decide +kernel
theorem dL_law_637 : decode cL_law 637 = .ok (.aload_n 0, 1) := by decide +kernel
theorem dL_law_638 : decode cL_law 638 = .ok (.iload_n 3, 1) := by decide +kernel
theorem dL_law_639 : decode cL_law 639 = .ok (.iconst 1, 1) := by decide +kernel
theorem dL_law_640 : decode cL_law 640 = .ok (.iadd, 1) := by decide +kernel
theorem dL_law_641 : decode cL_law 641 = .ok (.iaload, 1) := by decide +kernel
theorem dL_law_642 : decode cL_law 642 = .ok (.aload_n 0, 1) := by decide +kernel
theorem dL_law_643 : decode cL_law 643 = .ok (.iload_n 3, 1) := by decide +kernel
theorem dL_law_644 : decode cL_law 644 = .ok (.iconst 2, 1) := by decide +kernel
theorem dL_law_645 : decode cL_law 645 = .ok (.iadd, 1) := by decide +kernel
theorem dL_law_646 : decode cL_law 646 = .ok (.iaload, 1) := by decide +kernel
theorem dL_law_647 : decode cL_law 647 = .ok (.aload_n 0, 1) := by decide +kernel
theorem dL_law_648 : decode cL_law 648 = .ok (.iload_n 3, 1) := by decide +kernel
theorem dL_law_649 : decode cL_law 649 = .ok (.iconst 3, 1) := by decide +kernel
theorem dL_law_650 : decode cL_law 650 = .ok (.iadd, 1) := by decide +kernel
theorem dL_law_651 : decode cL_law 651 = .ok (.iaload, 1) := by decide +kernel
theorem dL_law_652 : decode cL_law 652 = .ok (.aload_n 0, 1) := by decide +kernel
theorem dL_law_653 : decode cL_law 653 = .ok (.iload_n 3, 1) := by decide +kernel
theorem dL_law_654 : decode cL_law 654 = .ok (.iconst 4, 1) := by decide +kernel
theorem dL_law_655 : decode cL_law 655 = .ok (.iadd, 1) := by decide +kernel
theorem dL_law_656 : decode cL_law 656 = .ok (.iaload, 1) := by decide +kernel
theorem dL_law_657 : decode cL_law 657 = .ok (.invokevirtual 96, 3) := by decide +kernel
theorem dL_law_660 : decode cL_law 660 = .ok (.aload_n 2, 1) := by decide +kernel
theorem dL_law_661 : decode cL_law 661 = .ok (.aload_n 0, 1) := by decide +kernel
theorem dL_law_662 : decode cL_law 662 = .ok (.iload_n 3, 1) := by decide +kernel
theorem dL_law_663 : decode cL_law 663 = .ok (.iconst 1, 1) := by decide +kernel
theorem dL_law_664 : decode cL_law 664 = .ok (.iadd, 1) := by decide +kernel
theorem dL_law_665 : decode cL_law 665 = .ok (.iaload, 1) := by decide +kernel
theorem dL_law_666 : decode cL_law 666 = .ok (.aload_n 0, 1) := by decide +kernel
theorem dL_law_667 : decode cL_law 667 = .ok (.iload_n 3, 1) := by decide +kernel
theorem dL_law_668 : decode cL_law 668 = .ok (.iconst 2, 1) := by decide +kernel
theorem dL_law_669 : decode cL_law 669 = .ok (.iadd, 1) := by decide +kernel
theorem dL_law_670 : decode cL_law 670 = .ok (.iaload, 1) := by decide +kernel
theorem dL_law_671 : decode cL_law 671 = .ok (.aload_n 0, 1) := by decide +kernel
theorem dL_law_672 : decode cL_law 672 = .ok (.iload_n 3, 1) := by decide +kernel
theorem dL_law_673 : decode cL_law 673 = .ok (.iconst 3, 1) := by decide +kernel
theorem dL_law_674 : decode cL_law 674 = .ok (.iadd, 1) := by decide +kernel
theorem dL_law_675 : decode cL_law 675 = .ok (.iaload, 1) := by decide +kernel
theorem dL_law_676 : decode cL_law 676 = .ok (.aload_n 0, 1) := by decide +kernel
theorem dL_law_677 : decode cL_law 677 = .ok (.iload_n 3, 1) := by decide +kernel
theorem dL_law_678 : decode cL_law 678 = .ok (.iconst 4, 1) := by decide +kernel
theorem dL_law_679 : decode cL_law 679 = .ok (.iadd, 1) := by decide +kernel
theorem dL_law_680 : decode cL_law 680 = .ok (.iaload, 1) := by decide +kernel
theorem dL_law_681 : decode cL_law 681 = .ok (.invokevirtual 100, 3) := by decide +kernel
theorem dL_law_684 : decode cL_law 684 = .ok (.if_icmp .eq 123, 3) := by decide +kernel
theorem dL_law_687 : decode cL_law 687 = .ok (.iconst 0, 1) := by decide +kernel
theorem dL_law_688 : decode cL_law 688 = .ok (.ireturn, 1) := by decide +kernel
theorem dL_law_689 : decode cL_law 689 = .ok (.aload_n 1, 1) := by decide +kernel
theorem dL_law_690 : decode cL_law 690 = .ok (.invokevirtual 101, 3) := by decide +kernel
theorem dL_law_693 : decode cL_law 693 = .ok (.aload_n 2, 1) := by decide +kernel
theorem dL_law_694 : decode cL_law 694 = .ok (.invokevirtual 104, 3) := by decide +kernel
theorem dL_law_697 : decode cL_law 697 = .ok (.if_icmp .eq 110, 3) := by decide +kernel
theorem dL_law_700 : decode cL_law 700 = .ok (.iconst 0, 1) := by decide +kernel
theorem dL_law_701 : decode cL_law 701 = .ok (.ireturn, 1) := by decide +kernel
theorem dL_law_702 : decode cL_law 702 = .ok (.aload_n 1, 1) := by decide +kernel
theorem dL_law_703 : decode cL_law 703 = .ok (.invokevirtual 105, 3) := by decide +kernel
theorem dL_law_706 : decode cL_law 706 = .ok (.aload_n 2, 1) := by decide +kernel
theorem dL_law_707 : decode cL_law 707 = .ok (.invokevirtual 108, 3) := by decide +kernel
theorem dL_law_710 : decode cL_law 710 = .ok (.if_icmp .eq 97, 3) := by decide +kernel
theorem dL_law_713 : decode cL_law 713 = .ok (.iconst 0, 1) := by decide +kernel
theorem dL_law_714 : decode cL_law 714 = .ok (.ireturn, 1) := by decide +kernel
theorem dL_law_715 : decode cL_law 715 = .ok (.aload_n 1, 1) := by decide +kernel
theorem dL_law_716 : decode cL_law 716 = .ok (.aload_n 0, 1) := by decide +kernel
theorem dL_law_717 : decode cL_law 717 = .ok (.iload_n 3, 1) := by decide +kernel
theorem dL_law_718 : decode cL_law 718 = .ok (.iconst 1, 1) := by decide +kernel
theorem dL_law_719 : decode cL_law 719 = .ok (.iadd, 1) := by decide +kernel
theorem dL_law_720 : decode cL_law 720 = .ok (.iaload, 1) := by decide +kernel
theorem dL_law_721 : decode cL_law 721 = .ok (.aload_n 0, 1) := by decide +kernel
theorem dL_law_722 : decode cL_law 722 = .ok (.iload_n 3, 1) := by decide +kernel
theorem dL_law_723 : decode cL_law 723 = .ok (.iconst 2, 1) := by decide +kernel
theorem dL_law_724 : decode cL_law 724 = .ok (.iadd, 1) := by decide +kernel
theorem dL_law_725 : decode cL_law 725 = .ok (.iaload, 1) := by decide +kernel
theorem dL_law_726 : decode cL_law 726 = .ok (.aload_n 0, 1) := by decide +kernel
theorem dL_law_727 : decode cL_law 727 = .ok (.iload_n 3, 1) := by decide +kernel
theorem dL_law_728 : decode cL_law 728 = .ok (.iconst 3, 1) := by decide +kernel
theorem dL_law_729 : decode cL_law 729 = .ok (.iadd, 1) := by decide +kernel
theorem dL_law_730 : decode cL_law 730 = .ok (.iaload, 1) := by decide +kernel
theorem dL_law_731 : decode cL_law 731 = .ok (.invokevirtual 109, 3) := by decide +kernel
theorem dL_law_734 : decode cL_law 734 = .ok (.aload_n 2, 1) := by decide +kernel
theorem dL_law_735 : decode cL_law 735 = .ok (.aload_n 0, 1) := by decide +kernel
theorem dL_law_736 : decode cL_law 736 = .ok (.iload_n 3, 1) := by decide +kernel
theorem dL_law_737 : decode cL_law 737 = .ok (.iconst 1, 1) := by decide +kernel
theorem dL_law_738 : decode cL_law 738 = .ok (.iadd, 1) := by decide +kernel
theorem dL_law_739 : decode cL_law 739 = .ok (.iaload, 1) := by decide +kernel
theorem dL_law_740 : decode cL_law 740 = .ok (.aload_n 0, 1) := by decide +kernel
theorem dL_law_741 : decode cL_law 741 = .ok (.iload_n 3, 1) := by decide +kernel
theorem dL_law_742 : decode cL_law 742 = .ok (.iconst 2, 1) := by decide +kernel
theorem dL_law_743 : decode cL_law 743 = .ok (.iadd, 1) := by decide +kernel
theorem dL_law_744 : decode cL_law 744 = .ok (.iaload, 1) := by decide +kernel
theorem dL_law_745 : decode cL_law 745 = .ok (.aload_n 0, 1) := by decide +kernel
theorem dL_law_746 : decode cL_law 746 = .ok (.iload_n 3, 1) := by decide +kernel
theorem dL_law_747 : decode cL_law 747 = .ok (.iconst 3, 1) := by decide +kernel
theorem dL_law_748 : decode cL_law 748 = .ok (.iadd, 1) := by decide +kernel
theorem dL_law_749 : decode cL_law 749 = .ok (.iaload, 1) := by decide +kernel
theorem dL_law_750 : decode cL_law 750 = .ok (.invokevirtual 113, 3) := by decide +kernel
theorem dL_law_753 : decode cL_law 753 = .ok (.if_icmp .eq 54, 3) := by decide +kernel
theorem dL_law_756 : decode cL_law 756 = .ok (.iconst 0, 1) := by decide +kernel
theorem dL_law_757 : decode cL_law 757 = .ok (.ireturn, 1) := by decide +kernel
theorem dL_law_758 : decode cL_law 758 = .ok (.aload_n 1, 1) := by decide +kernel
theorem dL_law_759 : decode cL_law 759 = .ok (.invokevirtual 114, 3) := by decide +kernel
theorem dL_law_762 : decode cL_law 762 = .ok (.aload_n 2, 1) := by decide +kernel
theorem dL_law_763 : decode cL_law 763 = .ok (.invokevirtual 117, 3) := by decide +kernel
theorem dL_law_766 : decode cL_law 766 = .ok (.if_icmp .eq 41, 3) := by decide +kernel
theorem dL_law_769 : decode cL_law 769 = .ok (.iconst 0, 1) := by decide +kernel
theorem dL_law_770 : decode cL_law 770 = .ok (.ireturn, 1) := by decide +kernel
theorem dL_law_771 : decode cL_law 771 = .ok (.aload_n 1, 1) := by decide +kernel
theorem dL_law_772 : decode cL_law 772 = .ok (.invokevirtual 118, 3) := by decide +kernel
theorem dL_law_775 : decode cL_law 775 = .ok (.aload_n 2, 1) := by decide +kernel
theorem dL_law_776 : decode cL_law 776 = .ok (.invokevirtual 121, 3) := by decide +kernel
theorem dL_law_779 : decode cL_law 779 = .ok (.if_icmp .eq 28, 3) := by decide +kernel
theorem dL_law_782 : decode cL_law 782 = .ok (.iconst 0, 1) := by decide +kernel
theorem dL_law_783 : decode cL_law 783 = .ok (.ireturn, 1) := by decide +kernel
theorem dL_law_784 : decode cL_law 784 = .ok (.aload_n 1, 1) := by decide +kernel
theorem dL_law_785 : decode cL_law 785 = .ok (.aload_n 0, 1) := by decide +kernel
theorem dL_law_786 : decode cL_law 786 = .ok (.iload_n 3, 1) := by decide +kernel
theorem dL_law_787 : decode cL_law 787 = .ok (.iconst 1, 1) := by decide +kernel
theorem dL_law_788 : decode cL_law 788 = .ok (.iadd, 1) := by decide +kernel
theorem dL_law_789 : decode cL_law 789 = .ok (.iaload, 1) := by decide +kernel
theorem dL_law_790 : decode cL_law 790 = .ok (.invokevirtual 122, 3) := by decide +kernel
theorem dL_law_793 : decode cL_law 793 = .ok (.aload_n 2, 1) := by decide +kernel
theorem dL_law_794 : decode cL_law 794 = .ok (.aload_n 0, 1) := by decide +kernel
theorem dL_law_795 : decode cL_law 795 = .ok (.iload_n 3, 1) := by decide +kernel
theorem dL_law_796 : decode cL_law 796 = .ok (.iconst 1, 1) := by decide +kernel
theorem dL_law_797 : decode cL_law 797 = .ok (.iadd, 1) := by decide +kernel
theorem dL_law_798 : decode cL_law 798 = .ok (.iaload, 1) := by decide +kernel
theorem dL_law_799 : decode cL_law 799 = .ok (.invokevirtual 125, 3) := by decide +kernel
theorem dL_law_802 : decode cL_law 802 = .ok (.if_icmp .eq 5, 3) := by decide +kernel
theorem dL_law_805 : decode cL_law 805 = .ok (.iconst 0, 1) := by decide +kernel
theorem dL_law_806 : decode cL_law 806 = .ok (.ireturn, 1) := by decide +kernel
theorem dL_law_807 : decode cL_law 807 = .ok (.iinc 3 5, 3) := by decide +kernel
theorem dL_law_810 : decode cL_law 810 = .ok (.goto (-792), 3) := by decide +kernel
theorem dL_law_813 : decode cL_law 813 = .ok (.iconst 1, 1) := by decide +kernel
theorem dL_law_814 : decode cL_law 814 = .ok (.ireturn, 1) := by decide +kernel
end
section
/-! A machine of our own over the kit's rows: whole numbers as Int, addresses counted from the first cell that the law makes. kW is what the kit's W is, said of that picture; a rule an instruction. -/
abbrev kV : Type := Int ⊕ (Int ⊕ Option Nat)
abbrev kI (z : Int) : kV := Sum.inl z
abbrev kJ (z : Int) : kV := Sum.inr (Sum.inl z)
abbrev kR (r : Option Nat) : kV := Sum.inr (Sum.inr r)
abbrev kA (a : Nat) : kV := Sum.inr (Sum.inr (some a))
/-- the cells: (kind, length) of each; the numbers; the references -/
abbrev kH : Type := List (Nat × Nat) × (Nat → Int → Int) × (Nat → Int → Option Nat)
abbrev kLs : Type := List (Option kV)
/-- a method: name, bytes, how many locals, what it returns -/
abbrev kMd : Type := MethodName × ByteArray × Nat × Option FieldType
/-- launch, first address, the fixed references, where the classes' fields lie, the arrays' classes, the script -/
abbrev kEnv : Type := Launch × Nat × (Nat → Value) × va_G × (ClassId × ClassId × ClassId) × (Nat × (Nat → Int))
abbrev kl (E : kEnv) : Launch := E.1
abbrev kb (E : kEnv) : Nat := E.2.1
abbrev ksv (E : kEnv) : Nat → Value := E.2.2.1
abbrev kD (E : kEnv) : va_G := E.2.2.2.1
abbrev kcI (E : kEnv) : ClassId := E.2.2.2.2.1.1
abbrev kcC (E : kEnv) : ClassId := E.2.2.2.2.1.2.1
abbrev kcS (E : kEnv) : ClassId := E.2.2.2.2.1.2.2
abbrev kX (E : kEnv) : Nat × (Nat → Int) := E.2.2.2.2.2
abbrev vwCl : List vw_C := [(RX0, TX0, 2), (RX1, TX1, 7), (RX2, TX2, 10), (RX3, TX3, 2), (RX4, TX4, 3), (RX5, TX5, 3), (RX6, TX6, 7), (RX7, TX7, 14)]
/-- which fields are references -/
def k_fr (ci k : Nat) : Bool := match ci with
  | 0 => decide (k < 2)
  | 1 => decide (k < 6)
  | 2 => decide (k < 5)
  | 3 => decide (k < 1)
  | 4 => decide (k < 1)
  | 5 => decide (k < 2)
  | 6 => decide (k < 7)
  | _ => decide (k ≠ 1 ∧ k ≠ 7 ∧ k ≠ 9 ∧ k ≠ 10)
def k_u {α : Type} (f : Nat → Int → α) (a : Nat) (i : Int) (v : α) : Nat → Int → α := fun b j => if b = a ∧ j = i then v else f b j
/-- the fixed arrays of ints and of bytes -/
def k_LEAST : List Int := [0, 1, 1, 0, 1, 1, 1, 1, 1, 1]
def k_MOST : List Int := [3, 20, 20, 60, 20, 40, 60, 20, 9, 30]
def k_FT : List Int := [98, 48, 44, 54, 44, 52, 44, 48, 59, 98, 48, 44, 57, 44, 55, 44, 50, 59, 98, 49, 44, 53, 44, 57, 44, 48, 59, 98, 50, 44, 52, 44, 53, 44, 49, 59, 98, 51, 44, 49, 53, 44, 51, 44, 52, 59, 98, 48, 44, 49, 50, 44, 54, 44, 56, 59, 116, 54, 44, 56, 44, 57, 59, 116, 49, 48, 44, 54, 44, 49, 50, 59, 116, 55, 44, 57, 44, 54, 59, 107, 56, 44, 51, 59, 102, 54, 59]
def k_sta (X : Nat × (Nat → Int)) (j : Nat) : Nat × (Nat → Int) := match j with
  | 0 => (10, fun i => k_LEAST.getD i 0)
  | 1 => (10, fun i => k_MOST.getD i 0)
  | _ => X
def k_in (z : Int) : Prop := -2147483648 ≤ z ∧ z ≤ 2147483647
def k_in64 (z : Int) : Prop := -9223372036854775808 ≤ z ∧ z ≤ 9223372036854775807
def k_rv (E : kEnv) : kV → Value
  | .inl z => .int (Int32.ofInt z)
  | .inr (.inl z) => .long (Int64.ofInt z)
  | .inr (.inr none) => .null
  | .inr (.inr (some a)) => if a < 1000000 then .ref (kb E + a) else ksv E (a - 1000000)
def k_ok : kV → Prop
  | .inl z => k_in z
  | .inr (.inl z) => k_in64 z
  | .inr (.inr _) => True
/-- of one word of the stack -/
def k_one : kV → Prop
  | .inr (.inl _) => False
  | _ => True
def k_wd : kV → Nat
  | .inr (.inl _) => 2
  | _ => 1
def k_okH (X : Nat × (Nat → Int)) (h : kH) : Prop := (∀ a i, k_in (h.2.1 a i)) ∧ (∀ a i x, h.2.2 a i = some x → x < 1000000) ∧ h.1.length < 1000000 ∧ (∀ i, k_in (X.2 i)) ∧ X.1 < 2147483648 ∧ ∀ (a t n : Nat), h.1[a]? = some (t, n) → n < 2147483648
def k_rf (E : kEnv) (r : Option Nat) : Option Nat := r.map (fun a => kb E + a)
def k_fv (E : kEnv) (h : kH) (a t k : Nat) : Value := if k_fr t k = true then va_rf (k_rf E (h.2.2 a k)) else .int (Int32.ofInt (h.2.1 a k))
def k_cell (E : kEnv) (h : kH) (a : Nat) : va_E := match h.1[a]? with
  | none => .inr (0, [])
  | some (t, n) => if t = 100 then .inl (kcI E, n, .inl (fun j : Nat => Int32.ofInt (h.2.1 a j)))
    else if t = 101 then .inl (kcC E, n, .inl (fun j : Nat => Int32.ofInt (h.2.1 a j)))
    else if t = 102 then .inl (kcS E, n, .inr (.inr (.inr (.inr (fun j : Nat => k_rf E (h.2.2 a j))))))
    else .inr (t, (List.range n).map (fun k => k_fv E h a t k))
def k_ws (E : kEnv) (h : kH) : va_W := (List.range h.1.length).map (fun a => (kb E + a, k_cell E h a))
def k_rel (E : kEnv) (h : kH) (H : Heap) : Prop := H.size = kb E + h.1.length ∧ va_P (kD E) vwCl (k_ws E h) H
def k_A (E : kEnv) : Nat → Prop := fun q => kb E ≤ q
abbrev k_tys (E : kEnv) : List (ClassId × FieldType) := [(kcI E, .int), (kcC E, .char), (kcS E, .object RX4)]
def k_nest : List (Nat × String × MethodName) := [(9, RX6, yX5_init), (18, RX6, yX2_init), (25, RX6, yX4_init), (21, RX3, yX4_init), (11, RX0, yX4_init), (70, RX5, yX6_isWithin)]
/-- what stays: the tables' classes, the fixed arrays, the text that the class begins with, private members of nest mates -/
def k_stat (E : kEnv) (U : State) : Prop :=
  va_K (kD E) vwCl (k_tys E) U ∧
  (∀ j : Nat, j < 3 → ∃ t : Nat, ksv E j = .ref t ∧ va_T .int t (k_sta (kX E) j).1 (fun i => .int (Int32.ofInt ((k_sta (kX E) j).2 i))) (k_A E) U U.heap) ∧
  va_Z RX5 "LEAST" "[I" (ksv E 0) (k_A E) U U.heap ∧ va_Z RX5 "MOST" "[I" (ksv E 1) (k_A E) U U.heap ∧
  (∃ ts tv : Nat, ksv E 3 = .ref ts ∧ ksv E 4 = .ref tv ∧ vk_R RX6 58 "b0,6,4,0;b0,9,7,2;b1,5,9,0;b2,4,5,1;b3,15,3,4;b0,12,6,8;t6,8,9;t10,6,12;t7,9,6;k8,3;f6;" ts U ∧ va_O RJ0 ts (k_A E) U U.heap ∧ va_OF RJ0 "coder" "B" (.int 0) ts (k_A E) U U.heap ∧ va_OF RJ0 "value" "[B" (.ref tv) ts (k_A E) U U.heap ∧ va_T .byte tv 87 (fun i => .int (Int32.ofInt (k_FT.getD i 0))) (k_A E) U U.heap) ∧
  va_Z RJ0 "COMPACT_STRINGS" "Z" (.int 1) (k_A E) U U.heap ∧ va_Z RJ3 "SIOOBE_FORMATTER" "Ljava/util/function/BiFunction;" (ksv E 5) (k_A E) U U.heap ∧
  (∀ j : Nat, ksv E j = .null ∨ ∃ t : Nat, ksv E j = .ref t) ∧
  (∀ q ∈ k_nest, va_Nw (.methodLinkNest q.2.1 q.1 q.2.2 RX6) U) ∧ va_AO RX4 U
theorem k_stat_move {E : kEnv} {s U : State} (h : k_stat E s) (hW : s.WarmedH U.vm) (hH : ∀ a : Nat, a < s.heap.size → ¬ k_A E a → U.heap[a]? = s.heap[a]?) : k_stat E U := by
  obtain ⟨h1, h2, h3, h4, ⟨ts, tv, e1, e2, e3, e4, e5, e6, e7⟩, h6, h7, h8, h9, h10⟩ := h
  have hv := hW.alike
  refine ⟨h1.moved hv, fun j hj => ?_, (h3.moved hv).kept hH, (h4.moved hv).kept hH, ⟨ts, tv, e1, e2, e3.warm hW, (e4.moved hv).kept hH, (e5.moved hv).kept hH, (e6.moved hv).kept hH, (e7.moved hv).kept hH⟩, (h6.moved hv).kept hH, (h7.moved hv).kept hH, h8, fun q hq => va_Nw.warmM hW (h9 q hq), h10.moved hv⟩
  obtain ⟨t, a, b⟩ := h2 j hj
  exact ⟨t, a, (b.moved hv).kept hH⟩
theorem k_stat_same {E : kEnv} {s U : State} (h : k_stat E s) (hv : U.vm = s.vm) (hH : U.heap = s.heap) : k_stat E U := by
  obtain ⟨h1, h2, h3, h4, ⟨ts, tv, e1, e2, e3, e4, e5, e6, e7⟩, h6, h7, h8, h9, h10⟩ := h
  have hal : s.vm.Alike U.vm := by rw [hv]; exact Vm.Alike.refl _
  have hk : ∀ a : Nat, a < s.heap.size → ¬ k_A E a → U.heap[a]? = s.heap[a]? := fun a _ _ => by rw [hH]
  refine ⟨h1.moved hal, fun j hj => ?_, (h3.moved hal).kept hk, (h4.moved hal).kept hk, ⟨ts, tv, e1, e2, e3.same hv, (e4.moved hal).kept hk, (e5.moved hal).kept hk, (e6.moved hal).kept hk, (e7.moved hal).kept hk⟩, (h6.moved hal).kept hk, (h7.moved hal).kept hk, h8, fun q hq => va_Nw.same rfl hv.symm (h9 q hq), h10.moved hal⟩
  obtain ⟨t, a, b⟩ := h2 j hj
  exact ⟨t, a, (b.moved hal).kept hk⟩
def k_lr (E : kEnv) (nL : Nat) (L : kLs) (ls : Array Slot) : Prop := ls.size = nL ∧ L.length = nL ∧ lv_wf ls ∧ ∀ (i : Nat) (v : kV), L[i]? = some (some v) → ls[i]? = some (.val (k_rv E v)) ∧ k_ok v
/-- a return, at pc, with the stack S, of r -/
def k_rt (M : kMd) (pc : Nat) (S : List kV) (r : Option kV) : Prop :=
  (∃ (z : Int) (ty : FieldType), S = [kI z] ∧ r = some (kI z) ∧ decode M.2.1 pc = .ok (.ireturn, 1) ∧ M.2.2.2 = some ty ∧ narrow ty (.int (Int32.ofInt z)) = .int (Int32.ofInt z)) ∨
  (S = [] ∧ r = none ∧ decode M.2.1 pc = .ok (.return_, 1) ∧ M.2.2.2 = none)
def k_cx (E : kEnv) (M : kMd) (d : Nat) (p : Program) (R : Room) (s : State) (mm : MethodId) (args : Array Value) (meth : Method) (c : Code) : Prop :=
  p.tables.exec = Jvm.exec ∧ c.code = M.2.1 ∧ c.maxLocals = M.2.2.1 ∧ s.vm.findClass M.1.cls = some mm.cls ∧ (∀ w ∈ k_KT, w.before args s = true) ∧ (M.1.name = "<init>" → meth.name = "<init>") ∧ k_stat E s ∧ d ≤ R.frames ∧ 45 * d ≤ R.locals ∧ kb E ≤ s.heap.size
/-- where a walk stands that ends in a return of r with the cells h2, for which Q holds, and makes at most mc cells of ms slots -/
def kW (E : kEnv) (d mc ms : Nat) (M : kMd) (pc : Nat) (L : kLs) (S : List kV) (h : kH) (Q : Option kV → kH → Prop) : Prop :=
  ∀ (p : Program) (e : Env) (R : Room) (s : State) (mm : MethodId) (args : Array Value) (below : List Frame) (meth : Method) (c : Code) (H : Heap) (ls : Array Slot) (locs : List Loc) (cells slots : Nat) (QQ : State → Prop),
    k_cx E M d p R s mm args meth c → cells + mc ≤ R.cells → slots + ms ≤ R.slots → k_lr E M.2.2.1 L ls → (∀ v ∈ S, k_ok v) → k_okH (kX E) h → k_rel E h H → va_S (k_A E) s.heap H locs →
    (∀ (ls2 : Array Slot) (S2 : List kV) (pc2 : Nat) (h2 : kH) (H2 : Heap) (locs2 : List Loc) (cells2 slots2 : Nat) (r : Option kV), k_rt M pc2 S2 r → Q r h2 → (∀ v ∈ S2, k_ok v) → k_okH (kX E) h2 → k_rel E h2 H2 → va_S (k_A E) s.heap H2 locs2 → cells2 ≤ cells + mc → slots2 ≤ slots + ms →
      W p (kl E) e R s mm args below meth c H2 locs2 cells2 slots2 QQ (F0 mm pc2 ls2 (S2.map (k_rv E)))) →
    W p (kl E) e R s mm args below meth c H locs cells slots QQ (F0 mm pc ls (S.map (k_rv E)))
end
section
/-! rules of the inner machine: constants, locals, stack, arithmetic, branches -/
theorem k_i8 {n : Int} (h1 : -128 ≤ n) (h2 : n ≤ 127) : (Int8.ofInt n).toInt32 = Int32.ofInt n := by
  apply Int32.toInt_inj.mp
  rw [Int8.toInt_toInt32, Int8.toInt_ofInt_of_le (by omega) (by omega), Int32.toInt_ofInt_of_le (by omega) (by omega)]
theorem k_i16 {n : Int} (h1 : -32768 ≤ n) (h2 : n ≤ 32767) : (Int16.ofInt n).toInt32 = Int32.ofInt n := by
  apply Int32.toInt_inj.mp
  rw [Int16.toInt_toInt32, Int16.toInt_ofInt_of_le (by omega) (by omega), Int32.toInt_ofInt_of_le (by omega) (by omega)]
theorem k_ti {z : Int} (h : k_in z) : (Int32.ofInt z).toInt = z := Int32.toInt_ofInt_of_le (by have := h.1; omega) (by have := h.2; omega)
theorem k_tj {z : Int} (h : k_in64 z) : (Int64.ofInt z).toInt = z := Int64.toInt_ofInt_of_le (by have := h.1; omega) (by have := h.2; omega)
theorem k_tc {z : Int} (h : k_in z) : (Int32.ofInt z).toNatClampNeg = z.toNat := Int32.toNatClampNeg_ofInt_of_le (by have := h.1; omega) (by have := h.2; omega)
theorem k_vpin {z : Int} {n : Nat} (h : k_in z) (h0 : 0 ≤ z) (h1 : z < n) : vp_in (Int32.ofInt z) n := vp_in_iff.mpr (by rw [k_ti h]; exact ⟨h0, h1⟩)
theorem k_rng (x : Int32) : k_in x.toInt := by
  have h1 := x.minValue_le_toInt
  have h2 := x.toInt_le
  exact ⟨h1, h2⟩
theorem k_oki {E : kEnv} {j : Nat} {z : Int} (h : k_ok (kI z)) : k_in z := h
theorem k_tl {v : kV} {S : List kV} (h : ∀ w ∈ v :: S, k_ok w) : k_ok v ∧ ∀ w ∈ S, k_ok w := List.forall_mem_cons.mp h
theorem k_consI {z : Int} {S : List kV} (h1 : k_in z) (h2 : ∀ w ∈ S, k_ok w) : ∀ w ∈ kI z :: S, k_ok w := List.forall_mem_cons.mpr ⟨h1, h2⟩
theorem k_consJ {z : Int} {S : List kV} (h1 : k_in64 z) (h2 : ∀ w ∈ S, k_ok w) : ∀ w ∈ kJ z :: S, k_ok w := List.forall_mem_cons.mpr ⟨h1, h2⟩
theorem k_cons {v : kV} {S : List kV} (h1 : k_ok v) (h2 : ∀ w ∈ S, k_ok w) : ∀ w ∈ v :: S, k_ok w := List.forall_mem_cons.mpr ⟨h1, h2⟩
section KW1
variable {E : kEnv} {d mc ms : Nat} {M : kMd} {pc : Nat} {L : kLs} {S : List kV} {h : kH} {Q : Option kV → kH → Prop}
/-- a row that touches the stack and the place alone -/
theorem kw_st {S S2 : List kV} {pc2 : Nat} (hok : (∀ v ∈ S, k_ok v) → ∀ v ∈ S2, k_ok v)
    (row : ∀ (p : Program) (e : Env) (R : Room) (s : State) (mm : MethodId) (args : Array Value) (below : List Frame) (meth : Method) (c : Code) (H : Heap) (ls : Array Slot) (locs : List Loc) (cells slots : Nat) (QQ : State → Prop), k_cx E M d p R s mm args meth c → k_lr E M.2.2.1 L ls → (∀ v ∈ S, k_ok v) → W p (kl E) e R s mm args below meth c H locs cells slots QQ (F0 mm pc2 ls (S2.map (k_rv E))) → W p (kl E) e R s mm args below meth c H locs cells slots QQ (F0 mm pc ls (S.map (k_rv E))))
    (k : kW E d mc ms M pc2 L S2 h Q) : kW E d mc ms M pc L S h Q := by
  intro p e R s mm args below meth c H ls locs cells slots QQ cx g1 g2 hl hS hH hR hV kk
  exact row p e R s mm args below meth c H ls locs cells slots QQ cx hl hS (k p e R s mm args below meth c H ls locs cells slots QQ cx g1 g2 hl (hok hS) hH hR hV kk)
theorem kw_iconst {n : Int} (hd : decode M.2.1 pc = .ok (.iconst n, 1)) (hn : k_in n) (k : kW E d mc ms M (pc + 1) L (kI n :: S) h Q) : kW E d mc ms M pc L (S) h Q :=
  kw_st (fun hS => k_consI hn hS) (fun p e R s mm args below meth c H ls locs cells slots QQ cx hl hS k => lv_iconst cx.1 cx.2.1 hd rfl k) k
theorem kw_bipush {n : Int} (hd : decode M.2.1 pc = .ok (.bipush n, 2)) (h1 : -128 ≤ n) (h2 : n ≤ 127) (k : kW E d mc ms M (pc + 2) L (kI n :: S) h Q) : kW E d mc ms M pc L (S) h Q :=
  kw_st (fun hS => k_consI ⟨by omega, by omega⟩ hS) (fun p e R s mm args below meth c H ls locs cells slots QQ cx hl hS k => lv_bipush cx.1 cx.2.1 hd (k_i8 h1 h2) k) k
theorem kw_sipush {n : Int} (hd : decode M.2.1 pc = .ok (.sipush n, 3)) (h1 : -32768 ≤ n) (h2 : n ≤ 32767) (k : kW E d mc ms M (pc + 3) L (kI n :: S) h Q) : kW E d mc ms M pc L (S) h Q :=
  kw_st (fun hS => k_consI ⟨by omega, by omega⟩ hS) (fun p e R s mm args below meth c H ls locs cells slots QQ cx hl hS k => lv_sipush cx.1 cx.2.1 hd (k_i16 h1 h2) k) k
theorem kw_lconst0  (hd : decode M.2.1 pc = .ok (.lconst 0, 1)) (k : kW E d mc ms M (pc + 1) L (kJ 0 :: S) h Q) : kW E d mc ms M pc L (S) h Q :=
  kw_st (fun hS => k_consJ ⟨by decide, by decide⟩ hS) (fun p e R s mm args below meth c H ls locs cells slots QQ cx hl hS k => lv_lconst cx.1 cx.2.1 hd rfl k) k
theorem kw_lconst1  (hd : decode M.2.1 pc = .ok (.lconst 1, 1)) (k : kW E d mc ms M (pc + 1) L (kJ 1 :: S) h Q) : kW E d mc ms M pc L (S) h Q :=
  kw_st (fun hS => k_consJ ⟨by decide, by decide⟩ hS) (fun p e R s mm args below meth c H ls locs cells slots QQ cx hl hS k => lv_lconst cx.1 cx.2.1 hd rfl k) k
theorem kw_ldc2 {idx : Nat} {z : Int} (hd : decode M.2.1 pc = .ok (.ldc2_w idx, 3)) (hw : Cond.constantLong M.1.cls idx (Int64.ofInt z) ∈ k_KT) (hz : k_in64 z) (k : kW E d mc ms M (pc + 3) L (kJ z :: S) h Q) : kW E d mc ms M pc L (S) h Q :=
  kw_st (fun hS => k_consJ hz hS) (fun p e R s mm args below meth c H ls locs cells slots QQ cx hl hS k => lv_ldc2 cx.1 cx.2.1 cx.2.2.2.1 (cx.2.2.2.2.1 _ hw) hd k) k
theorem kw_ldcw {idx : Nat} {z : Int} (hd : decode M.2.1 pc = .ok (.ldc_w idx, 3)) (hw : Cond.constant M.1.cls idx (Int32.ofInt z) ∈ k_KT) (hz : k_in z) (k : kW E d mc ms M (pc + 3) L (kI z :: S) h Q) : kW E d mc ms M pc L (S) h Q :=
  kw_st (fun hS => k_consI hz hS) (fun p e R s mm args below meth c H ls locs cells slots QQ cx hl hS k => lv_ldcw cx.1 cx.2.1 cx.2.2.2.1 (cx.2.2.2.2.1 _ hw) hd k) k
theorem kw_iload_n {k0 : Fin 4} {x : Int} (hd : decode M.2.1 pc = .ok (.iload_n k0, 1)) (hL : L[(k0 : Nat)]? = some (some (kI x))) (k : kW E d mc ms M (pc + 1) L (kI x :: S) h Q) : kW E d mc ms M pc L S h Q := by
  intro p e R s mm args below meth c H ls locs cells slots QQ cx g1 g2 hl hS hH hR hV kk
  have q := hl.2.2.2 _ _ hL
  have k2 := k p e R s mm args below meth c H ls locs cells slots QQ cx g1 g2 hl (k_cons q.2 hS) hH hR hV kk
  exact lv_iload_n cx.1 cx.2.1 hd rfl q.1 k2
theorem kw_iload {k0 : Nat} {x : Int} (hd : decode M.2.1 pc = .ok (.iload k0, 2)) (hL : L[k0]? = some (some (kI x))) (k : kW E d mc ms M (pc + 2) L (kI x :: S) h Q) : kW E d mc ms M pc L S h Q := by
  intro p e R s mm args below meth c H ls locs cells slots QQ cx g1 g2 hl hS hH hR hV kk
  have q := hl.2.2.2 _ _ hL
  have k2 := k p e R s mm args below meth c H ls locs cells slots QQ cx g1 g2 hl (k_cons q.2 hS) hH hR hV kk
  exact lv_iload cx.1 cx.2.1 hd q.1 k2
theorem kw_lload_n {k0 : Fin 4} {x : Int} (hd : decode M.2.1 pc = .ok (.lload_n k0, 1)) (hL : L[(k0 : Nat)]? = some (some (kJ x))) (k : kW E d mc ms M (pc + 1) L (kJ x :: S) h Q) : kW E d mc ms M pc L S h Q := by
  intro p e R s mm args below meth c H ls locs cells slots QQ cx g1 g2 hl hS hH hR hV kk
  have q := hl.2.2.2 _ _ hL
  have k2 := k p e R s mm args below meth c H ls locs cells slots QQ cx g1 g2 hl (k_cons q.2 hS) hH hR hV kk
  exact lv_lload_n cx.1 cx.2.1 hd rfl q.1 k2
theorem kw_lload {k0 : Nat} {x : Int} (hd : decode M.2.1 pc = .ok (.lload k0, 2)) (hL : L[k0]? = some (some (kJ x))) (k : kW E d mc ms M (pc + 2) L (kJ x :: S) h Q) : kW E d mc ms M pc L S h Q := by
  intro p e R s mm args below meth c H ls locs cells slots QQ cx g1 g2 hl hS hH hR hV kk
  have q := hl.2.2.2 _ _ hL
  have k2 := k p e R s mm args below meth c H ls locs cells slots QQ cx g1 g2 hl (k_cons q.2 hS) hH hR hV kk
  exact lv_lload cx.1 cx.2.1 hd q.1 k2
theorem k_sv {E : kEnv} {s : State} (h : k_stat E s) : ∀ j : Nat, ksv E j = .null ∨ ∃ t : Nat, ksv E j = .ref t := h.2.2.2.2.2.2.2.1
theorem k_rvR {E : kEnv} {s : State} (h : k_stat E s) (r : Option Nat) : k_rv E (kR r) = .null ∨ ∃ t : Nat, k_rv E (kR r) = .ref t := by
  cases r with
  | none => exact Or.inl rfl
  | some a =>
    by_cases ha : a < 1000000
    · exact Or.inr ⟨kb E + a, if_pos ha⟩
    · rcases k_sv h (a - 1000000) with q | ⟨t, q⟩
      · exact Or.inl ((if_neg ha).trans q)
      · exact Or.inr ⟨t, (if_neg ha).trans q⟩
theorem kw_aload_n {k0 : Fin 4} {x : Option Nat} (hd : decode M.2.1 pc = .ok (.aload_n k0, 1)) (hL : L[(k0 : Nat)]? = some (some (kR x))) (k : kW E d mc ms M (pc + 1) L (kR x :: S) h Q) : kW E d mc ms M pc L S h Q := by
  intro p e R s mm args below meth c H ls locs cells slots QQ cx g1 g2 hl hS hH hR hV kk
  have q := hl.2.2.2 _ _ hL
  have k2 := k p e R s mm args below meth c H ls locs cells slots QQ cx g1 g2 hl (k_cons q.2 hS) hH hR hV kk
  rcases k_rvR cx.2.2.2.2.2.2.1 x with z | ⟨t, z⟩
  · have q1 := q.1
    rw [z] at q1
    simp only [List.map_cons, z] at k2
    exact lv_aload_nN cx.1 cx.2.1 hd rfl q1 k2
  · have q1 := q.1
    rw [z] at q1
    simp only [List.map_cons, z] at k2
    exact lv_aload_n cx.1 cx.2.1 hd rfl q1 k2
theorem kw_aload {k0 : Nat} {x : Option Nat} (hd : decode M.2.1 pc = .ok (.aload k0, 2)) (hL : L[k0]? = some (some (kR x))) (k : kW E d mc ms M (pc + 2) L (kR x :: S) h Q) : kW E d mc ms M pc L S h Q := by
  intro p e R s mm args below meth c H ls locs cells slots QQ cx g1 g2 hl hS hH hR hV kk
  have q := hl.2.2.2 _ _ hL
  have k2 := k p e R s mm args below meth c H ls locs cells slots QQ cx g1 g2 hl (k_cons q.2 hS) hH hR hV kk
  rcases k_rvR cx.2.2.2.2.2.2.1 x with z | ⟨t, z⟩
  · have q1 := q.1
    rw [z] at q1
    simp only [List.map_cons, z] at k2
    exact lv_aloadN cx.1 cx.2.1 hd q1 k2
  · have q1 := q.1
    rw [z] at q1
    simp only [List.map_cons, z] at k2
    exact lv_aload cx.1 cx.2.1 hd q1 k2
theorem kw_dupI {x : Int} (hd : decode M.2.1 pc = .ok (.dup, 1)) (k : kW E d mc ms M (pc + 1) L (kI x :: kI x :: S) h Q) : kW E d mc ms M pc L (kI x :: S) h Q :=
  kw_st (fun hS => k_cons (k_tl hS).1 hS) (fun p e R s mm args below meth c H ls locs cells slots QQ cx hl hS k => lv_dup cx.1 cx.2.1 hd rfl k) k
theorem k_cat {E : kEnv} {s : State} (h : k_stat E s) {v : kV} (hv : k_one v) : (k_rv E v).category = 1 := by
  rcases v with z | z | r
  · rfl
  · exact hv.elim
  · rcases k_rvR h r with q | ⟨t, q⟩
    · show (k_rv E (kR r)).category = 1; rw [q]; rfl
    · show (k_rv E (kR r)).category = 1; rw [q]; rfl
theorem kw_dup {v : kV} (hd : decode M.2.1 pc = .ok (.dup, 1)) (hv : k_one v) (k : kW E d mc ms M (pc + 1) L (v :: v :: S) h Q) : kW E d mc ms M pc L (v :: S) h Q :=
  kw_st (fun hS => k_cons (k_tl hS).1 hS) (fun p e R s mm args below meth c H ls locs cells slots QQ cx hl hS k => lv_dup cx.1 cx.2.1 hd (k_cat cx.2.2.2.2.2.2.1 hv) k) k
theorem kw_pop {v : kV} (hd : decode M.2.1 pc = .ok (.pop, 1)) (hv : k_one v) (k : kW E d mc ms M (pc + 1) L (S) h Q) : kW E d mc ms M pc L (v :: S) h Q :=
  kw_st (fun hS => (k_tl hS).2) (fun p e R s mm args below meth c H ls locs cells slots QQ cx hl hS k => lv_pop cx.1 cx.2.1 hd (k_cat cx.2.2.2.2.2.2.1 hv) k) k
theorem kw_dup2 {v w : kV} (hd : decode M.2.1 pc = .ok (.dup2, 1)) (hv : k_one v) (hw : k_one w) (k : kW E d mc ms M (pc + 1) L (v :: w :: v :: w :: S) h Q) : kW E d mc ms M pc L (v :: w :: S) h Q :=
  kw_st (fun hS => k_cons (k_tl hS).1 (k_cons (k_tl (k_tl hS).2).1 hS)) (fun p e R s mm args below meth c H ls locs cells slots QQ cx hl hS k => lv_dup2_11 cx.1 cx.2.1 hd (k_cat cx.2.2.2.2.2.2.1 hv) (k_cat cx.2.2.2.2.2.2.1 hw) k) k
theorem kw_iadd {x y : Int} (hd : decode M.2.1 pc = .ok (.iadd, 1)) (hr : k_in (x + y)) (k : kW E d mc ms M (pc + 1) L (kI (x + y) :: S) h Q) : kW E d mc ms M pc L (kI y :: kI x :: S) h Q :=
  kw_st (fun hS => k_consI hr (k_tl (k_tl hS).2).2) (fun p e R s mm args below meth c H ls locs cells slots QQ cx hl hS k => (by
    have e1 : Int32.ofInt x + Int32.ofInt y = Int32.ofInt (x + y) := (Int32.ofInt_add x y).symm
    refine lv_iadd cx.1 cx.2.1 hd ?_
    rw [e1]
    exact k)) k
theorem kw_isub {x y : Int} (hd : decode M.2.1 pc = .ok (.isub, 1)) (hr : k_in (x - y)) (k : kW E d mc ms M (pc + 1) L (kI (x - y) :: S) h Q) : kW E d mc ms M pc L (kI y :: kI x :: S) h Q :=
  kw_st (fun hS => k_consI hr (k_tl (k_tl hS).2).2) (fun p e R s mm args below meth c H ls locs cells slots QQ cx hl hS k => (by
    have e1 : Int32.ofInt x - Int32.ofInt y = Int32.ofInt (x - y) := (Int32.ofInt_sub x y).symm
    refine lv_isub cx.1 cx.2.1 hd ?_
    rw [e1]
    exact k)) k
theorem kw_imul {x y : Int} (hd : decode M.2.1 pc = .ok (.imul, 1)) (hr : k_in (x * y)) (k : kW E d mc ms M (pc + 1) L (kI (x * y) :: S) h Q) : kW E d mc ms M pc L (kI y :: kI x :: S) h Q :=
  kw_st (fun hS => k_consI hr (k_tl (k_tl hS).2).2) (fun p e R s mm args below meth c H ls locs cells slots QQ cx hl hS k => (by
    have e1 : Int32.ofInt x * Int32.ofInt y = Int32.ofInt (x * y) := (Int32.ofInt_mul x y).symm
    refine lv_imul cx.1 cx.2.1 hd ?_
    rw [e1]
    exact k)) k
theorem kw_iandG {x y z : Int} (hd : decode M.2.1 pc = .ok (.iand, 1)) (hz : k_in z) (he : Int32.ofInt x &&& Int32.ofInt y = Int32.ofInt z) (k : kW E d mc ms M (pc + 1) L (kI z :: S) h Q) : kW E d mc ms M pc L (kI y :: kI x :: S) h Q :=
  kw_st (fun hS => k_consI hz (k_tl (k_tl hS).2).2) (fun p e R s mm args below meth c H ls locs cells slots QQ cx hl hS k => (by
    refine lv_iand cx.1 cx.2.1 hd ?_
    rw [he]
    exact k)) k
theorem kw_iorG {x y z : Int} (hd : decode M.2.1 pc = .ok (.ior, 1)) (hz : k_in z) (he : Int32.ofInt x ||| Int32.ofInt y = Int32.ofInt z) (k : kW E d mc ms M (pc + 1) L (kI z :: S) h Q) : kW E d mc ms M pc L (kI y :: kI x :: S) h Q :=
  kw_st (fun hS => k_consI hz (k_tl (k_tl hS).2).2) (fun p e R s mm args below meth c H ls locs cells slots QQ cx hl hS k => (by
    refine lv_ior cx.1 cx.2.1 hd ?_
    rw [he]
    exact k)) k
theorem kw_ixorG {x y z : Int} (hd : decode M.2.1 pc = .ok (.ixor, 1)) (hz : k_in z) (he : Int32.ofInt x ^^^ Int32.ofInt y = Int32.ofInt z) (k : kW E d mc ms M (pc + 1) L (kI z :: S) h Q) : kW E d mc ms M pc L (kI y :: kI x :: S) h Q :=
  kw_st (fun hS => k_consI hz (k_tl (k_tl hS).2).2) (fun p e R s mm args below meth c H ls locs cells slots QQ cx hl hS k => (by
    refine lv_ixor cx.1 cx.2.1 hd ?_
    rw [he]
    exact k)) k
theorem kw_ishlG {x y z : Int} (hd : decode M.2.1 pc = .ok (.ishl, 1)) (hz : k_in z) (he : Int32.ofInt x <<< (Int32.ofInt y &&& 31) = Int32.ofInt z) (k : kW E d mc ms M (pc + 1) L (kI z :: S) h Q) : kW E d mc ms M pc L (kI y :: kI x :: S) h Q :=
  kw_st (fun hS => k_consI hz (k_tl (k_tl hS).2).2) (fun p e R s mm args below meth c H ls locs cells slots QQ cx hl hS k => (by
    refine lv_ishl cx.1 cx.2.1 hd ?_
    rw [he]
    exact k)) k
theorem kw_ishrG {x y z : Int} (hd : decode M.2.1 pc = .ok (.ishr, 1)) (hz : k_in z) (he : Int32.ofInt x >>> (Int32.ofInt y &&& 31) = Int32.ofInt z) (k : kW E d mc ms M (pc + 1) L (kI z :: S) h Q) : kW E d mc ms M pc L (kI y :: kI x :: S) h Q :=
  kw_st (fun hS => k_consI hz (k_tl (k_tl hS).2).2) (fun p e R s mm args below meth c H ls locs cells slots QQ cx hl hS k => (by
    refine lv_ishr cx.1 cx.2.1 hd ?_
    rw [he]
    exact k)) k
theorem kw_iushrG {x y z : Int} (hd : decode M.2.1 pc = .ok (.iushr, 1)) (hz : k_in z) (he : ((Int32.ofInt x).toUInt32 >>> ((Int32.ofInt y).toUInt32 &&& Int32.toUInt32 31)).toInt32 = Int32.ofInt z) (k : kW E d mc ms M (pc + 1) L (kI z :: S) h Q) : kW E d mc ms M pc L (kI y :: kI x :: S) h Q :=
  kw_st (fun hS => k_consI hz (k_tl (k_tl hS).2).2) (fun p e R s mm args below meth c H ls locs cells slots QQ cx hl hS k => lv_iushr cx.1 cx.2.1 hd he k) k
theorem hq {x y : Int} (hx : k_in x) (hm : (x.tdiv y).natAbs ≤ x.natAbs) (h0 : 0 < y) : k_in (x.tdiv y) := by
  have a := hx.1
  have b := hx.2
  rcases Int.lt_or_le x 0 with c | c
  · have e1 : x.tdiv y = -((-x) / y) := by
      have e2 : x = -(-x) := by omega
      rw [e2, Int.neg_tdiv, Int.tdiv_eq_ediv_of_nonneg (by omega)]
      simp
    have e3 : 0 ≤ (-x) / y := Int.ediv_nonneg (by omega) (by omega)
    exact ⟨by omega, by omega⟩
  · have e1 : x.tdiv y = x / y := Int.tdiv_eq_ediv_of_nonneg c
    have e3 : 0 ≤ x / y := Int.ediv_nonneg c (by omega)
    exact ⟨by omega, by omega⟩
theorem k_div {x y : Int} (hx : k_in x) (hy : k_in y) (h0 : 0 < y) : Int32.ofInt x / Int32.ofInt y = Int32.ofInt (x.tdiv y) := by
  apply Int32.toInt_inj.mp
  have hm : (x.tdiv y).natAbs ≤ x.natAbs := Int.natAbs_tdiv_le_natAbs x y
  have hn : Int32.ofInt y ≠ -1 := by
    intro q
    have q2 := congrArg Int32.toInt q
    rw [k_ti hy] at q2
    rw [q2] at h0
    exact absurd h0 (by decide)
  rw [Int32.toInt_div_of_ne_right _ _ hn, k_ti hx, k_ti hy]
  rw [k_ti (z := x.tdiv y) (hq hx hm h0)]
theorem kw_idiv {x y : Int} (hd : decode M.2.1 pc = .ok (.idiv, 1)) (h0 : 0 ≤ x) (h1 : 0 < y) (k : kW E d mc ms M (pc + 1) L (kI (x / y) :: S) h Q) : kW E d mc ms M pc L (kI y :: kI x :: S) h Q :=
  kw_st (fun hS => k_consI (by
    have a : k_in x := (k_tl (k_tl hS).2).1
    have e3 : 0 ≤ x / y := Int.ediv_nonneg h0 (by omega)
    have e4 : x / y ≤ x := Int.ediv_le_self y h0
    exact ⟨by have := a.1; omega, by have := a.2; omega⟩) (k_tl (k_tl hS).2).2) (fun p e R s mm args below meth c H ls locs cells slots QQ cx hl hS k => (by
    have hy : k_in y := (k_tl hS).1
    have hx : k_in x := (k_tl (k_tl hS).2).1
    have hne : ¬ Int32.ofInt y = 0 := fun q => by
      have q2 := congrArg Int32.toInt q
      rw [k_ti hy, Int32.toInt_zero] at q2
      omega
    refine lv_idiv cx.1 cx.2.1 hd hne ?_
    rw [k_div hx hy h1, Int.tdiv_eq_ediv_of_nonneg h0]
    exact k)) k
theorem kw_irem {x y : Int} (hd : decode M.2.1 pc = .ok (.irem, 1)) (h0 : 0 ≤ x) (h1 : 0 < y) (k : kW E d mc ms M (pc + 1) L (kI (x % y) :: S) h Q) : kW E d mc ms M pc L (kI y :: kI x :: S) h Q :=
  kw_st (fun hS => k_consI (by
    have a : k_in y := (k_tl hS).1
    have e3 : 0 ≤ x % y := Int.emod_nonneg x (by omega)
    have e4 : x % y < y := Int.emod_lt_of_pos x h1
    exact ⟨by have := a.1; omega, by have := a.2; omega⟩) (k_tl (k_tl hS).2).2) (fun p e R s mm args below meth c H ls locs cells slots QQ cx hl hS k => (by
    have hy : k_in y := (k_tl hS).1
    have hx : k_in x := (k_tl (k_tl hS).2).1
    have hne : ¬ Int32.ofInt y = 0 := fun q => by
      have q2 := congrArg Int32.toInt q
      rw [k_ti hy, Int32.toInt_zero] at q2
      omega
    refine lv_irem cx.1 cx.2.1 hd hne ?_
    have e1 : Int32.ofInt x - Int32.ofInt x / Int32.ofInt y * Int32.ofInt y = Int32.ofInt (x % y) := by
      rw [k_div hx hy h1, Int.tdiv_eq_ediv_of_nonneg h0, ← Int32.ofInt_mul, ← Int32.ofInt_sub]
      congr 1
      have := Int.emod_def x y
      rw [this, Int.mul_comm]
    rw [e1]
    exact k)) k
theorem kw_ladd {x y : Int} (hd : decode M.2.1 pc = .ok (.ladd, 1)) (hr : k_in64 (x + y)) (k : kW E d mc ms M (pc + 1) L (kJ (x + y) :: S) h Q) : kW E d mc ms M pc L (kJ y :: kJ x :: S) h Q :=
  kw_st (fun hS => k_consJ hr (k_tl (k_tl hS).2).2) (fun p e R s mm args below meth c H ls locs cells slots QQ cx hl hS k => (by
    refine lv_ladd cx.1 cx.2.1 hd ?_
    rw [← Int64.ofInt_add]
    exact k)) k
theorem kw_lmul {x y : Int} (hd : decode M.2.1 pc = .ok (.lmul, 1)) (hr : k_in64 (x * y)) (k : kW E d mc ms M (pc + 1) L (kJ (x * y) :: S) h Q) : kW E d mc ms M pc L (kJ y :: kJ x :: S) h Q :=
  kw_st (fun hS => k_consJ hr (k_tl (k_tl hS).2).2) (fun p e R s mm args below meth c H ls locs cells slots QQ cx hl hS k => (by
    refine lv_lmul cx.1 cx.2.1 hd ?_
    rw [← Int64.ofInt_mul]
    exact k)) k
theorem k_ldivE {x y : Int} (hx : k_in64 x) (hy : k_in64 y) (h0 : 0 ≤ x) (h1 : 0 < y) : Int64.ofInt x / Int64.ofInt y = Int64.ofInt (x / y) := by
  apply Int64.toInt_inj.mp
  have hn : Int64.ofInt y ≠ -1 := by
    intro q
    have q2 := congrArg Int64.toInt q
    rw [k_tj hy] at q2
    rw [q2] at h1
    exact absurd h1 (by decide)
  have e3 : 0 ≤ x / y := Int.ediv_nonneg h0 (by omega)
  have e4 : x / y ≤ x := Int.ediv_le_self y h0
  have a := hx.2
  rw [Int64.toInt_div_of_ne_right _ _ hn, k_tj hx, k_tj hy, Int.tdiv_eq_ediv_of_nonneg h0, k_tj ⟨by omega, by omega⟩]
theorem k_lne {y : Int} (hy : k_in64 y) (h1 : 0 < y) : ¬ Int64.ofInt y = 0 := fun q => by
  have q2 := congrArg Int64.toInt q
  rw [k_tj hy, Int64.toInt_zero] at q2
  omega
theorem kw_ldiv {x y : Int} (hd : decode M.2.1 pc = .ok (.ldiv, 1)) (h0 : 0 ≤ x) (h1 : 0 < y) (k : kW E d mc ms M (pc + 1) L (kJ (x / y) :: S) h Q) : kW E d mc ms M pc L (kJ y :: kJ x :: S) h Q :=
  kw_st (fun hS => k_consJ (by
    have a : k_in64 x := (k_tl (k_tl hS).2).1
    have e3 : 0 ≤ x / y := Int.ediv_nonneg h0 (by omega)
    have e4 : x / y ≤ x := Int.ediv_le_self y h0
    exact ⟨by have := a.1; omega, by have := a.2; omega⟩) (k_tl (k_tl hS).2).2) (fun p e R s mm args below meth c H ls locs cells slots QQ cx hl hS k => (by
    have hy : k_in64 y := (k_tl hS).1
    have hx : k_in64 x := (k_tl (k_tl hS).2).1
    refine lv_ldiv cx.1 cx.2.1 hd (k_lne hy h1) ?_
    rw [k_ldivE hx hy h0 h1]
    exact k)) k
theorem kw_lrem {x y : Int} (hd : decode M.2.1 pc = .ok (.lrem, 1)) (h0 : 0 ≤ x) (h1 : 0 < y) (k : kW E d mc ms M (pc + 1) L (kJ (x % y) :: S) h Q) : kW E d mc ms M pc L (kJ y :: kJ x :: S) h Q :=
  kw_st (fun hS => k_consJ (by
    have a : k_in64 y := (k_tl hS).1
    have e3 : 0 ≤ x % y := Int.emod_nonneg x (by omega)
    have e4 : x % y < y := Int.emod_lt_of_pos x h1
    exact ⟨by have := a.1; omega, by have := a.2; omega⟩) (k_tl (k_tl hS).2).2) (fun p e R s mm args below meth c H ls locs cells slots QQ cx hl hS k => (by
    have hy : k_in64 y := (k_tl hS).1
    have hx : k_in64 x := (k_tl (k_tl hS).2).1
    refine lv_lrem cx.1 cx.2.1 hd (k_lne hy h1) ?_
    have e1 : Int64.ofInt x - Int64.ofInt x / Int64.ofInt y * Int64.ofInt y = Int64.ofInt (x % y) := by
      rw [k_ldivE hx hy h0 h1, ← Int64.ofInt_mul, ← Int64.ofInt_sub]
      congr 1
      have := Int.emod_def x y
      rw [this, Int.mul_comm]
    rw [e1]
    exact k)) k
theorem kw_i2l {x : Int} (hd : decode M.2.1 pc = .ok (.i2l, 1)) (k : kW E d mc ms M (pc + 1) L (kJ x :: S) h Q) : kW E d mc ms M pc L (kI x :: S) h Q :=
  kw_st (fun hS => k_consJ (by
    have a : k_in x := (k_tl hS).1
    exact ⟨by have := a.1; omega, by have := a.2; omega⟩) (k_tl hS).2) (fun p e R s mm args below meth c H ls locs cells slots QQ cx hl hS k => (by
    have hx : k_in x := (k_tl hS).1
    refine lv_i2l cx.1 cx.2.1 hd (v := Int64.ofInt x) ?_ k
    apply Int64.toInt_inj.mp
    rw [Int32.toInt_toInt64, k_ti hx, k_tj ⟨by have := hx.1; omega, by have := hx.2; omega⟩])) k
theorem kw_l2i {x : Int} (hd : decode M.2.1 pc = .ok (.l2i, 1)) (hr : k_in x) (k : kW E d mc ms M (pc + 1) L (kI x :: S) h Q) : kW E d mc ms M pc L (kJ x :: S) h Q :=
  kw_st (fun hS => k_consI hr (k_tl hS).2) (fun p e R s mm args below meth c H ls locs cells slots QQ cx hl hS k => (by
    refine lv_l2i cx.1 cx.2.1 hd (v := Int32.ofInt x) ?_ k
    rw [Int64.toInt32_ofInt])) k
theorem kw_i2c {x : Int} (hd : decode M.2.1 pc = .ok (.i2c, 1)) (h0 : 0 ≤ x) (h1 : x < 65536) (k : kW E d mc ms M (pc + 1) L (kI x :: S) h Q) : kW E d mc ms M pc L (kI x :: S) h Q :=
  kw_st (fun hS => hS) (fun p e R s mm args below meth c H ls locs cells slots QQ cx hl hS k => (by
    refine lv_i2c cx.1 cx.2.1 hd (v := Int32.ofInt x) ?_ k
    obtain ⟨n, rfl⟩ := Int.eq_ofNat_of_zero_le h0
    rw [Int32.ofInt_eq_ofNat]
    have hn : n < 65536 := by omega
    have := pk_char (nI n)
    rw [pk_tn (by omega), Nat.mod_eq_of_lt hn] at this
    exact this)) k
theorem k_eqi {x y : Int} (hx : k_in x) (hy : k_in y) : Int32.ofInt x = Int32.ofInt y ↔ x = y := ⟨fun q => by have := congrArg Int32.toInt q; rwa [k_ti hx, k_ti hy] at this, fun q => by rw [q]⟩
theorem k_lei {x y : Int} (hx : k_in x) (hy : k_in y) : Int32.ofInt x ≤ Int32.ofInt y ↔ x ≤ y := by rw [Int32.le_iff_toInt_le, k_ti hx, k_ti hy]
theorem k_lti {x y : Int} (hx : k_in x) (hy : k_in y) : Int32.ofInt x < Int32.ofInt y ↔ x < y := by rw [Int32.lt_iff_toInt_lt, k_ti hx, k_ti hy]
theorem k_z : (0 : Int32) = Int32.ofInt 0 := rfl
theorem k_in0 : k_in 0 := ⟨by decide, by decide⟩
theorem kw_if_eq {x : Int} {off : Int} {tgt : Nat} (hd : decode M.2.1 pc = .ok (.ifCond .eq off, 3)) (ht : (pc : Int) + off = (tgt : Int)) (kt : x = 0 → kW E d mc ms M tgt L S h Q) (kf : ¬ (x = 0) → kW E d mc ms M (pc + 3) L S h Q) : kW E d mc ms M pc L (kI x :: S) h Q := by
  intro p e R s mm args below meth c H ls locs cells slots QQ cx g1 g2 hl hS hH hR hV kk
  have hx : k_in x := (k_tl hS).1
  have hS2 := (k_tl hS).2
  exact lv_if_eq cx.1 cx.2.1 hd ht (fun q => by rw [k_z] at q; exact kt ((k_eqi hx k_in0).mp q) p e R s mm args below meth c H ls locs cells slots QQ cx g1 g2 hl hS2 hH hR hV kk) (fun q => by rw [k_z] at q; exact kf (fun z => q ((k_eqi hx k_in0).mpr z)) p e R s mm args below meth c H ls locs cells slots QQ cx g1 g2 hl hS2 hH hR hV kk)
theorem kw_icmp_eq {x y : Int} {off : Int} {tgt : Nat} (hd : decode M.2.1 pc = .ok (.if_icmp .eq off, 3)) (ht : (pc : Int) + off = (tgt : Int)) (kt : x = y → kW E d mc ms M tgt L S h Q) (kf : ¬ (x = y) → kW E d mc ms M (pc + 3) L S h Q) : kW E d mc ms M pc L (kI y :: kI x :: S) h Q := by
  intro p e R s mm args below meth c H ls locs cells slots QQ cx g1 g2 hl hS hH hR hV kk
  have hy : k_in y := (k_tl hS).1
  have hx : k_in x := (k_tl (k_tl hS).2).1
  have hS2 := (k_tl (k_tl hS).2).2
  exact lv_icmp_eq cx.1 cx.2.1 hd ht (fun q => by exact kt ((k_eqi hx hy).mp q) p e R s mm args below meth c H ls locs cells slots QQ cx g1 g2 hl hS2 hH hR hV kk) (fun q => by exact kf (fun z => q ((k_eqi hx hy).mpr z)) p e R s mm args below meth c H ls locs cells slots QQ cx g1 g2 hl hS2 hH hR hV kk)
theorem kw_if_ne {x : Int} {off : Int} {tgt : Nat} (hd : decode M.2.1 pc = .ok (.ifCond .ne off, 3)) (ht : (pc : Int) + off = (tgt : Int)) (kt : x ≠ 0 → kW E d mc ms M tgt L S h Q) (kf : ¬ (x ≠ 0) → kW E d mc ms M (pc + 3) L S h Q) : kW E d mc ms M pc L (kI x :: S) h Q := by
  intro p e R s mm args below meth c H ls locs cells slots QQ cx g1 g2 hl hS hH hR hV kk
  have hx : k_in x := (k_tl hS).1
  have hS2 := (k_tl hS).2
  exact lv_if_ne cx.1 cx.2.1 hd ht (fun q => by rw [k_z] at q; exact kt (fun z => q ((k_eqi hx k_in0).mpr z)) p e R s mm args below meth c H ls locs cells slots QQ cx g1 g2 hl hS2 hH hR hV kk) (fun q => by rw [k_z] at q; exact kf (fun z => z ((k_eqi hx k_in0).mp q)) p e R s mm args below meth c H ls locs cells slots QQ cx g1 g2 hl hS2 hH hR hV kk)
theorem kw_icmp_ne {x y : Int} {off : Int} {tgt : Nat} (hd : decode M.2.1 pc = .ok (.if_icmp .ne off, 3)) (ht : (pc : Int) + off = (tgt : Int)) (kt : x ≠ y → kW E d mc ms M tgt L S h Q) (kf : ¬ (x ≠ y) → kW E d mc ms M (pc + 3) L S h Q) : kW E d mc ms M pc L (kI y :: kI x :: S) h Q := by
  intro p e R s mm args below meth c H ls locs cells slots QQ cx g1 g2 hl hS hH hR hV kk
  have hy : k_in y := (k_tl hS).1
  have hx : k_in x := (k_tl (k_tl hS).2).1
  have hS2 := (k_tl (k_tl hS).2).2
  exact lv_icmp_ne cx.1 cx.2.1 hd ht (fun q => by exact kt (fun z => q ((k_eqi hx hy).mpr z)) p e R s mm args below meth c H ls locs cells slots QQ cx g1 g2 hl hS2 hH hR hV kk) (fun q => by exact kf (fun z => z ((k_eqi hx hy).mp q)) p e R s mm args below meth c H ls locs cells slots QQ cx g1 g2 hl hS2 hH hR hV kk)
theorem kw_if_lt {x : Int} {off : Int} {tgt : Nat} (hd : decode M.2.1 pc = .ok (.ifCond .lt off, 3)) (ht : (pc : Int) + off = (tgt : Int)) (kt : x < 0 → kW E d mc ms M tgt L S h Q) (kf : ¬ (x < 0) → kW E d mc ms M (pc + 3) L S h Q) : kW E d mc ms M pc L (kI x :: S) h Q := by
  intro p e R s mm args below meth c H ls locs cells slots QQ cx g1 g2 hl hS hH hR hV kk
  have hx : k_in x := (k_tl hS).1
  have hS2 := (k_tl hS).2
  exact lv_if_lt cx.1 cx.2.1 hd ht (fun q => by rw [k_z] at q; exact kt ((k_lti hx k_in0).mp q) p e R s mm args below meth c H ls locs cells slots QQ cx g1 g2 hl hS2 hH hR hV kk) (fun q => by rw [k_z] at q; exact kf (fun z => q ((k_lti hx k_in0).mpr z)) p e R s mm args below meth c H ls locs cells slots QQ cx g1 g2 hl hS2 hH hR hV kk)
theorem kw_icmp_lt {x y : Int} {off : Int} {tgt : Nat} (hd : decode M.2.1 pc = .ok (.if_icmp .lt off, 3)) (ht : (pc : Int) + off = (tgt : Int)) (kt : x < y → kW E d mc ms M tgt L S h Q) (kf : ¬ (x < y) → kW E d mc ms M (pc + 3) L S h Q) : kW E d mc ms M pc L (kI y :: kI x :: S) h Q := by
  intro p e R s mm args below meth c H ls locs cells slots QQ cx g1 g2 hl hS hH hR hV kk
  have hy : k_in y := (k_tl hS).1
  have hx : k_in x := (k_tl (k_tl hS).2).1
  have hS2 := (k_tl (k_tl hS).2).2
  exact lv_icmp_lt cx.1 cx.2.1 hd ht (fun q => by exact kt ((k_lti hx hy).mp q) p e R s mm args below meth c H ls locs cells slots QQ cx g1 g2 hl hS2 hH hR hV kk) (fun q => by exact kf (fun z => q ((k_lti hx hy).mpr z)) p e R s mm args below meth c H ls locs cells slots QQ cx g1 g2 hl hS2 hH hR hV kk)
theorem kw_if_ge {x : Int} {off : Int} {tgt : Nat} (hd : decode M.2.1 pc = .ok (.ifCond .ge off, 3)) (ht : (pc : Int) + off = (tgt : Int)) (kt : 0 ≤ x → kW E d mc ms M tgt L S h Q) (kf : ¬ (0 ≤ x) → kW E d mc ms M (pc + 3) L S h Q) : kW E d mc ms M pc L (kI x :: S) h Q := by
  intro p e R s mm args below meth c H ls locs cells slots QQ cx g1 g2 hl hS hH hR hV kk
  have hx : k_in x := (k_tl hS).1
  have hS2 := (k_tl hS).2
  exact lv_if_ge cx.1 cx.2.1 hd ht (fun q => by rw [k_z] at q; exact kt ((k_lei k_in0 hx).mp q) p e R s mm args below meth c H ls locs cells slots QQ cx g1 g2 hl hS2 hH hR hV kk) (fun q => by rw [k_z] at q; exact kf (fun z => q ((k_lei k_in0 hx).mpr z)) p e R s mm args below meth c H ls locs cells slots QQ cx g1 g2 hl hS2 hH hR hV kk)
theorem kw_icmp_ge {x y : Int} {off : Int} {tgt : Nat} (hd : decode M.2.1 pc = .ok (.if_icmp .ge off, 3)) (ht : (pc : Int) + off = (tgt : Int)) (kt : y ≤ x → kW E d mc ms M tgt L S h Q) (kf : ¬ (y ≤ x) → kW E d mc ms M (pc + 3) L S h Q) : kW E d mc ms M pc L (kI y :: kI x :: S) h Q := by
  intro p e R s mm args below meth c H ls locs cells slots QQ cx g1 g2 hl hS hH hR hV kk
  have hy : k_in y := (k_tl hS).1
  have hx : k_in x := (k_tl (k_tl hS).2).1
  have hS2 := (k_tl (k_tl hS).2).2
  exact lv_icmp_ge cx.1 cx.2.1 hd ht (fun q => by exact kt ((k_lei hy hx).mp q) p e R s mm args below meth c H ls locs cells slots QQ cx g1 g2 hl hS2 hH hR hV kk) (fun q => by exact kf (fun z => q ((k_lei hy hx).mpr z)) p e R s mm args below meth c H ls locs cells slots QQ cx g1 g2 hl hS2 hH hR hV kk)
theorem kw_if_gt {x : Int} {off : Int} {tgt : Nat} (hd : decode M.2.1 pc = .ok (.ifCond .gt off, 3)) (ht : (pc : Int) + off = (tgt : Int)) (kt : 0 < x → kW E d mc ms M tgt L S h Q) (kf : ¬ (0 < x) → kW E d mc ms M (pc + 3) L S h Q) : kW E d mc ms M pc L (kI x :: S) h Q := by
  intro p e R s mm args below meth c H ls locs cells slots QQ cx g1 g2 hl hS hH hR hV kk
  have hx : k_in x := (k_tl hS).1
  have hS2 := (k_tl hS).2
  exact lv_if_gt cx.1 cx.2.1 hd ht (fun q => by rw [k_z] at q; exact kt ((k_lti k_in0 hx).mp q) p e R s mm args below meth c H ls locs cells slots QQ cx g1 g2 hl hS2 hH hR hV kk) (fun q => by rw [k_z] at q; exact kf (fun z => q ((k_lti k_in0 hx).mpr z)) p e R s mm args below meth c H ls locs cells slots QQ cx g1 g2 hl hS2 hH hR hV kk)
theorem kw_icmp_gt {x y : Int} {off : Int} {tgt : Nat} (hd : decode M.2.1 pc = .ok (.if_icmp .gt off, 3)) (ht : (pc : Int) + off = (tgt : Int)) (kt : y < x → kW E d mc ms M tgt L S h Q) (kf : ¬ (y < x) → kW E d mc ms M (pc + 3) L S h Q) : kW E d mc ms M pc L (kI y :: kI x :: S) h Q := by
  intro p e R s mm args below meth c H ls locs cells slots QQ cx g1 g2 hl hS hH hR hV kk
  have hy : k_in y := (k_tl hS).1
  have hx : k_in x := (k_tl (k_tl hS).2).1
  have hS2 := (k_tl (k_tl hS).2).2
  exact lv_icmp_gt cx.1 cx.2.1 hd ht (fun q => by exact kt ((k_lti hy hx).mp q) p e R s mm args below meth c H ls locs cells slots QQ cx g1 g2 hl hS2 hH hR hV kk) (fun q => by exact kf (fun z => q ((k_lti hy hx).mpr z)) p e R s mm args below meth c H ls locs cells slots QQ cx g1 g2 hl hS2 hH hR hV kk)
theorem kw_if_le {x : Int} {off : Int} {tgt : Nat} (hd : decode M.2.1 pc = .ok (.ifCond .le off, 3)) (ht : (pc : Int) + off = (tgt : Int)) (kt : x ≤ 0 → kW E d mc ms M tgt L S h Q) (kf : ¬ (x ≤ 0) → kW E d mc ms M (pc + 3) L S h Q) : kW E d mc ms M pc L (kI x :: S) h Q := by
  intro p e R s mm args below meth c H ls locs cells slots QQ cx g1 g2 hl hS hH hR hV kk
  have hx : k_in x := (k_tl hS).1
  have hS2 := (k_tl hS).2
  exact lv_if_le cx.1 cx.2.1 hd ht (fun q => by rw [k_z] at q; exact kt ((k_lei hx k_in0).mp q) p e R s mm args below meth c H ls locs cells slots QQ cx g1 g2 hl hS2 hH hR hV kk) (fun q => by rw [k_z] at q; exact kf (fun z => q ((k_lei hx k_in0).mpr z)) p e R s mm args below meth c H ls locs cells slots QQ cx g1 g2 hl hS2 hH hR hV kk)
theorem kw_icmp_le {x y : Int} {off : Int} {tgt : Nat} (hd : decode M.2.1 pc = .ok (.if_icmp .le off, 3)) (ht : (pc : Int) + off = (tgt : Int)) (kt : x ≤ y → kW E d mc ms M tgt L S h Q) (kf : ¬ (x ≤ y) → kW E d mc ms M (pc + 3) L S h Q) : kW E d mc ms M pc L (kI y :: kI x :: S) h Q := by
  intro p e R s mm args below meth c H ls locs cells slots QQ cx g1 g2 hl hS hH hR hV kk
  have hy : k_in y := (k_tl hS).1
  have hx : k_in x := (k_tl (k_tl hS).2).1
  have hS2 := (k_tl (k_tl hS).2).2
  exact lv_icmp_le cx.1 cx.2.1 hd ht (fun q => by exact kt ((k_lei hx hy).mp q) p e R s mm args below meth c H ls locs cells slots QQ cx g1 g2 hl hS2 hH hR hV kk) (fun q => by exact kf (fun z => q ((k_lei hx hy).mpr z)) p e R s mm args below meth c H ls locs cells slots QQ cx g1 g2 hl hS2 hH hR hV kk)
theorem kw_goto {off : Int} {tgt : Nat} (hd : decode M.2.1 pc = .ok (.goto off, 3)) (ht : (pc : Int) + off = (tgt : Int)) (k : kW E d mc ms M tgt L S h Q) : kW E d mc ms M pc L S h Q :=
  kw_st (fun hS => hS) (fun p e R s mm args below meth c H ls locs cells slots QQ cx hl hS k => lv_goto cx.1 cx.2.1 hd ht k) k
theorem kw_ifnullA {a : Nat} (ha : a < 1000000) {off : Int} (hd : decode M.2.1 pc = .ok (.ifnull off, 3)) (k : kW E d mc ms M (pc + 3) L S h Q) : kW E d mc ms M pc L (kA a :: S) h Q :=
  kw_st (fun hS => (k_tl hS).2) (fun p e R s mm args below meth c H ls locs cells slots QQ cx hl hS k => (by
    have z : k_rv E (kA a) = .ref (kb E + a) := if_pos ha
    rw [List.map_cons, z]
    exact lv_ifnull cx.1 cx.2.1 hd k)) k
theorem kw_tblIn {x : Int} {df lo hi : Int} {offs : Array Int} {len : Nat} {off : Int} {tgt : Nat} (hd : decode M.2.1 pc = .ok (.tableswitch df lo hi offs, len)) (h1 : lo ≤ x) (h2 : x ≤ hi) (ho : offs[(x - lo).toNat]? = some off) (ht : (pc : Int) + off = (tgt : Int)) (k : kW E d mc ms M tgt L S h Q) : kW E d mc ms M pc L (kI x :: S) h Q :=
  kw_st (fun hS => (k_tl hS).2) (fun p e R s mm args below meth c H ls locs cells slots QQ cx hl hS k => (by
    have hx : k_in x := (k_tl hS).1
    exact lv_tableIn cx.1 cx.2.1 hd (x := Int32.ofInt x) (by rw [k_ti hx]; omega) (by rw [k_ti hx]; omega) (by rw [k_ti hx]; exact ho) ht k)) k
theorem kw_tblOut {x : Int} {df lo hi : Int} {offs : Array Int} {len : Nat} {tgt : Nat} (hd : decode M.2.1 pc = .ok (.tableswitch df lo hi offs, len)) (h1 : x < lo ∨ hi < x) (ht : (pc : Int) + df = (tgt : Int)) (k : kW E d mc ms M tgt L S h Q) : kW E d mc ms M pc L (kI x :: S) h Q :=
  kw_st (fun hS => (k_tl hS).2) (fun p e R s mm args below meth c H ls locs cells slots QQ cx hl hS k => (by
    have hx : k_in x := (k_tl hS).1
    exact lv_tableOut cx.1 cx.2.1 hd (x := Int32.ofInt x) (by rw [k_ti hx]; exact h1) ht k)) k
theorem kw_look {x : Int} {df : Int} {ps : Array (Int × Int)} {len : Nat} {off : Int} {tgt : Nat} (hd : decode M.2.1 pc = .ok (.lookupswitch df ps, len)) (hp : (ps.toList.zip (ps.toList.drop 1)).all (fun (a, next) => a.1 < next.1) = true) (ho : Op.lookupswitch.offset ps.toList df x = off) (ht : (pc : Int) + off = (tgt : Int)) (k : kW E d mc ms M tgt L S h Q) : kW E d mc ms M pc L (kI x :: S) h Q :=
  kw_st (fun hS => (k_tl hS).2) (fun p e R s mm args below meth c H ls locs cells slots QQ cx hl hS k => (by
    have hx : k_in x := (k_tl hS).1
    exact lv_lookup cx.1 cx.2.1 hd (x := Int32.ofInt x) hp (by rw [k_ti hx]; exact ho) ht k)) k
end KW1
end
section
/-! rules of the inner machine: locals that are stored, fields, arrays, returns -/
def k_lv (E : kEnv) (L : kLs) : List (Nat × Value) := (List.range L.length).filterMap (fun i => match L[i]? with
  | some (some v) => some (i, k_rv E v)
  | _ => none)
theorem k_lv_in {E : kEnv} {L : kLs} {i : Nat} {v : kV} (h : L[i]? = some (some v)) : (i, k_rv E v) ∈ k_lv E L := by
  refine List.mem_filterMap.mpr ⟨i, List.mem_range.mpr (List.getElem?_eq_some_iff.mp h).1, ?_⟩
  rw [h]
theorem k_lv_of {E : kEnv} {L : kLs} {q : Nat × Value} (h : q ∈ k_lv E L) : ∃ v, L[q.1]? = some (some v) ∧ q.2 = k_rv E v := by
  obtain ⟨i, -, hi⟩ := List.mem_filterMap.mp h
  cases hL : L[i]? with
  | none => rw [hL] at hi; cases hi
  | some w =>
    cases w with
    | none => rw [hL] at hi; cases hi
    | some v => rw [hL] at hi; cases hi; exact ⟨v, hL, rfl⟩
theorem k_lr_has {E : kEnv} {nL : Nat} {L : kLs} {ls : Array Slot} (h : k_lr E nL L ls) : lv_has ls nL (k_lv E L) := by
  refine ⟨h.1, h.2.2.1, fun q hq => ?_⟩
  obtain ⟨v, h1, h2⟩ := k_lv_of hq
  rw [h2]
  exact (h.2.2.2 _ _ h1).1
/-- no long begins just below i -/
def k_nl (L : kLs) (i : Nat) : Prop := match i with
  | 0 => True
  | j + 1 => match L[j]? with
    | some (some (.inr (.inl _))) => False
    | _ => True
theorem k_nl_one {L : kLs} {j : Nat} {v : kV} (h : k_nl L (j + 1)) (hv : L[j]? = some (some v)) : k_one v := by
  simp only [k_nl, hv] at h
  rcases v with z | z | r
  · trivial
  · exact h.elim
  · trivial
theorem k_lr_set1 {E : kEnv} {s : State} (hs : k_stat E s) {nL : Nat} {L : kLs} {ls ls2 : Array Slot} (h : k_lr E nL L ls) {i : Nat} {v : kV} (hv : k_ok v) (hn : k_nl L i)
    (h2 : lv_has ls2 nL ((i, k_rv E v) :: (k_lv E L).filter (fun q => !(q.1 == i) && !(q.1 + 1 == i && q.2.category == 2)))) : k_lr E nL (L.set i (some v)) ls2 := by
  refine ⟨h2.1, by rw [List.length_set]; exact h.2.1, h2.2.1, fun j w hj => ?_⟩
  by_cases hji : j = i
  · subst hji
    have hlt := (List.getElem?_eq_some_iff.mp hj).1
    rw [List.length_set] at hlt
    rw [List.getElem?_set_self hlt] at hj
    cases hj
    exact ⟨h2.2.2 _ List.mem_cons_self, hv⟩
  · rw [List.getElem?_set_ne (Ne.symm hji)] at hj
    refine ⟨h2.2.2 (j, k_rv E w) (List.mem_cons_of_mem _ (List.mem_filter.mpr ⟨k_lv_in hj, ?_⟩)), (h.2.2.2 _ _ hj).2⟩
    have e1 : (j == i) = false := by simp [hji]
    by_cases hj1 : j + 1 = i
    · subst hj1
      have := k_cat hs (k_nl_one hn hj)
      simp [this]
    · have e2 : (j + 1 == i) = false := by simp [hj1]
      simp [e1, e2]
theorem k_lr_set2 {E : kEnv} {s : State} (hs : k_stat E s) {nL : Nat} {L : kLs} {ls ls2 : Array Slot} (h : k_lr E nL L ls) {i : Nat} {v : kV} (hv : k_ok v) (hn : k_nl L i)
    (h2 : lv_has ls2 nL ((i, k_rv E v) :: (k_lv E L).filter (fun q => !(q.1 == i) && (!(q.1 == i + 1) && !(q.1 + 1 == i && q.2.category == 2))))) : k_lr E nL ((L.set i (some v)).set (i + 1) none) ls2 := by
  refine ⟨h2.1, by rw [List.length_set, List.length_set]; exact h.2.1, h2.2.1, fun j w hj => ?_⟩
  by_cases hj2 : j = i + 1
  · subst hj2
    have hlt := (List.getElem?_eq_some_iff.mp hj).1
    rw [List.length_set] at hlt
    rw [List.getElem?_set_self hlt] at hj
    cases hj
  · rw [List.getElem?_set_ne (Ne.symm hj2)] at hj
    by_cases hji : j = i
    · subst hji
      have hlt := (List.getElem?_eq_some_iff.mp hj).1
      rw [List.length_set] at hlt
      rw [List.getElem?_set_self hlt] at hj
      cases hj
      exact ⟨h2.2.2 _ List.mem_cons_self, hv⟩
    · rw [List.getElem?_set_ne (Ne.symm hji)] at hj
      refine ⟨h2.2.2 (j, k_rv E w) (List.mem_cons_of_mem _ (List.mem_filter.mpr ⟨k_lv_in hj, ?_⟩)), (h.2.2.2 _ _ hj).2⟩
      have e1 : (j == i) = false := by simp [hji]
      have e3 : (j == i + 1) = false := by simp [hj2]
      by_cases hj1 : j + 1 = i
      · subst hj1
        have := k_cat hs (k_nl_one hn hj)
        simp [this]
        omega
      · have e2 : (j + 1 == i) = false := by simp [hj1]
        simp [e1, e2, e3]
section KW2
variable {E : kEnv} {d mc ms : Nat} {M : kMd} {pc : Nat} {L L2 : kLs} {S : List kV} {h : kH} {Q : Option kV → kH → Prop}
theorem kw_istore_n {k0 : Fin 4} {x : Int} (hd : decode M.2.1 pc = .ok (.istore_n k0, 1)) (hi : (k0 : Nat) < M.2.2.1) (hn : k_nl L k0) (hL : L.set k0 (some (kI x)) = L2) (k : kW E d mc ms M (pc + 1) L2 S h Q) : kW E d mc ms M pc L (kI x :: S) h Q := by
  intro p e R s mm args below meth c H ls locs cells slots QQ cx g1 g2 hl hS hH hR hV kk
  subst hL
  exact lv_istore_n cx.1 cx.2.1 hd rfl (k_lr_has hl) hi rfl (fun ls2 h2 => k p e R s mm args below meth c H ls2 locs cells slots QQ cx g1 g2 (k_lr_set1 (v := kI x) cx.2.2.2.2.2.2.1 hl (k_tl hS).1 hn h2) (k_tl hS).2 hH hR hV kk)
theorem kw_istore {k0 : Nat} {x : Int} (hd : decode M.2.1 pc = .ok (.istore k0, 2)) (hi : k0 < M.2.2.1) (hn : k_nl L k0) (hL : L.set k0 (some (kI x)) = L2) (k : kW E d mc ms M (pc + 2) L2 S h Q) : kW E d mc ms M pc L (kI x :: S) h Q := by
  intro p e R s mm args below meth c H ls locs cells slots QQ cx g1 g2 hl hS hH hR hV kk
  subst hL
  exact lv_istore cx.1 cx.2.1 hd (k_lr_has hl) hi rfl (fun ls2 h2 => k p e R s mm args below meth c H ls2 locs cells slots QQ cx g1 g2 (k_lr_set1 (v := kI x) cx.2.2.2.2.2.2.1 hl (k_tl hS).1 hn h2) (k_tl hS).2 hH hR hV kk)
theorem kw_lstore_n {k0 : Fin 4} {x : Int} (hd : decode M.2.1 pc = .ok (.lstore_n k0, 1)) (hi : (k0 : Nat) + 1 < M.2.2.1) (hn : k_nl L k0) (hL : (L.set k0 (some (kJ x))).set (k0 + 1) none = L2) (k : kW E d mc ms M (pc + 1) L2 S h Q) : kW E d mc ms M pc L (kJ x :: S) h Q := by
  intro p e R s mm args below meth c H ls locs cells slots QQ cx g1 g2 hl hS hH hR hV kk
  subst hL
  exact lv_lstore_n cx.1 cx.2.1 hd rfl (k_lr_has hl) hi rfl (fun ls2 h2 => k p e R s mm args below meth c H ls2 locs cells slots QQ cx g1 g2 (k_lr_set2 (v := kJ x) cx.2.2.2.2.2.2.1 hl (k_tl hS).1 hn h2) (k_tl hS).2 hH hR hV kk)
theorem kw_lstore {k0 : Nat} {x : Int} (hd : decode M.2.1 pc = .ok (.lstore k0, 2)) (hi : k0 + 1 < M.2.2.1) (hn : k_nl L k0) (hL : (L.set k0 (some (kJ x))).set (k0 + 1) none = L2) (k : kW E d mc ms M (pc + 2) L2 S h Q) : kW E d mc ms M pc L (kJ x :: S) h Q := by
  intro p e R s mm args below meth c H ls locs cells slots QQ cx g1 g2 hl hS hH hR hV kk
  subst hL
  exact lv_lstore cx.1 cx.2.1 hd (k_lr_has hl) hi rfl (fun ls2 h2 => k p e R s mm args below meth c H ls2 locs cells slots QQ cx g1 g2 (k_lr_set2 (v := kJ x) cx.2.2.2.2.2.2.1 hl (k_tl hS).1 hn h2) (k_tl hS).2 hH hR hV kk)
theorem kw_astore_n {k0 : Fin 4} {a : Nat} (hd : decode M.2.1 pc = .ok (.astore_n k0, 1)) (ha : a < 1000000) (hi : (k0 : Nat) < M.2.2.1) (hn : k_nl L k0) (hL : L.set k0 (some (kA a)) = L2) (k : kW E d mc ms M (pc + 1) L2 S h Q) : kW E d mc ms M pc L (kA a :: S) h Q := by
  intro p e R s mm args below meth c H ls locs cells slots QQ cx g1 g2 hl hS hH hR hV kk
  subst hL
  have z : k_rv E (kA a) = .ref (kb E + a) := if_pos ha
  have z2 := @k_lr_set1 E s cx.2.2.2.2.2.2.1 M.2.2.1 L ls
  rw [List.map_cons, z]
  exact lv_astore_n cx.1 cx.2.1 hd rfl (k_lr_has hl) hi rfl (fun ls2 h2 => k p e R s mm args below meth c H ls2 locs cells slots QQ cx g1 g2 (z2 (v := kA a) hl trivial hn (by rw [z]; exact h2)) (k_tl hS).2 hH hR hV kk)
theorem kw_iinc {k0 : Nat} {x n : Int} (hd : decode M.2.1 pc = .ok (.iinc k0 n, 3)) (hi : k0 < M.2.2.1) (hx : L[k0]? = some (some (kI x))) (hr : k_in (x + n)) (hn : k_nl L k0) (hL : L.set k0 (some (kI (x + n))) = L2) (k : kW E d mc ms M (pc + 3) L2 S h Q) : kW E d mc ms M pc L S h Q := by
  intro p e R s mm args below meth c H ls locs cells slots QQ cx g1 g2 hl hS hH hR hV kk
  subst hL
  have h0 := k_lr_has hl
  have h1 : lv_has ls M.2.2.1 ((k0, .int (Int32.ofInt x)) :: k_lv E L) := ⟨h0.1, h0.2.1, List.forall_mem_cons.mpr ⟨(hl.2.2.2 _ _ hx).1, h0.2.2⟩⟩
  refine lv_iinc (v := Int32.ofInt (x + n)) cx.1 cx.2.1 hd h1 (k := 0) rfl (Int32.ofInt_add x n).symm hi rfl (fun ls2 h2 => k p e R s mm args below meth c H ls2 locs cells slots QQ cx g1 g2 (k_lr_set1 (v := kI (x + n)) cx.2.2.2.2.2.2.1 hl hr hn ?_) hS hH hR hV kk)
  refine ⟨h2.1, h2.2.1, fun q hq => h2.2.2 q ?_⟩
  rcases List.mem_cons.mp hq with z | z
  · exact List.mem_cons.mpr (Or.inl z)
  · obtain ⟨z1, z2⟩ := List.mem_filter.mp z
    exact List.mem_cons_of_mem _ (List.mem_filter.mpr ⟨List.mem_cons_of_mem _ z1, z2⟩)
end KW2
/-! the cells -/
theorem k_ws_at {E : kEnv} {h : kH} {a : Nat} (ha : a < h.1.length) : (k_ws E h)[a]? = some (kb E + a, k_cell E h a) := by
  unfold k_ws
  rw [List.getElem?_map, List.getElem?_range ha]
  rfl
theorem k_lt {h : kH} {a : Nat} {x : Nat × Nat} (hm : h.1[a]? = some x) : a < h.1.length := (List.getElem?_eq_some_iff.mp hm).1
theorem k_rvA {E : kEnv} {X : Nat × (Nat → Int)} {h : kH} {a : Nat} {x : Nat × Nat} (hH : k_okH X h) (hm : h.1[a]? = some x) : k_rv E (kA a) = .ref (kb E + a) := if_pos (Nat.lt_trans (k_lt hm) hH.2.2.1)
theorem k_rv_rf {E : kEnv} {r : Option Nat} (h : ∀ x, r = some x → x < 1000000) : k_rv E (kR r) = va_rf (k_rf E r) := by
  cases r with
  | none => rfl
  | some a => exact if_pos (h a rfl)
theorem k_ws_set {E : kEnv} {h h2 : kH} {a : Nat} {e : va_E} (hm : h2.1 = h.1) (hc : k_cell E h2 a = e) (ho : ∀ b : Nat, b ≠ a → k_cell E h2 b = k_cell E h b) : (k_ws E h).set a (kb E + a, e) = k_ws E h2 := by
  apply List.ext_getElem?
  intro i
  by_cases hi : i < h.1.length
  · rw [k_ws_at (h := h2) (by rw [hm]; exact hi)]
    by_cases hia : i = a
    · subst hia
      rw [List.getElem?_set_self (by simp [k_ws]; exact hi), hc]
    · rw [List.getElem?_set_ne (Ne.symm hia), k_ws_at hi, ho i hia]
  · rw [List.getElem?_eq_none (by simp [k_ws]; omega), List.getElem?_eq_none (by simp [k_ws, hm]; omega)]
theorem k_wsD {E : kEnv} {h : kH} : va_D (k_A E) (k_ws E h) := by
  have key : ∀ (k : Nat) (q : Nat × va_E), (k_ws E h)[k]? = some q → q.1 = kb E + k := by
    intro k q hq
    have hk : k < h.1.length := by
      have := (List.getElem?_eq_some_iff.mp hq).1
      simpa [k_ws] using this
    rw [k_ws_at hk] at hq
    cases hq
    rfl
  refine ⟨fun i j p q hi hj e => ?_, fun k q hk => ?_⟩
  · have a := key i p hi
    have b := key j q hj
    omega
  · have a := key k q hk
    show kb E ≤ q.1
    omega
/-- a field that is read -/
def k_fldr (own : String) (idx ci k N : Nat) : Prop := ∃ (C : String) (T : u_T), vwCl[ci]? = some (C, T, N) ∧ (∀ w ∈ u_ws C T N, w ∈ k_KT) ∧ k < N ∧ Cond.fieldLink own idx (T k).1 (T k).2.1 (T k).2.2.1 ∈ k_KT
/-- a field, by its place in the class's own table -/
def k_fld (own : String) (idx ci k N : Nat) (fin : Bool) : Prop := ∃ (C : String) (T : u_T) (ty : Nat → FieldType), vwCl[ci]? = some (C, T, N) ∧ (∀ w ∈ u_ws C T N, w ∈ k_KT) ∧ k < N ∧ Cond.fieldLink own idx (T k).1 (T k).2.1 (T k).2.2.1 ∈ k_KT ∧ (∀ j, j < N → parseFieldDescriptor (T j).2.2.1 = some (ty j)) ∧ (∀ a, a < N → ∀ b, b < N → a ≠ b → (T a).2.1 ≠ (T b).2.1) ∧ (k_fr ci k = false → ty k = .int) ∧ (k_fr ci k = true → ∀ v : Value, (v = .null ∨ ∃ a, v = .ref a) → narrow (ty k) v = v ∧ fits (ty k) v = true) ∧ (T k).2.2.2 = fin ∧ (fin = true → (T k).1 = own)
theorem k_cell_o {E : kEnv} {h : kH} {a ci N : Nat} {q : vw_C} (hm : h.1[a]? = some (ci, N)) (hc : vwCl[ci]? = some q) : k_cell E h a = .inr (ci, (List.range N).map (fun k => k_fv E h a ci k)) := by
  have hlt : ci < 8 := (List.getElem?_eq_some_iff.mp hc).1
  simp only [k_cell, hm]
  rw [if_neg (by omega), if_neg (by omega), if_neg (by omega)]
theorem k_u_ok {f : Nat → Int → Int} {a : Nat} {i v : Int} (h : ∀ b j, k_in (f b j)) (hv : k_in v) : ∀ b j, k_in (k_u f a i v b j) := by
  intro b j
  unfold k_u
  split
  · exact hv
  · exact h b j
theorem k_u_okr {f : Nat → Int → Option Nat} {a : Nat} {i : Int} {v : Option Nat} (h : ∀ b j x, f b j = some x → x < 1000000) (hv : ∀ x, v = some x → x < 1000000) : ∀ b j x, k_u f a i v b j = some x → x < 1000000 := by
  intro b j x
  unfold k_u
  split
  · exact hv x
  · exact h b j x
theorem k_u_ne {α : Type} {f : Nat → Int → α} {a b : Nat} {i j : Int} {v : α} (h : b ≠ a) : k_u f a i v b j = f b j := by
  unfold k_u
  rw [if_neg (fun q => h q.1)]
theorem k_u_ne2 {α : Type} {f : Nat → Int → α} {a b : Nat} {i j : Int} {v : α} (h : j ≠ i) : k_u f a i v b j = f b j := by
  unfold k_u
  rw [if_neg (fun q => h q.2)]
theorem k_u_self {α : Type} {f : Nat → Int → α} {a : Nat} {i : Int} {v : α} : k_u f a i v a i = v := by
  unfold k_u
  rw [if_pos ⟨rfl, rfl⟩]
theorem k_cell_cong {E : kEnv} {h h2 : kH} {b : Nat} (h0 : h2.1 = h.1) (h1 : ∀ j, h2.2.1 b j = h.2.1 b j) (h3 : ∀ j, h2.2.2 b j = h.2.2 b j) : k_cell E h2 b = k_cell E h b := by
  simp only [k_cell, h0, h1, h3, k_fv]
end
section
/-! rules of the inner machine: fields, arrays, returns -/
section KW3
variable {E : kEnv} {d mc ms : Nat} {M : kMd} {pc : Nat} {L : kLs} {S : List kV} {h : kH} {Q : Option kV → kH → Prop}
theorem kw_getI {idx ci k0 N a : Nat} {kz : Int} (hd : decode M.2.1 pc = .ok (.getfield idx, 3)) (q : k_fldr M.1.cls idx ci k0 N) (hm : h.1[a]? = some (ci, N)) (hf : k_fr ci k0 = false) (hz : (k0 : Int) = kz) (k : kW E d mc ms M (pc + 3) L (kI (h.2.1 a kz) :: S) h Q) : kW E d mc ms M pc L (kA a :: S) h Q := by
  intro p e R s mm args below meth c H ls locs cells slots QQ cx g1 g2 hl hS hH hR hV kk
  subst hz
  obtain ⟨C, T, q1, q2, q3, q4⟩ := q
  rw [List.map_cons, k_rvA hH hm]
  refine va_get (v := .int (Int32.ofInt (h.2.1 a k0))) cx.1 cx.2.1 cx.2.2.2.2.1 q2 cx.2.2.2.1 cx.2.2.2.2.2.2.1.1 hR.2 a (by rw [k_ws_at (k_lt hm), k_cell_o hm q1]) q1 k0 q3 (cx.2.2.2.2.1 _ q4) (fun _ z => z) ?_ hd ?_
  · rw [List.getElem?_map, List.getElem?_range q3]
    simp [k_fv, hf]
  · exact k p e R s mm args below meth c H ls locs cells slots QQ cx g1 g2 hl (k_consI (hH.1 a k0) (k_tl hS).2) hH hR hV kk
theorem kw_getR {idx ci k0 N a : Nat} {kz : Int} (hd : decode M.2.1 pc = .ok (.getfield idx, 3)) (q : k_fldr M.1.cls idx ci k0 N) (hm : h.1[a]? = some (ci, N)) (hf : k_fr ci k0 = true) (hz : (k0 : Int) = kz) {r : Option Nat} (hr : h.2.2 a kz = r) (k : kW E d mc ms M (pc + 3) L (kR r :: S) h Q) : kW E d mc ms M pc L (kA a :: S) h Q := by
  intro p e R s mm args below meth c H ls locs cells slots QQ cx g1 g2 hl hS hH hR hV kk
  subst hz
  subst hr
  obtain ⟨C, T, q1, q2, q3, q4⟩ := q
  have k2 := k p e R s mm args below meth c H ls locs cells slots QQ cx g1 g2 hl (k_cons (v := kR (h.2.2 a k0)) trivial (k_tl hS).2) hH hR hV kk
  rw [List.map_cons, k_rv_rf (fun x hx => hH.2.1 a k0 x hx)] at k2
  rw [List.map_cons, k_rvA hH hm]
  refine va_get (v := va_rf (k_rf E (h.2.2 a k0))) cx.1 cx.2.1 cx.2.2.2.2.1 q2 cx.2.2.2.1 cx.2.2.2.2.2.2.1.1 hR.2 a (by rw [k_ws_at (k_lt hm), k_cell_o hm q1]) q1 k0 q3 (cx.2.2.2.2.1 _ q4) (fun _ z => z) ?_ hd k2
  rw [List.getElem?_map, List.getElem?_range q3]
  simp [k_fv, hf]
theorem k_put_ws {E : kEnv} {h h2 : kH} {a ci N k0 : Nat} {q : vw_C} {v : Value} (hm : h.1[a]? = some (ci, N)) (hc : vwCl[ci]? = some q) (hk : k0 < N) (h0 : h2.1 = h.1) (hv : k_fv E h2 a ci k0 = v) (ho : ∀ j : Nat, j ≠ k0 → k_fv E h2 a ci j = k_fv E h a ci j) (hb : ∀ b : Nat, b ≠ a → k_cell E h2 b = k_cell E h b) :
    (k_ws E h).set a (kb E + a, .inr (ci, ((List.range N).map (fun k => k_fv E h a ci k)).set k0 v)) = k_ws E h2 := by
  refine k_ws_set h0 ?_ hb
  rw [k_cell_o (by rw [h0]; exact hm) hc]
  congr 2
  apply List.ext_getElem?
  intro i
  by_cases hi : i = k0
  · subst hi
    rw [List.getElem?_set_self (by simpa using hk), List.getElem?_map, List.getElem?_range hk]
    simp [hv]
  · rw [List.getElem?_set_ne (Ne.symm hi), List.getElem?_map, List.getElem?_map]
    cases hr : (List.range N)[i]? with
    | none => rfl
    | some x =>
      have : x = i := by
        have hlt := (List.getElem?_eq_some_iff.mp hr).1
        rw [List.getElem?_range (by simpa using hlt)] at hr
        exact (Option.some.inj hr).symm
      subst this
      simp [ho x hi]
theorem kw_putI {idx ci k0 N a : Nat} {fin : Bool} {kz z : Int} (hd : decode M.2.1 pc = .ok (.putfield idx, 3)) (q : k_fld M.1.cls idx ci k0 N fin) (hm : h.1[a]? = some (ci, N)) (hf : k_fr ci k0 = false) (hn : fin = true → M.1.name = "<init>") (hz : (k0 : Int) = kz) (k : kW E d mc ms M (pc + 3) L S (h.1, k_u h.2.1 a kz z, h.2.2) Q) : kW E d mc ms M pc L (kI z :: kA a :: S) h Q := by
  intro p e R s mm args below meth c H ls locs cells slots QQ cx g1 g2 hl hS hH hR hV kk
  subst hz
  obtain ⟨C, T, ty, q1, q2, q3, q4, q5, q6, q7, q8, q9, q10⟩ := q
  rw [List.map_cons, List.map_cons, k_rvA hH hm]
  have hzk : k_in z := (k_tl hS).1
  have hH2 : k_okH (kX E) (h.1, k_u h.2.1 a k0 z, h.2.2) := ⟨k_u_ok hH.1 hzk, hH.2⟩
  have hws : (k_ws E h).set a (kb E + a, .inr (ci, ((List.range N).map (fun k => k_fv E h a ci k)).set k0 (.int (Int32.ofInt z)))) = k_ws E (h.1, k_u h.2.1 a k0 z, h.2.2) := by
    refine k_put_ws hm q1 q3 rfl ?_ (fun j hj => ?_) (fun b hb => k_cell_cong rfl (fun j => k_u_ne hb) (fun j => rfl))
    · simp [k_fv, hf, k_u_self]
    · simp only [k_fv]
      rw [k_u_ne2 (by omega)]
  have go : ∀ (H1 : Heap) (locs1 : List Loc), va_P (kD E) vwCl ((k_ws E h).set a (kb E + a, .inr (ci, ((List.range N).map (fun k => k_fv E h a ci k)).set k0 (.int (Int32.ofInt z))))) H1 → H1.size = H.size → va_S (k_A E) s.heap H1 locs1 → W p (kl E) e R s mm args below meth c H1 locs1 cells slots QQ (F0 mm (pc + 3) ls (S.map (k_rv E))) := by
    intro H1 locs1 hP hsz hV1
    rw [hws] at hP
    exact k p e R s mm args below meth c H1 ls locs1 cells slots QQ cx g1 g2 hl (k_tl (k_tl hS).2).2 hH2 ⟨by rw [hsz]; exact hR.1, hP⟩ hV1 kk
  obtain ⟨r, h1, cell, w1, w2, w3, w4⟩ := hR.2 a _ (by rw [k_ws_at (k_lt hm), k_cell_o hm q1])
  have hr : r = (C, T, N) := Option.some.inj (h1.symm.trans q1)
  subst hr
  have he : (k_ws E h)[a]? = some (kb E + a, .inr (ci, (List.range N).map (fun k => k_fv E h a ci k))) := by rw [k_ws_at (k_lt hm), k_cell_o hm q1]
  have hts := cx.2.2.2.2.1
  have hK := cx.2.2.2.2.2.2.1.1
  have hap := va_apart (own := M.1.cls) hts q2 ty q5 q6 hK q1
  obtain ⟨hSl, hfc, kC, hkC, hkind⟩ := hK.1 ci _ q1
  obtain ⟨cf, kf, fi, f, hi, hsl⟩ := hSl k0 q3
  have hl9 : k0 < ((List.range N).map (fun k => k_fv E h a ci k)).length := by simpa using q3
  have hty0 := q7 hf
  have hlay := u_lays hts q2 q3
  have hst := (u_facts hfc hkC hlay hi).1
  have hparse : parseFieldDescriptor (T k0).2.2.1 = some .int := by rw [q5 k0 q3, hty0]
  cases fin with
  | false =>
    have hlay2 := hts _ (q2 _ (u_in_lay q3))
    unfold u_lay at hlay2
    rw [if_neg (by rw [q9]; decide)] at hlay2
    have h6 := u_store (v := .int (Int32.ofInt z)) hfc hkC hkind hlay2 hi hparse rfl rfl
    refine W.putK cx.1 cx.2.1 (f := f) ⟨cx.2.2.2.1, hts _ q4, ⟨_, _, _, hi⟩, hst⟩ (by rw [w2]; exact h6) w1 w3 (by rw [hsl]; exact k2_hasslot (w4 k0 q3)) rfl rfl hd fun H' e1 e2 e3 => ?_
    rw [hsl] at e1 ⊢
    exact go H' _ (hR.2.set k_wsD he ⟨_, q1, t_OB.to (V := updV (vp_V ((List.range N).map (fun k => k_fv E h a ci k))) k0 _) ⟨_, e1, w2, w3, t_set w4 hap q3 _⟩ (fun j _ => vp_updV_set hl9 _ j)⟩ e3) e2 (hV.put e2 e3 (by show kb E ≤ kb E + a; omega))
  | true =>
    have hdecl := q10 rfl
    have hown := cx.2.2.2.1
    have hlay2 := hts _ (q2 _ (u_in_lay q3))
    unfold u_lay at hlay2
    rw [if_pos q9] at hlay2
    have hcf : mm.cls = cf := by
      obtain ⟨_, _, c', _, _, _, -, -, hf', -, -, -, hown2, -⟩ := Cond.laysFinal_spec hlay2
      have e1 : c' = cf := by have := hi.symm.trans hf'; simp at this; exact this.1.symm
      rw [hdecl] at hown2
      rw [← e1]; exact Option.some.inj (hown.symm.trans hown2)
    have h6 := u_fits (v := .int (Int32.ofInt z)) hfc hkC hkind (Or.inr hlay2) hi hparse rfl rfl
    refine W.putFinK cx.1 cx.2.1 hown (hts _ q4) hi hst hcf (cx.2.2.2.2.2.1 (hn rfl)) (by rw [w2]; exact h6) w1 w3 (by rw [hsl]; exact k2_hasslot (w4 k0 q3)) rfl rfl hd fun H' e1 e2 e3 => ?_
    rw [hsl] at e1 ⊢
    exact go H' _ (hR.2.set k_wsD he ⟨_, q1, t_OB.to (V := updV (vp_V ((List.range N).map (fun k => k_fv E h a ci k))) k0 _) ⟨_, e1, w2, w3, t_set w4 hap q3 _⟩ (fun j _ => vp_updV_set hl9 _ j)⟩ e3) e2 (hV.put e2 e3 (by show kb E ≤ kb E + a; omega))
theorem kw_putR {idx ci k0 N a : Nat} {fin : Bool} {kz : Int} {b : Nat} (hd : decode M.2.1 pc = .ok (.putfield idx, 3)) (q : k_fld M.1.cls idx ci k0 N fin) (hm : h.1[a]? = some (ci, N)) (hf : k_fr ci k0 = true) (hb : b < 1000000) (hn : fin = true → M.1.name = "<init>") (hz : (k0 : Int) = kz) (k : kW E d mc ms M (pc + 3) L S (h.1, h.2.1, k_u h.2.2 a kz (some b)) Q) : kW E d mc ms M pc L (kA b :: kA a :: S) h Q := by
  intro p e R s mm args below meth c H ls locs cells slots QQ cx g1 g2 hl hS hH hR hV kk
  subst hz
  obtain ⟨C, T, ty, q1, q2, q3, q4, q5, q6, q7, q8, q9, q10⟩ := q
  have zb : k_rv E (kA b) = .ref (kb E + b) := if_pos hb
  rw [List.map_cons, List.map_cons, k_rvA hH hm, zb]
  have hH2 : k_okH (kX E) (h.1, h.2.1, k_u h.2.2 a k0 (some b)) := ⟨hH.1, k_u_okr hH.2.1 (fun x hx => by cases hx; exact hb), hH.2.2⟩
  have hws : (k_ws E h).set a (kb E + a, .inr (ci, ((List.range N).map (fun k => k_fv E h a ci k)).set k0 (.ref (kb E + b)))) = k_ws E (h.1, h.2.1, k_u h.2.2 a k0 (some b)) := by
    refine k_put_ws hm q1 q3 rfl ?_ (fun j hj => ?_) (fun b2 hb2 => k_cell_cong rfl (fun j => rfl) (fun j => k_u_ne hb2))
    · simp [k_fv, hf, k_u_self, k_rf, va_rf]
    · simp only [k_fv]
      rw [k_u_ne2 (by omega)]
  have go : ∀ (H1 : Heap) (locs1 : List Loc), va_P (kD E) vwCl ((k_ws E h).set a (kb E + a, .inr (ci, ((List.range N).map (fun k => k_fv E h a ci k)).set k0 (.ref (kb E + b))))) H1 → H1.size = H.size → va_S (k_A E) s.heap H1 locs1 → W p (kl E) e R s mm args below meth c H1 locs1 cells slots QQ (F0 mm (pc + 3) ls (S.map (k_rv E))) := by
    intro H1 locs1 hP hsz hV1
    rw [hws] at hP
    exact k p e R s mm args below meth c H1 ls locs1 cells slots QQ cx g1 g2 hl (k_tl (k_tl hS).2).2 hH2 ⟨by rw [hsz]; exact hR.1, hP⟩ hV1 kk
  obtain ⟨r, h1, cell, w1, w2, w3, w4⟩ := hR.2 a _ (by rw [k_ws_at (k_lt hm), k_cell_o hm q1])
  have hr : r = (C, T, N) := Option.some.inj (h1.symm.trans q1)
  subst hr
  have he : (k_ws E h)[a]? = some (kb E + a, .inr (ci, (List.range N).map (fun k => k_fv E h a ci k))) := by rw [k_ws_at (k_lt hm), k_cell_o hm q1]
  have hts := cx.2.2.2.2.1
  have hK := cx.2.2.2.2.2.2.1.1
  have hap := va_apart (own := M.1.cls) hts q2 ty q5 q6 hK q1
  obtain ⟨hSl, hfc, kC, hkC, hkind⟩ := hK.1 ci _ q1
  obtain ⟨cf, kf, fi, f, hi, hsl⟩ := hSl k0 q3
  have hl9 : k0 < ((List.range N).map (fun k => k_fv E h a ci k)).length := by simpa using q3
  have hty0 := q8 hf (.ref (kb E + b)) (Or.inr ⟨_, rfl⟩)
  have hlay := u_lays hts q2 q3
  have hst := (u_facts hfc hkC hlay hi).1
  have hparse := q5 k0 q3
  cases fin with
  | false =>
    have hlay2 := hts _ (q2 _ (u_in_lay q3))
    unfold u_lay at hlay2
    rw [if_neg (by rw [q9]; decide)] at hlay2
    have h6 := u_store (v := .ref (kb E + b)) hfc hkC hkind hlay2 hi hparse hty0.1 hty0.2
    refine W.putK cx.1 cx.2.1 (f := f) ⟨cx.2.2.2.1, hts _ q4, ⟨_, _, _, hi⟩, hst⟩ (by rw [w2]; exact h6) w1 w3 (by rw [hsl]; exact k2_hasslot (w4 k0 q3)) rfl rfl hd fun H' e1 e2 e3 => ?_
    rw [hsl] at e1 ⊢
    exact go H' _ (hR.2.set k_wsD he ⟨_, q1, t_OB.to (V := updV (vp_V ((List.range N).map (fun k => k_fv E h a ci k))) k0 _) ⟨_, e1, w2, w3, t_set w4 hap q3 _⟩ (fun j _ => vp_updV_set hl9 _ j)⟩ e3) e2 (hV.put e2 e3 (by show kb E ≤ kb E + a; omega))
  | true =>
    have hdecl := q10 rfl
    have hown := cx.2.2.2.1
    have hlay2 := hts _ (q2 _ (u_in_lay q3))
    unfold u_lay at hlay2
    rw [if_pos q9] at hlay2
    have hcf : mm.cls = cf := by
      obtain ⟨_, _, c', _, _, _, -, -, hf', -, -, -, hown2, -⟩ := Cond.laysFinal_spec hlay2
      have e1 : c' = cf := by have := hi.symm.trans hf'; simp at this; exact this.1.symm
      rw [hdecl] at hown2
      rw [← e1]; exact Option.some.inj (hown.symm.trans hown2)
    have h6 := u_fits (v := .ref (kb E + b)) hfc hkC hkind (Or.inr hlay2) hi hparse hty0.1 hty0.2
    refine W.putFinK cx.1 cx.2.1 hown (hts _ q4) hi hst hcf (cx.2.2.2.2.2.1 (hn rfl)) (by rw [w2]; exact h6) w1 w3 (by rw [hsl]; exact k2_hasslot (w4 k0 q3)) rfl rfl hd fun H' e1 e2 e3 => ?_
    rw [hsl] at e1 ⊢
    exact go H' _ (hR.2.set k_wsD he ⟨_, q1, t_OB.to (V := updV (vp_V ((List.range N).map (fun k => k_fv E h a ci k))) k0 _) ⟨_, e1, w2, w3, t_set w4 hap q3 _⟩ (fun j _ => vp_updV_set hl9 _ j)⟩ e3) e2 (hV.put e2 e3 (by show kb E ≤ kb E + a; omega))
end KW3
end
section
/-! rules of the inner machine: arrays, new cells, returns -/
theorem k_ty (E : kEnv) : (k_tys E)[0]? = some (kcI E, .int) ∧ (k_tys E)[1]? = some (kcC E, .char) ∧ (k_tys E)[2]? = some (kcS E, .object RX4) := ⟨rfl, rfl, rfl⟩
theorem k_cell_i {E : kEnv} {h : kH} {a n : Nat} (hm : h.1[a]? = some (100, n)) : k_cell E h a = .inl (kcI E, n, .inl (fun j : Nat => Int32.ofInt (h.2.1 a j))) := by
  simp only [k_cell, hm]; rfl
theorem k_cell_c {E : kEnv} {h : kH} {a n : Nat} (hm : h.1[a]? = some (101, n)) : k_cell E h a = .inl (kcC E, n, .inl (fun j : Nat => Int32.ofInt (h.2.1 a j))) := by
  simp only [k_cell, hm]; rfl
theorem k_cell_q {E : kEnv} {h : kH} {a n : Nat} (hm : h.1[a]? = some (102, n)) : k_cell E h a = .inl (kcS E, n, .inr (.inr (.inr (.inr (fun j : Nat => k_rf E (h.2.2 a j)))))) := by
  simp only [k_cell, hm]; rfl
theorem k_nat {i : Int} (h0 : 0 ≤ i) : ((i.toNat : Nat) : Int) = i := Int.toNat_of_nonneg h0
section KW4
variable {E : kEnv} {d mc ms : Nat} {M : kMd} {pc : Nat} {L : kLs} {S : List kV} {h : kH} {Q : Option kV → kH → Prop}
theorem kw_iald {a n : Nat} {i : Int} (hd : decode M.2.1 pc = .ok (.iaload, 1)) (hm : h.1[a]? = some (100, n)) (h0 : 0 ≤ i) (h1 : i < n) (k : kW E d mc ms M (pc + 1) L (kI (h.2.1 a i) :: S) h Q) : kW E d mc ms M pc L (kI i :: kA a :: S) h Q := by
  intro p e R s mm args below meth c H ls locs cells slots QQ cx g1 g2 hl hS hH hR hV kk
  have hi : k_in i := (k_tl hS).1
  have k2 := k p e R s mm args below meth c H ls locs cells slots QQ cx g1 g2 hl (k_consI (hH.1 a i) (k_tl (k_tl hS).2).2) hH hR hV kk
  rw [List.map_cons, List.map_cons, k_rvA hH hm]
  refine va_iald cx.1 cx.2.1 cx.2.2.2.2.2.2.1.1 hR.2 a 0 (by rw [k_ws_at (k_lt hm), k_cell_i hm]) (k_ty E).1 (k_vpin hi h0 h1) hd ?_
  show W _ _ _ _ _ _ _ _ _ _ _ _ _ _ _ (F0 mm (pc + 1) ls (.int (Int32.ofInt (h.2.1 a (((Int32.ofInt i).toNatClampNeg : Nat) : Int))) :: S.map (k_rv E)))
  rw [k_tc hi, k_nat h0]
  exact k2
theorem kw_cald {a n : Nat} {i : Int} (hd : decode M.2.1 pc = .ok (.caload, 1)) (hm : h.1[a]? = some (101, n)) (h0 : 0 ≤ i) (h1 : i < n) (k : kW E d mc ms M (pc + 1) L (kI (h.2.1 a i) :: S) h Q) : kW E d mc ms M pc L (kI i :: kA a :: S) h Q := by
  intro p e R s mm args below meth c H ls locs cells slots QQ cx g1 g2 hl hS hH hR hV kk
  have hi : k_in i := (k_tl hS).1
  have k2 := k p e R s mm args below meth c H ls locs cells slots QQ cx g1 g2 hl (k_consI (hH.1 a i) (k_tl (k_tl hS).2).2) hH hR hV kk
  rw [List.map_cons, List.map_cons, k_rvA hH hm]
  refine va_cald cx.1 cx.2.1 cx.2.2.2.2.2.2.1.1 hR.2 a 1 (by rw [k_ws_at (k_lt hm), k_cell_c hm]) (k_ty E).2.1 (k_vpin hi h0 h1) hd ?_
  show W _ _ _ _ _ _ _ _ _ _ _ _ _ _ _ (F0 mm (pc + 1) ls (.int (Int32.ofInt (h.2.1 a (((Int32.ofInt i).toNatClampNeg : Nat) : Int))) :: S.map (k_rv E)))
  rw [k_tc hi, k_nat h0]
  exact k2
theorem kw_aald {a n : Nat} {i : Int} {r : Option Nat} (hd : decode M.2.1 pc = .ok (.aaload, 1)) (hm : h.1[a]? = some (102, n)) (h0 : 0 ≤ i) (h1 : i < n) (hr : h.2.2 a i = r) (k : kW E d mc ms M (pc + 1) L (kR r :: S) h Q) : kW E d mc ms M pc L (kI i :: kA a :: S) h Q := by
  intro p e R s mm args below meth c H ls locs cells slots QQ cx g1 g2 hl hS hH hR hV kk
  subst hr
  have hi : k_in i := (k_tl hS).1
  have k2 := k p e R s mm args below meth c H ls locs cells slots QQ cx g1 g2 hl (k_cons (v := kR (h.2.2 a i)) trivial (k_tl (k_tl hS).2).2) hH hR hV kk
  rw [List.map_cons, k_rv_rf (fun x hx => hH.2.1 a i x hx)] at k2
  rw [List.map_cons, List.map_cons, k_rvA hH hm]
  refine va_aldq cx.1 cx.2.1 cx.2.2.2.2.2.2.1.1 hR.2 a 2 (by rw [k_ws_at (k_lt hm), k_cell_q hm]) (k_ty E).2.2 (k_vpin hi h0 h1) hd ?_
  show W _ _ _ _ _ _ _ _ _ _ _ _ _ _ _ (F0 mm (pc + 1) ls (va_rf (k_rf E (h.2.2 a (((Int32.ofInt i).toNatClampNeg : Nat) : Int))) :: S.map (k_rv E)))
  rw [k_tc hi, k_nat h0]
  exact k2
theorem kw_alen {a t n : Nat} (hd : decode M.2.1 pc = .ok (.arraylength, 1)) (hm : h.1[a]? = some (t, n)) (ht : t = 100 ∨ t = 101 ∨ t = 102) (k : kW E d mc ms M (pc + 1) L (kI n :: S) h Q) : kW E d mc ms M pc L (kA a :: S) h Q := by
  intro p e R s mm args below meth c H ls locs cells slots QQ cx g1 g2 hl hS hH hR hV kk
  have hn := hH.2.2.2.2.2 a t n hm
  have hz : k_in (n : Int) := ⟨by omega, by omega⟩
  have k2 := k p e R s mm args below meth c H ls locs cells slots QQ cx g1 g2 hl (k_consI hz (k_tl hS).2) hH hR hV kk
  have e1 : Int32.ofNat n = Int32.ofInt (n : Int) := Int32.ofInt_eq_ofNat.symm
  rw [List.map_cons, k_rvA hH hm]
  rcases ht with rfl | rfl | rfl
  · exact va_alen cx.1 cx.2.1 cx.2.2.2.2.2.2.1.1 hR.2 a 0 (x := (n, _)) (by rw [k_ws_at (k_lt hm), k_cell_i hm]) (k_ty E).1 e1 hd k2
  · exact va_alen cx.1 cx.2.1 cx.2.2.2.2.2.2.1.1 hR.2 a 1 (x := (n, _)) (by rw [k_ws_at (k_lt hm), k_cell_c hm]) (k_ty E).2.1 e1 hd k2
  · exact va_alen cx.1 cx.2.1 cx.2.2.2.2.2.2.1.1 hR.2 a 2 (x := (n, _)) (by rw [k_ws_at (k_lt hm), k_cell_q hm]) (k_ty E).2.2 e1 hd k2
/-- the fixed arrays: 0 LEAST, 1 MOST, 2 the script -/
theorem kw_ialdS {j : Nat} {i : Int} (hd : decode M.2.1 pc = .ok (.iaload, 1)) (hj : j < 3) (h0 : 0 ≤ i) (h1 : i < ((k_sta (kX E) j).1 : Int)) (hz : k_in ((k_sta (kX E) j).2 i.toNat)) (k : kW E d mc ms M (pc + 1) L (kI ((k_sta (kX E) j).2 i.toNat) :: S) h Q) : kW E d mc ms M pc L (kI i :: kA (1000000 + j) :: S) h Q := by
  intro p e R s mm args below meth c H ls locs cells slots QQ cx g1 g2 hl hS hH hR hV kk
  have hi : k_in i := (k_tl hS).1
  have k2 := k p e R s mm args below meth c H ls locs cells slots QQ cx g1 g2 hl (k_consI hz (k_tl (k_tl hS).2).2) hH hR hV kk
  obtain ⟨t, e1, e2⟩ := cx.2.2.2.2.2.2.1.2.1 j hj
  have z : k_rv E (kA (1000000 + j)) = .ref t := by
    show (if 1000000 + j < 1000000 then _ else _) = _
    rw [if_neg (by omega), show 1000000 + j - 1000000 = j by omega, e1]
  rw [List.map_cons, List.map_cons, z]
  exact va_ti cx.1 cx.2.1 e2 hV (k_vpin hi h0 h1) (by rw [k_tc hi]; rfl) hd k2
theorem kw_alenS {j : Nat} (hd : decode M.2.1 pc = .ok (.arraylength, 1)) (hj : j < 3) (hz : (k_sta (kX E) j).1 < 2147483648) (k : kW E d mc ms M (pc + 1) L (kI ((k_sta (kX E) j).1 : Int) :: S) h Q) : kW E d mc ms M pc L (kA (1000000 + j) :: S) h Q := by
  intro p e R s mm args below meth c H ls locs cells slots QQ cx g1 g2 hl hS hH hR hV kk
  have k2 := k p e R s mm args below meth c H ls locs cells slots QQ cx g1 g2 hl (k_consI ⟨by omega, by omega⟩ (k_tl hS).2) hH hR hV kk
  obtain ⟨t, e1, e2⟩ := cx.2.2.2.2.2.2.1.2.1 j hj
  have z : k_rv E (kA (1000000 + j)) = .ref t := by
    show (if 1000000 + j < 1000000 then _ else _) = _
    rw [if_neg (by omega), show 1000000 + j - 1000000 = j by omega, e1]
  rw [List.map_cons, z]
  exact va_tlen cx.1 cx.2.1 e2 hV Int32.ofInt_eq_ofNat.symm hd k2
theorem kw_iast {a n : Nat} {i x : Int} (hd : decode M.2.1 pc = .ok (.iastore, 1)) (hm : h.1[a]? = some (100, n)) (h0 : 0 ≤ i) (h1 : i < n) (k : kW E d mc ms M (pc + 1) L S (h.1, k_u h.2.1 a i x, h.2.2) Q) : kW E d mc ms M pc L (kI x :: kI i :: kA a :: S) h Q := by
  intro p e R s mm args below meth c H ls locs cells slots QQ cx g1 g2 hl hS hH hR hV kk
  have hx : k_in x := (k_tl hS).1
  have hi : k_in i := (k_tl (k_tl hS).2).1
  rw [List.map_cons, List.map_cons, List.map_cons, k_rvA hH hm]
  have he : (k_ws E h)[a]? = some (kb E + a, .inl (kcI E, n, .inl (fun j : Nat => Int32.ofInt (h.2.1 a j)))) := by rw [k_ws_at (k_lt hm), k_cell_i hm]
  have hc := hR.2 a _ he
  have hAr := (cx.2.2.2.2.2.2.1.1.2 0 _ (k_ty E).1).1
  refine W.iast cx.1 cx.2.1 hc (hAr n (fun j => .int (Int32.ofInt (h.2.1 a (j : Int))))) (fun q => by cases q) (by show ¬ (_ ∨ (arrV _ _ _).slots.size ≤ _); rw [arrV_size]; exact k_vpin hi h0 h1) rfl rfl hd fun H1 e1 e2 e3 => ?_
  have hP1 : va_P (kD E) vwCl ((k_ws E h).set a (kb E + a, .inl (kcI E, n, .inl (fun j : Nat => Int32.ofInt (k_u h.2.1 a i x a j))))) H1 := by
    refine hR.2.set k_wsD he ?_ e3
    show H1[kb E + a]? = some (vp_cell _ _)
    rw [e1]
    show some ((arrV _ _ _).setSlot _ _) = _
    rw [arrV_store, vp_cell_i]
    congr 2
    funext q
    rw [k_tc hi]
    unfold updV k_u
    by_cases hq : q = i.toNat
    · subst hq
      rw [if_pos rfl, if_pos ⟨rfl, k_nat h0⟩]; try rfl
    · rw [if_neg hq, if_neg (fun z => hq (by have := z.2; omega))]
  have hws := k_ws_set (E := E) (h := h) (h2 := (h.1, k_u h.2.1 a i x, h.2.2)) (a := a) rfl (k_cell_i (h := (h.1, k_u h.2.1 a i x, h.2.2)) hm) (fun b hb => k_cell_cong rfl (fun j => k_u_ne hb) (fun j => rfl))
  rw [show (k_ws E h).set a (kb E + a, .inl (kcI E, n, .inl (fun j : Nat => Int32.ofInt (k_u h.2.1 a i x a j)))) = k_ws E (h.1, k_u h.2.1 a i x, h.2.2) from hws] at hP1
  exact k p e R s mm args below meth c H1 ls _ cells slots QQ cx g1 g2 hl (k_tl (k_tl (k_tl hS).2).2).2 ⟨k_u_ok hH.1 hx, hH.2⟩ ⟨by rw [e2]; exact hR.1, hP1⟩ (hV.put e2 e3 (by show kb E ≤ kb E + a; omega)) kk
theorem kw_cast {a n : Nat} {i x : Int} (hd : decode M.2.1 pc = .ok (.castore, 1)) (hm : h.1[a]? = some (101, n)) (h0 : 0 ≤ i) (h1 : i < n) (hx0 : 0 ≤ x) (hx1 : x < 65536) (k : kW E d mc ms M (pc + 1) L S (h.1, k_u h.2.1 a i x, h.2.2) Q) : kW E d mc ms M pc L (kI x :: kI i :: kA a :: S) h Q := by
  intro p e R s mm args below meth c H ls locs cells slots QQ cx g1 g2 hl hS hH hR hV kk
  have hx : k_in x := (k_tl hS).1
  have hi : k_in i := (k_tl (k_tl hS).2).1
  rw [List.map_cons, List.map_cons, List.map_cons, k_rvA hH hm]
  have he : (k_ws E h)[a]? = some (kb E + a, .inl (kcC E, n, .inl (fun j : Nat => Int32.ofInt (h.2.1 a j)))) := by rw [k_ws_at (k_lt hm), k_cell_c hm]
  have hc := hR.2 a _ he
  have hAr := (cx.2.2.2.2.2.2.1.1.2 1 _ (k_ty E).2.1).1
  have hnar : narrow .char (.int (Int32.ofInt x)) = .int (Int32.ofInt x) := by
    obtain ⟨m, rfl⟩ := Int.eq_ofNat_of_zero_le hx0
    rw [Int32.ofInt_eq_ofNat]
    exact (pk_charN (q := m) (by omega)).1
  refine W.cast cx.1 cx.2.1 hc (hAr n (fun j => .int (Int32.ofInt (h.2.1 a (j : Int))))) (fun q => by cases q) (by show ¬ (_ ∨ (arrV _ _ _).slots.size ≤ _); rw [arrV_size]; exact k_vpin hi h0 h1) rfl rfl hd fun H1 e1 e2 e3 => ?_
  rw [show k_rv E (kI x) = .int (Int32.ofInt x) from rfl] at *
  rw [hnar] at e1
  have hP1 : va_P (kD E) vwCl ((k_ws E h).set a (kb E + a, .inl (kcC E, n, .inl (fun j : Nat => Int32.ofInt (k_u h.2.1 a i x a j))))) H1 := by
    refine hR.2.set k_wsD he ?_ e3
    show H1[kb E + a]? = some (vp_cell _ _)
    rw [e1]
    show some ((arrV _ _ _).setSlot _ _) = _
    rw [arrV_store, vp_cell_i]
    congr 2
    funext q
    rw [k_tc hi]
    unfold updV k_u
    by_cases hq : q = i.toNat
    · subst hq
      rw [if_pos rfl, if_pos ⟨rfl, k_nat h0⟩]
    · rw [if_neg hq, if_neg (fun z => hq (by have := z.2; omega))]
  have hws := k_ws_set (E := E) (h := h) (h2 := (h.1, k_u h.2.1 a i x, h.2.2)) (a := a) rfl (k_cell_c (h := (h.1, k_u h.2.1 a i x, h.2.2)) hm) (fun b hb => k_cell_cong rfl (fun j => k_u_ne hb) (fun j => rfl))
  rw [show (k_ws E h).set a (kb E + a, .inl (kcC E, n, .inl (fun j : Nat => Int32.ofInt (k_u h.2.1 a i x a j)))) = k_ws E (h.1, k_u h.2.1 a i x, h.2.2) from hws] at hP1
  exact k p e R s mm args below meth c H1 ls _ cells slots QQ cx g1 g2 hl (k_tl (k_tl (k_tl hS).2).2).2 ⟨k_u_ok hH.1 hx, hH.2⟩ ⟨by rw [e2]; exact hR.1, hP1⟩ (hV.put e2 e3 (by show kb E ≤ kb E + a; omega)) kk
theorem kw_aast {a n b : Nat} {i : Int} (hd : decode M.2.1 pc = .ok (.aastore, 1)) (hm : h.1[a]? = some (102, n)) (hb : h.1[b]? = some (4, 3)) (h0 : 0 ≤ i) (h1 : i < n) (k : kW E d mc ms M (pc + 1) L S (h.1, h.2.1, k_u h.2.2 a i (some b)) Q) : kW E d mc ms M pc L (kA b :: kI i :: kA a :: S) h Q := by
  intro p e R s mm args below meth c H ls locs cells slots QQ cx g1 g2 hl hS hH hR hV kk
  have hi : k_in i := (k_tl (k_tl hS).2).1
  rw [List.map_cons, List.map_cons, List.map_cons, k_rvA hH hm, k_rvA hH hb]
  have he : (k_ws E h)[a]? = some (kb E + a, .inl (kcS E, n, .inr (.inr (.inr (.inr (fun j : Nat => k_rf E (h.2.2 a j))))))) := by rw [k_ws_at (k_lt hm), k_cell_q hm]
  have hc := hR.2 a _ he
  have hK := cx.2.2.2.2.2.2.1.1
  have hAr := (hK.2 2 _ (k_ty E).2.2).1
  obtain ⟨kA2, comp, k1, k2, k3, -⟩ := (hK.2 2 _ (k_ty E).2.2).2
  obtain ⟨r', hr', cellV, u1, u2, u3, -⟩ := hR.2 b _ (by rw [k_ws_at (k_lt hb), k_cell_o hb (q := (RX4, TX4, 3)) rfl])
  have hcls := (hK.1 4 (RX4, TX4, 3) rfl).2
  have hcomp : comp = (kD E).1 4 := Option.some.inj (k3.symm.trans hcls.1)
  subst hcomp
  obtain ⟨kC, hkC, -⟩ := hcls.2
  have hvp := k_vpin hi h0 h1
  refine W.aast cx.1 cx.2.1 hc (fun q h => by cases h) (fun h => by cases h) k1 k2 rfl hkC ⟨fun q => hvp (Or.inl q), by show _ < (arrV _ _ _).slots.size; rw [arrV_size]; exact Nat.not_le.mp fun q => hvp (Or.inr q)⟩ u1 (fun q h => by rw [u3] at h; cases h) (by rw [u2]; exact hkC) (by rw [u2]; exact va_assign hcls) rfl rfl hd fun H1 e1 e2 e3 => ?_
  have hP1 : va_P (kD E) vwCl ((k_ws E h).set a (kb E + a, .inl (kcS E, n, .inr (.inr (.inr (.inr (fun j : Nat => k_rf E (k_u h.2.2 a i (some b) a j)))))))) H1 := by
    refine hR.2.set k_wsD he ?_ e3
    show H1[kb E + a]? = some (vp_cell _ _)
    rw [e1]
    show some ((arrV _ _ _).setSlot _ _) = _
    rw [arrV_store, vp_cell_q]
    congr 2
    funext q
    rw [k_tc hi]
    unfold updV k_u
    by_cases hq : q = i.toNat
    · subst hq
      rw [if_pos rfl, if_pos ⟨rfl, k_nat h0⟩]; try rfl
    · rw [if_neg hq, if_neg (fun z => hq (by have := z.2; omega))]
  have hws := k_ws_set (E := E) (h := h) (h2 := (h.1, h.2.1, k_u h.2.2 a i (some b))) (a := a) rfl (k_cell_q (h := (h.1, h.2.1, k_u h.2.2 a i (some b))) hm) (fun b2 hb2 => k_cell_cong rfl (fun j => rfl) (fun j => k_u_ne hb2))
  rw [show (k_ws E h).set a (kb E + a, .inl (kcS E, n, .inr (.inr (.inr (.inr (fun j : Nat => k_rf E (k_u h.2.2 a i (some b) a j))))))) = k_ws E (h.1, h.2.1, k_u h.2.2 a i (some b)) from hws] at hP1
  exact k p e R s mm args below meth c H1 ls _ cells slots QQ cx g1 g2 hl (k_tl (k_tl (k_tl hS).2).2).2 ⟨hH.1, k_u_okr hH.2.1 (fun x hx => by cases hx; exact Nat.lt_trans (k_lt hb) hH.2.2.1), hH.2.2⟩ ⟨by rw [e2]; exact hR.1, hP1⟩ (hV.put e2 e3 (by show kb E ≤ kb E + a; omega)) kk
/-- returns -/
theorem kw_iret {z : Int} {ty : FieldType} (hd : decode M.2.1 pc = .ok (.ireturn, 1)) (hr : M.2.2.2 = some ty) (hn : narrow ty (.int (Int32.ofInt z)) = .int (Int32.ofInt z)) (hq : Q (some (kI z)) h) : kW E d mc ms M pc L [kI z] h Q := by
  intro p e R s mm args below meth c H ls locs cells slots QQ cx g1 g2 hl hS hH hR hV kk
  exact kk ls [kI z] pc h H locs cells slots (some (kI z)) (Or.inl ⟨z, ty, rfl, rfl, hd, hr, hn⟩) hq hS hH hR hV (by omega) (by omega)
theorem kw_ret (hd : decode M.2.1 pc = .ok (.return_, 1)) (hr : M.2.2.2 = none) (hq : Q none h) : kW E d mc ms M pc L [] h Q := by
  intro p e R s mm args below meth c H ls locs cells slots QQ cx g1 g2 hl hS hH hR hV kk
  exact kk ls [] pc h H locs cells slots none (Or.inr ⟨rfl, rfl, hd, hr⟩) hq hS hH hR hV (by omega) (by omega)
end KW4
end
section
/-! rules of the inner machine: cells that are made, the JDK's small members -/
theorem k_ws_push {E : kEnv} {h h2 : kH} {x : Nat × Nat} (hm : h2.1 = h.1 ++ [x]) (ho : ∀ b : Nat, b < h.1.length → k_cell E h2 b = k_cell E h b) : k_ws E h2 = k_ws E h ++ [(kb E + h.1.length, k_cell E h2 h.1.length)] := by
  unfold k_ws
  rw [hm, List.length_append, List.length_singleton, List.range_succ, List.map_append]
  congr 1
  refine List.map_congr_left (fun b hb => ?_)
  rw [ho b (List.mem_range.mp hb)]
/-- the numbers, the references of a cell a that is new -/
def k_zi (f : Nat → Int → Int) (a : Nat) : Nat → Int → Int := fun b j => if b = a then 0 else f b j
def k_zr (f : Nat → Int → Option Nat) (a : Nat) : Nat → Int → Option Nat := fun b j => if b = a then none else f b j
def k_new (h : kH) (x : Nat × Nat) : kH := (h.1 ++ [x], k_zi h.2.1 h.1.length, k_zr h.2.2 h.1.length)
theorem k_new_cell {E : kEnv} {h : kH} {x : Nat × Nat} {b : Nat} (hb : b < h.1.length) : k_cell E (k_new h x) b = k_cell E h b := by
  have h0 : (k_new h x).1[b]? = h.1[b]? := List.getElem?_append_left hb
  have h1 : ∀ j, (k_new h x).2.1 b j = h.2.1 b j := fun j => if_neg (by omega)
  have h3 : ∀ j, (k_new h x).2.2 b j = h.2.2 b j := fun j => if_neg (by omega)
  simp only [k_cell, h0, h1, h3, k_fv]
theorem k_new_ok {X : Nat × (Nat → Int)} {h : kH} {x : Nat × Nat} (hH : k_okH X h) (hl : h.1.length < 999999) (hx : x.2 < 2147483648) : k_okH X (k_new h x) := by
  refine ⟨fun a i => ?_, fun a i y hy => ?_, by show (h.1 ++ [x]).length < _; rw [List.length_append, List.length_singleton]; omega, hH.2.2.2.1, hH.2.2.2.2.1, fun a t n hn => ?_⟩
  · show k_in (if a = h.1.length then 0 else h.2.1 a i)
    split
    · exact k_in0
    · exact hH.1 a i
  · have hy : (if a = h.1.length then none else h.2.2 a i) = some y := hy
    split at hy
    · cases hy
    · exact hH.2.1 a i y hy
  · have hn : (h.1 ++ [x])[a]? = some (t, n) := hn
    by_cases ha : a < h.1.length
    · rw [List.getElem?_append_left ha] at hn
      exact hH.2.2.2.2.2 a t n hn
    · rw [List.getElem?_append_right (by omega)] at hn
      have := (List.getElem?_eq_some_iff.mp hn).1
      rw [show a - h.1.length = 0 by simp at this; omega] at hn
      cases hn
      exact hx
theorem k_new_at {h : kH} {x : Nat × Nat} : (k_new h x).1[h.1.length]? = some x := by
  show (h.1 ++ [x])[h.1.length]? = _
  rw [List.getElem?_append_right (Nat.le_refl _), Nat.sub_self]
  rfl
/-- a class that can be made -/
def k_mk (own : String) (idx ci N : Nat) : Prop := ∃ (C : String) (T : u_T) (ty : Nat → FieldType), vwCl[ci]? = some (C, T, N) ∧ (∀ w ∈ u_ws C T N, w ∈ k_KT) ∧ Cond.classLink own idx C ∈ k_KT ∧ Cond.instantiable C N ∈ k_KT ∧ Cond.initialized C ∈ k_KT ∧ (∀ j, j < N → parseFieldDescriptor (T j).2.2.1 = some (ty j)) ∧ (∀ j, j < N → defaultValue (ty j) = if k_fr ci j = true then .null else .int 0) ∧ N < 100
theorem k_rfz (E : kEnv) : va_rf (k_rf E none) = .null := rfl
section KW5
variable {E : kEnv} {d mc ms : Nat} {M : kMd} {pc : Nat} {L : kLs} {S : List kV} {h : kH} {Q : Option kV → kH → Prop}
theorem kw_new {idx ci N a mc2 ms2 : Nat} (hd : decode M.2.1 pc = .ok (.new idx, 3)) (q : k_mk M.1.cls idx ci N) (ha : h.1.length = a) (hl : a < 999999) (hmc : mc2 + 1 ≤ mc) (hms : ms2 + N ≤ ms) (k : kW E d mc2 ms2 M (pc + 3) L (kA a :: S) (k_new h (ci, N)) Q) : kW E d mc ms M pc L S h Q := by
  intro p e R s mm args below meth c H ls locs cells slots QQ cx g1 g2 hlr hS hH hR hV kk
  subst ha
  obtain ⟨C, T, ty, q1, q2, q3, q4, q5, q6, q7, q8⟩ := q
  have hts := cx.2.2.2.2.1
  have hK := cx.2.2.2.2.2.2.1.1
  have hKn := hK.1 ci _ q1
  have z : k_rv E (kA h.1.length) = .ref H.size := by rw [hR.1]; exact if_pos (by omega)
  refine W.newcK cx.1 cx.2.1 cx.2.2.2.1 (hts _ q3) (hts _ q4) (hts _ q5) rfl hd (by omega) (by omega) hKn.2.1 rfl fun H1 kC hkC e1 z1 o1 => ?_
  have hk : ∀ (k : Nat) (x : Nat × va_E), (k_ws E h)[k]? = some x → H1[x.1]? = H[x.1]? := fun k x hx => o1 x.1 ((hR.2 k x hx).lt)
  have hcell : k_cell E (k_new h (ci, N)) h.1.length = .inr (ci, (List.range N).map (fun k => k_fv E (k_new h (ci, N)) h.1.length ci k)) := k_cell_o k_new_at q1
  have hP1 : va_P (kD E) vwCl (k_ws E (k_new h (ci, N))) H1 := by
    rw [k_ws_push (x := (ci, N)) rfl (fun b hb => k_new_cell hb)]
    refine (hR.2.kept hk).app (fun k x hx => ?_)
    have hz : k < 1 := (List.getElem?_eq_some_iff.mp hx).1
    rw [show k = 0 by omega] at hx
    cases hx
    rw [hcell, ← hR.1]
    refine ⟨_, q1, (u_born ty hts q2 hKn hkC e1 q6).to fun j hj => ?_⟩
    rw [q7 j hj]
    have hget : ((List.range N).map (fun k => k_fv E (k_new h (ci, N)) h.1.length ci k))[j]? = some (k_fv E (k_new h (ci, N)) h.1.length ci j) := by
      rw [List.getElem?_map, List.getElem?_range hj]; rfl
    simp only [vp_V, List.getD_eq_getElem?_getD, hget, Option.getD_some]
    have r1 : (k_new h (ci, N)).2.2 h.1.length j = none := if_pos rfl
    have r2 : (k_new h (ci, N)).2.1 h.1.length j = 0 := if_pos rfl
    simp only [k_fv, r1, r2]
    split <;> rfl
  have k2 := k p e R s mm args below meth c H1 ls locs (cells + 1) (slots + N) QQ cx (by omega) (by omega) hlr (k_cons (v := kA h.1.length) trivial hS) (k_new_ok hH hl (by show N < _; omega)) ⟨by rw [z1, hR.1]; show _ = _ + (h.1 ++ [(ci, N)]).length; rw [List.length_append, List.length_singleton]; omega, hP1⟩ ⟨Nat.le_trans hV.1 (by omega), fun x h1 h2 => (o1 x (Nat.lt_of_lt_of_le h1 hV.1)).trans (hV.2.1 x h1 h2), hV.2.2⟩
    (fun ls2 S2 pc2 h2 H2 locs2 cells2 slots2 r a1 a2 a3 a4 a5 a6 a7 a8 => kk ls2 S2 pc2 h2 H2 locs2 cells2 slots2 r a1 a2 a3 a4 a5 a6 (by omega) (by omega))
  rw [List.map_cons, z] at k2
  exact k2
theorem kw_newI {n : Int} {a mc2 ms2 : Nat} (hd : decode M.2.1 pc = .ok (.newarray .int, 2)) (h0 : 0 ≤ n) (h1 : n ≤ 1000) (ha : h.1.length = a) (hl : a < 999999) (hmc : mc2 + 1 ≤ mc) (hms : ms2 + n.toNat ≤ ms) (k : kW E d mc2 ms2 M (pc + 2) L (kA a :: S) (k_new h (100, n.toNat)) Q) : kW E d mc ms M pc L (kI n :: S) h Q := by
  intro p e R s mm args below meth c H ls locs cells slots QQ cx g1 g2 hlr hS hH hR hV kk
  subst ha
  have hts := cx.2.2.2.2.1
  have hK := cx.2.2.2.2.2.2.1.1
  have hn : k_in n := (k_tl hS).1
  have z : k_rv E (kA h.1.length) = .ref H.size := by rw [hR.1]; exact if_pos (by omega)
  refine va_newaK (atype := .int) (g := F0 mm pc ls (.int (Int32.ofInt n) :: S.map (k_rv E))) cx.1 cx.2.1 (hts _ ac_int) rfl hd rfl (fun q => (k_vpin hn h0 (n := n.toNat + 1) (by omega)) (Or.inl q)) (k_tc hn) (Nat.le_trans (Nat.mul_le_mul_right _ (show n.toNat ≤ 1000 by omega)) (by decide)) (by omega) (by omega) rfl fun H1 cA e1 z1 o1 hAr hNm => ?_
  have hcA : cA = kcI E := Option.some.inj (hNm.symm.trans (hK.2 0 _ (k_ty E).1).2)
  subst hcA
  have hk : ∀ (k : Nat) (x : Nat × va_E), (k_ws E h)[k]? = some x → H1[x.1]? = H[x.1]? := fun k x hx => o1 x.1 ((hR.2 k x hx).lt)
  have hP1 : va_P (kD E) vwCl (k_ws E (k_new h (100, n.toNat))) H1 := by
    rw [k_ws_push (x := (100, n.toNat)) rfl (fun b hb => k_new_cell hb)]
    refine (hR.2.kept hk).app (fun k x hx => ?_)
    have hz : k < 1 := (List.getElem?_eq_some_iff.mp hx).1
    rw [show k = 0 by omega] at hx
    cases hx
    rw [k_cell_i k_new_at, ← hR.1]
    show H1[H.size]? = some (vp_cell _ _)
    rw [e1, vp_cell_i]
    congr 2
    funext j
    have r2 : (k_new h (100, n.toNat)).2.1 h.1.length j = 0 := if_pos rfl
    rw [r2]; rfl
  have k2 := k p e R s mm args below meth c H1 ls locs (cells + 1) (slots + n.toNat) QQ cx (by omega) (by omega) hlr (k_cons (v := kA h.1.length) trivial (k_tl hS).2) (k_new_ok hH hl (by show n.toNat < _; omega)) ⟨by rw [z1, hR.1]; show _ = _ + (h.1 ++ [(100, n.toNat)]).length; rw [List.length_append, List.length_singleton]; omega, hP1⟩ ⟨Nat.le_trans hV.1 (by omega), fun x h1 h2 => (o1 x (Nat.lt_of_lt_of_le h1 hV.1)).trans (hV.2.1 x h1 h2), hV.2.2⟩
    (fun ls2 S2 pc2 h2 H2 locs2 cells2 slots2 r a1 a2 a3 a4 a5 a6 a7 a8 => kk ls2 S2 pc2 h2 H2 locs2 cells2 slots2 r a1 a2 a3 a4 a5 a6 (by omega) (by omega))
  rw [List.map_cons, z] at k2
  exact k2
theorem kw_newC {n : Int} {a mc2 ms2 : Nat} (hd : decode M.2.1 pc = .ok (.newarray .char, 2)) (h0 : 0 ≤ n) (h1 : n ≤ 1000) (ha : h.1.length = a) (hl : a < 999999) (hmc : mc2 + 1 ≤ mc) (hms : ms2 + n.toNat ≤ ms) (k : kW E d mc2 ms2 M (pc + 2) L (kA a :: S) (k_new h (101, n.toNat)) Q) : kW E d mc ms M pc L (kI n :: S) h Q := by
  intro p e R s mm args below meth c H ls locs cells slots QQ cx g1 g2 hlr hS hH hR hV kk
  subst ha
  have hts := cx.2.2.2.2.1
  have hK := cx.2.2.2.2.2.2.1.1
  have hn : k_in n := (k_tl hS).1
  have z : k_rv E (kA h.1.length) = .ref H.size := by rw [hR.1]; exact if_pos (by omega)
  refine va_newaK (atype := .char) (g := F0 mm pc ls (.int (Int32.ofInt n) :: S.map (k_rv E))) cx.1 cx.2.1 (hts _ ac_char) rfl hd rfl (fun q => (k_vpin hn h0 (n := n.toNat + 1) (by omega)) (Or.inl q)) (k_tc hn) (Nat.le_trans (Nat.mul_le_mul_right _ (show n.toNat ≤ 1000 by omega)) (by decide)) (by omega) (by omega) rfl fun H1 cA e1 z1 o1 hAr hNm => ?_
  have hcA : cA = kcC E := Option.some.inj (hNm.symm.trans (hK.2 1 _ (k_ty E).2.1).2)
  subst hcA
  have hk : ∀ (k : Nat) (x : Nat × va_E), (k_ws E h)[k]? = some x → H1[x.1]? = H[x.1]? := fun k x hx => o1 x.1 ((hR.2 k x hx).lt)
  have hP1 : va_P (kD E) vwCl (k_ws E (k_new h (101, n.toNat))) H1 := by
    rw [k_ws_push (x := (101, n.toNat)) rfl (fun b hb => k_new_cell hb)]
    refine (hR.2.kept hk).app (fun k x hx => ?_)
    have hz : k < 1 := (List.getElem?_eq_some_iff.mp hx).1
    rw [show k = 0 by omega] at hx
    cases hx
    rw [k_cell_c k_new_at, ← hR.1]
    show H1[H.size]? = some (vp_cell _ _)
    rw [e1, vp_cell_i]
    congr 2
    funext j
    have r2 : (k_new h (101, n.toNat)).2.1 h.1.length j = 0 := if_pos rfl
    rw [r2]; rfl
  have k2 := k p e R s mm args below meth c H1 ls locs (cells + 1) (slots + n.toNat) QQ cx (by omega) (by omega) hlr (k_cons (v := kA h.1.length) trivial (k_tl hS).2) (k_new_ok hH hl (by show n.toNat < _; omega)) ⟨by rw [z1, hR.1]; show _ = _ + (h.1 ++ [(101, n.toNat)]).length; rw [List.length_append, List.length_singleton]; omega, hP1⟩ ⟨Nat.le_trans hV.1 (by omega), fun x h1 h2 => (o1 x (Nat.lt_of_lt_of_le h1 hV.1)).trans (hV.2.1 x h1 h2), hV.2.2⟩
    (fun ls2 S2 pc2 h2 H2 locs2 cells2 slots2 r a1 a2 a3 a4 a5 a6 a7 a8 => kk ls2 S2 pc2 h2 H2 locs2 cells2 slots2 r a1 a2 a3 a4 a5 a6 (by omega) (by omega))
  rw [List.map_cons, z] at k2
  exact k2
theorem kw_newQ {idx : Nat} {n : Int} {a mc2 ms2 : Nat} (hd : decode M.2.1 pc = .ok (.anewarray idx, 3)) (hw : Cond.classLink M.1.cls idx RX4 ∈ k_KT) (h0 : 0 ≤ n) (h1 : n ≤ 1000) (ha : h.1.length = a) (hl : a < 999999) (hmc : mc2 + 1 ≤ mc) (hms : ms2 + n.toNat ≤ ms) (k : kW E d mc2 ms2 M (pc + 3) L (kA a :: S) (k_new h (102, n.toNat)) Q) : kW E d mc ms M pc L (kI n :: S) h Q := by
  intro p e R s mm args below meth c H ls locs cells slots QQ cx g1 g2 hlr hS hH hR hV kk
  subst ha
  have hts := cx.2.2.2.2.1
  have hK := cx.2.2.2.2.2.2.1.1
  have hst := cx.2.2.2.2.2.2.1
  have hn : k_in n := (k_tl hS).1
  have z : k_rv E (kA h.1.length) = .ref H.size := by rw [hR.1]; exact if_pos (by omega)
  have hcl := k_tc hn
  refine W.anew (g := F0 mm pc ls (.int (Int32.ofInt n) :: S.map (k_rv E))) cx.1 cx.2.1 cx.2.2.2.1 (hts _ hw) (va_AO.use hst.2.2.2.2.2.2.2.2.2) rfl hd rfl (fun q => (k_vpin hn h0 (n := n.toNat + 1) (by omega)) (Or.inl q)) (by rw [hcl]; omega) (by omega) (by rw [hcl]; omega) fun cA kA2 comp f1 f2 f3 f4 => ?_
  rw [hcl]
  have hcA : cA = kcS E := by
    obtain ⟨_, _, _, _, _, w⟩ := (hK.2 2 _ (k_ty E).2.2).2
    exact Option.some.inj (f1.symm.trans w)
  subst hcA
  generalize hH1 : H.push ({ cls := kcS E, slots := Array.replicate n.toNat .null, vm := .none } : Cell) = H1
  have z1 : H1.size = H.size + 1 := by rw [← hH1, Array.size_push]
  have e1 : H1[H.size]? = some (arrV (kcS E) n.toNat (fun _ => .null)) := by rw [← hH1, Array.getElem?_push_size, ← arrV_new]
  have o1 : ∀ q : Nat, q < H.size → H1[q]? = H[q]? := fun q hq => by rw [← hH1, Array.getElem?_push, if_neg (Nat.ne_of_lt hq)]
  have hk : ∀ (k : Nat) (x : Nat × va_E), (k_ws E h)[k]? = some x → H1[x.1]? = H[x.1]? := fun k x hx => o1 x.1 ((hR.2 k x hx).lt)
  have hP1 : va_P (kD E) vwCl (k_ws E (k_new h (102, n.toNat))) H1 := by
    rw [k_ws_push (x := (102, n.toNat)) rfl (fun b hb => k_new_cell hb)]
    refine (hR.2.kept hk).app (fun k x hx => ?_)
    have hz : k < 1 := (List.getElem?_eq_some_iff.mp hx).1
    rw [show k = 0 by omega] at hx
    cases hx
    rw [k_cell_q k_new_at, ← hR.1]
    show H1[H.size]? = some (vp_cell _ _)
    rw [e1, vp_cell_q]
    congr 2
    funext j
    have r2 : (k_new h (102, n.toNat)).2.2 h.1.length j = none := if_pos rfl
    rw [r2]; rfl
  have k2 := k p e R s mm args below meth c H1 ls locs (cells + 1) (slots + n.toNat) QQ cx (by omega) (by omega) hlr (k_cons (v := kA h.1.length) trivial (k_tl hS).2) (k_new_ok hH hl (by show n.toNat < _; omega)) ⟨by rw [z1, hR.1]; show _ = _ + (h.1 ++ [(102, n.toNat)]).length; rw [List.length_append, List.length_singleton]; omega, hP1⟩ ⟨Nat.le_trans hV.1 (by omega), fun x h1 h2 => (o1 x (Nat.lt_of_lt_of_le h1 hV.1)).trans (hV.2.1 x h1 h2), hV.2.2⟩
    (fun ls2 S2 pc2 h2 H2 locs2 cells2 slots2 r a1 a2 a3 a4 a5 a6 a7 a8 => kk ls2 S2 pc2 h2 H2 locs2 cells2 slots2 r a1 a2 a3 a4 a5 a6 (by omega) (by omega))
  rw [List.map_cons, z] at k2
  exact k2
theorem k_sum (E : kEnv) {s : State} (hs : k_stat E s) (S : List kV) : ((S.map (k_rv E)).map fun v => v.category).sum = (S.map k_wd).sum := by
  induction S with
  | nil => rfl
  | cons v S ih =>
    simp only [List.map_cons, List.sum_cons, ih]
    congr 1
    rcases v with z | z | r
    · rfl
    · rfl
    · exact k_cat hs (v := kR r) trivial
theorem kw_objInit {idx a : Nat} (hd : decode M.2.1 pc = .ok (.invokespecial idx, 3)) (hw : Cond.methodLink M.1.cls idx objectInit ∈ k_KT) (ha : a < 1000000) (hwd : (S.map k_wd).sum ≤ 8) (hd1 : 1 ≤ d) (k : kW E d mc ms M (pc + 3) L S h Q) : kW E d mc ms M pc L (kA a :: S) h Q := by
  intro p e R s mm args below meth c H ls locs cells slots QQ cx g1 g2 hl hS hH hR hV kk
  have z : k_rv E (kA a) = .ref (kb E + a) := if_pos ha
  have hts := cx.2.2.2.2.1
  have k2 := k p e R s mm args below meth c H ls locs cells slots QQ cx g1 g2 hl (k_tl hS).2 hH hR hV kk
  rw [List.map_cons, z]
  refine W.objInit cx.1 cx.2.1 cx.2.2.2.1 (hts _ hw) (hts _ im_obj) (hts _ co_obj) rfl (by rw [cx.2.2.1]; exact hl.1) rfl hd (by have := cx.2.2.2.2.2.2.2.1; omega) ?_ ?_
  · rw [k_sum E cx.2.2.2.2.2.2.1]
    have := cx.2.2.2.2.2.2.2.2.1
    show 2 * 0 + _ + 12 ≤ _
    omega
  · exact W.eq (g2 := F0 mm (pc + 3) ls (S.map (k_rv E))) rfl k2
theorem kw_max {idx : Nat} {x y : Int} (hd : decode M.2.1 pc = .ok (.invokestatic idx, 3)) (hw : Cond.methodLink M.1.cls idx Lib.Math.max.name ∈ k_KT) (hwd : (S.map k_wd).sum ≤ 8) (hd1 : 1 ≤ d) (k : kW E d mc ms M (pc + 3) L (kI (if x < y then y else x) :: S) h Q) : kW E d mc ms M pc L (kI y :: kI x :: S) h Q := by
  intro p e R s mm args below meth c H ls locs cells slots QQ cx g1 g2 hl hS hH hR hV kk
  have hts := cx.2.2.2.2.1
  have hy : k_in y := (k_tl hS).1
  have hx : k_in x := (k_tl (k_tl hS).2).1
  have k2 := k p e R s mm args below meth c H ls locs cells slots QQ cx g1 g2 hl (k_consI (by split <;> assumption) (k_tl (k_tl hS).2).2) hH hR hV kk
  refine va_mmax cx.1 cx.2.1 (by rw [cx.2.2.1]; exact hl.1.symm) cx.2.2.2.1 (hts _ hw) (hts _ st_mmax) (hts _ in_J9) (hts _ co_mmax) (by have := cx.2.2.2.2.2.2.2.1; omega) ?_ (by omega) (by omega) hd ?_
  · rw [k_sum E cx.2.2.2.2.2.2.1]
    have := cx.2.2.2.2.2.2.2.2.1
    omega
  · have e1 : (if Int32.ofInt x < Int32.ofInt y then Int32.ofInt y else Int32.ofInt x) = Int32.ofInt (if x < y then y else x) := by
      by_cases hh : x < y
      · rw [if_pos hh, if_pos ((k_lti hx hy).mpr hh)]
      · rw [if_neg hh, if_neg (fun q => hh ((k_lti hx hy).mp q))]
    rw [e1]
    exact k2
theorem kw_min {idx : Nat} {x y : Int} (hd : decode M.2.1 pc = .ok (.invokestatic idx, 3)) (hw : Cond.methodLink M.1.cls idx Lib.Math.min.name ∈ k_KT) (hwd : (S.map k_wd).sum ≤ 8) (hd1 : 1 ≤ d) (k : kW E d mc ms M (pc + 3) L (kI (if y < x then y else x) :: S) h Q) : kW E d mc ms M pc L (kI y :: kI x :: S) h Q := by
  intro p e R s mm args below meth c H ls locs cells slots QQ cx g1 g2 hl hS hH hR hV kk
  have hts := cx.2.2.2.2.1
  have hy : k_in y := (k_tl hS).1
  have hx : k_in x := (k_tl (k_tl hS).2).1
  have k2 := k p e R s mm args below meth c H ls locs cells slots QQ cx g1 g2 hl (k_consI (by split <;> assumption) (k_tl (k_tl hS).2).2) hH hR hV kk
  refine va_mmin cx.1 cx.2.1 (by rw [cx.2.2.1]; exact hl.1.symm) cx.2.2.2.1 (hts _ hw) (hts _ st_mmin) (hts _ in_J9) (hts _ co_mmin) (by have := cx.2.2.2.2.2.2.2.1; omega) ?_ (by omega) (by omega) hd ?_
  · rw [k_sum E cx.2.2.2.2.2.2.1]
    have := cx.2.2.2.2.2.2.2.2.1
    omega
  · have e1 : (if Int32.ofInt y < Int32.ofInt x then Int32.ofInt y else Int32.ofInt x) = Int32.ofInt (if y < x then y else x) := by
      by_cases hh : y < x
      · rw [if_pos hh, if_pos ((k_lti hy hx).mpr hh)]
      · rw [if_neg hh, if_neg (fun q => hh ((k_lti hy hx).mp q))]
    rw [e1]
    exact k2
end KW5
end
section
/-! a method's contract over the inner machine, and calls -/
def k_wds (M : kMd) : List Cond := Cond.code M.1 M.2.1 M.2.2.1 M.2.2.2 :: k_KT
def k_rm (d mc ms : Nat) : Room := { frames := d, cells := mc, slots := ms, locals := 45 * d }
def k_Pc (E : kEnv) (As : List kV) (h : kH) : Array Value → State → Prop := fun v U => v = (As.map (k_rv E)).toArray ∧ k_stat E U ∧ k_rel E h U.heap
def k_Qc (E : kEnv) (Q : Option kV → kH → Prop) : Array Value → State → Outcome → State → Prop := fun _ st o t => (∃ (r : Option kV) (h2 : kH), o = .returned (r.map (k_rv E)) ∧ Q r h2 ∧ (∀ v, r = some v → k_ok v) ∧ k_okH (kX E) h2 ∧ k_rel E h2 t.heap) ∧ va_F (k_A E) st t
/-- the contract: called with As over the cells h, it returns r with the cells h2, for which Q holds; d frames deep, at most mc cells of ms slots made -/
def kC (E : kEnv) (d mc ms : Nat) (M : kMd) (As : List kV) (h : kH) (Q : Option kV → kH → Prop) : Prop := k_okH (kX E) h → (∀ v ∈ As, k_ok v) → Met (kl E) M.1 (k_wds M) (k_rm d mc ms) (k_Pc E As h) (k_Qc E Q) mc ms (k_A E)
theorem k_blind (E : kEnv) (As : List kV) (h : kH) : FrameBlind (k_Pc E As h) := fun _ U g mk q => ⟨q.1, k_stat_same (s := U) q.2.1 rfl rfl, q.2.2⟩
theorem k_lg {vs : List Value} (h : ∀ v ∈ vs, v.category = 1) : lg_sl vs = vs.map Slot.val := by
  induction vs with
  | nil => rfl
  | cons v t ih =>
    have h1 := h v List.mem_cons_self
    have h2 := ih (fun w hw => h w (List.mem_cons_of_mem _ hw))
    unfold lg_sl at h2 ⊢
    rw [List.flatMap_cons, h2, if_neg (by omega)]
    rfl
theorem k_lr0 {E : kEnv} {s : State} (hs : k_stat E s) {As : List kV} {nL : Nat} (hone : ∀ v ∈ As, k_one v) (hok : ∀ v ∈ As, k_ok v) (hlen : As.length ≤ nL) :
    k_lr E nL (As.map some ++ List.replicate (nL - As.length) none) ((lg_sl (As.map (k_rv E)) ++ List.replicate (nL - (lg_sl (As.map (k_rv E))).length) Slot.unset).toArray) := by
  have hc : ∀ v ∈ As.map (k_rv E), v.category = 1 := by
    intro v hv
    obtain ⟨w, hw, rfl⟩ := List.mem_map.mp hv
    exact k_cat hs (hone w hw)
  have e1 := k_lg hc
  have hL := lv_entry (As.map (k_rv E)) (n := nL) (by rw [e1]; simpa using hlen)
  refine ⟨hL.1, by simp; omega, hL.2.1, fun i v hi => ?_⟩
  by_cases hlt : i < As.length
  · rw [List.getElem?_append_left (by simpa using hlt), List.getElem?_map] at hi
    cases hA : As[i]? with
    | none => rw [hA] at hi; cases hi
    | some w =>
      rw [hA] at hi
      cases hi
      refine ⟨?_, hok v (List.mem_of_getElem? hA)⟩
      rw [List.getElem?_toArray, e1, List.getElem?_append_left (by simpa using hlt), List.getElem?_map, List.getElem?_map, hA]
      rfl
  · rw [List.getElem?_append_right (by simpa using hlt)] at hi
    have := List.mem_of_getElem? hi
    have := List.eq_of_mem_replicate this
    cases this
theorem kC_of {E : kEnv} {d mc ms : Nat} {M : kMd} {As : List kV} {h : kH} {Q : Option kV → kH → Prop} (hy : plainName M.1.cls = true) (hone : ∀ v ∈ As, k_one v) (hlen : As.length ≤ M.2.2.1)
    (k : kW E d mc ms M 0 (As.map some ++ List.replicate (M.2.2.1 - As.length) none) [] h Q) : kC E d mc ms M As h Q := by
  intro hH hAs
  refine Met.ofW (cc := M.2.1) (maxL := M.2.2.1) (ret := M.2.2.2) hy rfl ?_
  intro p e s m args below meth c s₁ B hml hv
  obtain ⟨rfl, hst, hrel⟩ := hv
  have hts := atoms_spec (ws := k_wds M) B.pre
  have hown : s.vm.findClass M.1.cls = some m.cls := findClass_of_methodNamed B.named
  have hnm := (name_of_methodNamed B.named B.method).1
  rw [lg_entry_eq]
  have hl := k_lr0 hst hone hAs hlen
  refine k p e _ s m _ below meth c s.heap _ [] 0 0 _ ⟨B.exec, B.bytes, hml, hown, fun w hw => hts w (List.mem_cons_of_mem _ hw), fun q => by rw [hnm]; exact q, hst, Nat.le_refl _, Nat.le_refl _, by rw [hrel.1]; omega⟩ (by show 0 + mc ≤ mc; omega) (by show 0 + ms ≤ ms; omega) hl (fun v hv => by cases hv) hH hrel va_S.rf ?_
  intro ls2 S2 pc2 h2 H2 locs2 cells2 slots2 r hrt hQ hS2 hH2 hR2 hV2 hc9 hs9
  refine W.widen (k := mc) (n := ms) (by omega) (by omega) ?_
  rcases hrt with ⟨z, ty, rfl, rfl, hd, hr, hn⟩ | ⟨rfl, rfl, hd, hr⟩
  · exact W.zret B.exec B.bytes (B.returns.trans hr) hn (fun t ht hW => ⟨⟨some (kI z), h2, rfl, hQ, (fun v hv => by cases hv; exact (k_tl hS2).1), hH2, by rw [ht]; exact hR2⟩, hV2.F ht⟩) hV2.2.2 hd B.notSynchronized
  · exact W.vret B.exec B.bytes (B.returns.trans hr) (fun t ht hW => ⟨⟨none, h2, rfl, hQ, (fun v hv => by cases hv), hH2, by rw [ht]; exact hR2⟩, hV2.F ht⟩) hV2.2.2 hd B.notSynchronized
/-- what a callee must be -/
def k_qn (M2 : kMd) (n : Nat) : Prop := Cond.code M2.1 M2.2.1 M2.2.2.1 M2.2.2.2 ∈ k_KT ∧ Cond.initialized M2.1.cls ∈ k_KT ∧ (M2.1.cls ≠ "java/lang/invoke/MethodHandle" ∧ M2.1.cls ≠ "java/lang/invoke/VarHandle") ∧ (parseMethodDescriptor M2.1.desc).map (fun d => d.parameters.length) = some n ∧ M2.2.2.1 ≤ 26
def k_qV (M2 : kMd) (n : Nat) : Prop := k_qn M2 n ∧ Cond.instanceMethod M2.1 ∈ k_KT ∧ Cond.selects M2.1.cls M2.1 M2.1 ∈ k_KT
def k_qS (M2 : kMd) (n : Nat) : Prop := k_qn M2 n ∧ Cond.static M2.1 ∈ k_KT
def k_qI (M2 : kMd) (n : Nat) : Prop := k_qn M2 n ∧ Cond.instanceMethod M2.1 ∈ k_KT ∧ M2.1.name = "<init>" ∧ M2.2.2.2 = none
theorem k_wdok {s : State} {args : Array Value} {M2 : kMd} (hts : ∀ w ∈ k_KT, w.before args s = true) (hc : Cond.code M2.1 M2.2.1 M2.2.2.1 M2.2.2.2 ∈ k_KT) : ∀ w ∈ k_wds M2, ∀ (a' : Array Value) (U : State), s.WarmedH U.vm → w.before a' U = true := by
  intro w hw a' U hW
  have hm : w ∈ k_KT := by
    rcases List.mem_cons.mp hw with rfl | h
    · exact hc
    · exact h
  exact word_at hW (good_of_word (k_good w hm)) (hts w hm)
theorem k_toL (E : kEnv) (r : Option kV) (S : List kV) : (r.map (k_rv E)).toList ++ S.map (k_rv E) = (r.toList ++ S).map (k_rv E) := by
  cases r <;> rfl
theorem k_rvS (E : kEnv) (j : Nat) : k_rv E (kA (1000000 + j)) = ksv E j := by
  simp only [k_rv]
  rw [if_neg (by omega), Nat.add_sub_cancel_left]
section KAft
variable {E : kEnv} {p : Program} {e : Env} {R : Room} {s : State} {m : MethodId} {args : Array Value} {below : List Frame} {meth : Method} {c : Code} {H : Heap} {locs : List Loc} {cells slots mc2 ms2 : Nat} {QQ : State → Prop} {pc : Nat} {ls : Array Slot} {S : List kV} {st0 : List Value} {a : Array Value} {Q2 : Option kV → kH → Prop}
theorem k_after (hr : va_Run p (kl E) e R s m args below meth c H locs cells slots mc2 ms2 (F0 m pc ls st0) (S.map (k_rv E)) (k_Qc E Q2 a) (k_A E)) (hV : va_S (k_A E) s.heap H locs)
    (kk : ∀ (r : Option kV) (h2 : kH) (H1 : Heap) (locs1 : List Loc), Q2 r h2 → (∀ v, r = some v → k_ok v) → k_okH (kX E) h2 → k_rel E h2 H1 → va_S (k_A E) s.heap H1 locs1 → W p (kl E) e R s m args below meth c H1 locs1 (cells + mc2) (slots + ms2) QQ (F0 m (pc + 3) ls ((r.toList ++ S).map (k_rv E)))) : W p (kl E) e R s m args below meth c H locs cells slots QQ (F0 m pc ls st0) := by
  intro T hT X
  obtain ⟨v, st₀, t, T', L, h0, X', hL, e1, e2, ⟨⟨r, h2, hv, hq, hok, hH2, hR2⟩, hF⟩, st⟩ := hr T hT X
  cases hv
  obtain ⟨hz, hk⟩ := hF
  rw [h0] at hz hk
  obtain ⟨t2, a1, b1⟩ := kk r h2 T'.heap (locs ++ L) hq hok hH2 (by rw [e1]; exact hR2)
    ⟨Nat.le_trans hV.1 (by rw [e1]; exact hz), fun q h1 h2 => by rw [e1, hk q (Nat.lt_of_lt_of_le h1 hV.1) h2]; exact hV.2.1 q h1 h2, fun q hq => by
      rcases List.mem_append.mp hq with h | h
      · exact hV.2.2 q h
      · exact hL q h⟩ T' rfl X'
  rw [← k_toL] at a1
  exact ⟨t2, st t2 a1, b1⟩
end KAft
section KW6
variable {E : kEnv} {d mc ms d2 mc2 ms2 mc3 ms3 : Nat} {M M2 : kMd} {pc idx : Nat} {L : kLs} {S S0 As : List kV} {h : kH} {Q Q2 : Option kV → kH → Prop}
theorem k_oks {S0 As S : List kV} {b : kV} (h : ∀ v ∈ S0, k_ok v) (hs : S0 = As.reverse ++ b :: S) : (∀ v ∈ b :: As, k_ok v) ∧ ∀ v ∈ S, k_ok v := by
  subst hs
  refine ⟨fun v hv => h v ?_, fun v hv => h v (List.mem_append_right _ (List.mem_cons_of_mem _ hv))⟩
  rcases List.mem_cons.mp hv with rfl | q
  · exact List.mem_append_right _ List.mem_cons_self
  · exact List.mem_append_left _ (List.mem_reverse.mpr q)
theorem k_oks0 {S0 As S : List kV} (h : ∀ v ∈ S0, k_ok v) (hs : S0 = As.reverse ++ S) : (∀ v ∈ As, k_ok v) ∧ ∀ v ∈ S, k_ok v := by
  subst hs
  exact ⟨fun v hv => h v (List.mem_append_left _ (List.mem_reverse.mpr hv)), fun v hv => h v (List.mem_append_right _ hv)⟩
theorem k_okr {r : Option kV} (h1 : ∀ v, r = some v → k_ok v) (h2 : ∀ v ∈ S, k_ok v) : ∀ v ∈ r.toList ++ S, k_ok v := by
  cases r with
  | none => exact h2
  | some v => exact List.forall_mem_cons.mpr ⟨h1 v rfl, h2⟩
/-- invokevirtual of one of the class's own methods -/
theorem kw_callV {b ci N : Nat} {T : u_T} (hd : decode M.2.1 pc = .ok (.invokevirtual idx, 3)) (hlk : Cond.methodLink M.1.cls idx M2.1 ∈ k_KT) (q : k_qV M2 As.length) (hcl : vwCl[ci]? = some (M2.1.cls, T, N)) (hb : h.1[b]? = some (ci, N)) (hs0 : S0 = As.reverse ++ kA b :: S) (hwd : (S.map k_wd).sum ≤ 8) (hc : kC E d2 mc2 ms2 M2 (kA b :: As) h Q2) (hd2 : d2 + 1 ≤ d) (hmc : mc3 + mc2 ≤ mc) (hms : ms3 + ms2 ≤ ms)
    (k : ∀ (r : Option kV) (h2 : kH), Q2 r h2 → kW E d mc3 ms3 M (pc + 3) L (r.toList ++ S) h2 Q) : kW E d mc ms M pc L S0 h Q := by
  intro p e R s mm args below meth c H ls locs cells slots QQ cx g1 g2 hl hS hH hR hV kk
  obtain ⟨⟨q1, q2, q3, q4, q5⟩, q6, q7⟩ := q
  have hts := cx.2.2.2.2.1
  have hst := cx.2.2.2.2.2.2.1
  have hfr := cx.2.2.2.2.2.2.2.1
  have hlo := cx.2.2.2.2.2.2.2.2.1
  obtain ⟨ok1, ok2⟩ := k_oks hS hs0
  have hM := hc hH ok1
  have hrv := k_rvA (E := E) hH hb
  refine k_after (S := S) (a := (Value.ref (kb E + b) :: As.map (k_rv E)).toArray) (va_runV (C := M2.1.cls) (b := kb E + b) (n := As.length) (cc := M.2.1) (nL := M.2.2.1) (Ts := k_KT) (As := As.map (k_rv E)) ⟨cx.1, cx.2.1, cx.2.2.1, cx.2.2.2.1, hts⟩ hM
    ⟨⟨rfl, rfl, by show d2 + 1 ≤ _; omega, by show _ + 45 * d2 ≤ _; omega, k_wdok hts q1, List.mem_cons_self, hts _ q1, hts _ q2, q3, fun sig hs => ?_, hts _ hlk⟩, hts _ q6, hts _ q7⟩
    ⟨k_blind E _ h, ?_, fun U hU hW => ⟨?_, k_stat_move hst hW (fun a _ hA => by rw [hU]; exact hV.2.1 a ‹_› hA), by rw [hU]; exact hR⟩⟩ rfl (by simp) (by exact hl.1) ?_ ?_ hd ⟨by omega, by omega⟩) hV ?_
  · rw [hs] at q4
    exact (Option.some.inj q4).symm
  · obtain ⟨r', hr', cellV, u1, u2, u3, -⟩ := hR.2 b _ (by rw [k_ws_at (k_lt hb), k_cell_o hb hcl])
    have hr : r' = (M2.1.cls, T, N) := Option.some.inj (hr'.symm.trans hcl)
    subst hr
    exact ⟨cellV, u1, by rw [u3]; rfl, by rw [u2]; exact (hst.1.1 ci _ hcl).2.1⟩
  · rw [List.map_cons, hrv]
  · rw [hs0, List.map_append, List.map_reverse, List.map_cons, hrv]
  · have := k_sum E hst S
    exact lv_room (by rw [this]; exact hwd)
  · intro r h2 H1 locs1 a1 a2 a3 a4 a5
    exact k r h2 a1 p e R s mm args below meth c H1 ls locs1 (cells + mc2) (slots + ms2) QQ cx (by omega) (by omega) hl (k_okr a2 ok2) a3 a4 a5
      (fun ls2 S2 pc2 h2 H2 locs2 cells2 slots2 r b1 b2 b3 b4 b5 b6 b7 b8 => kk ls2 S2 pc2 h2 H2 locs2 cells2 slots2 r b1 b2 b3 b4 b5 b6 (by omega) (by omega))
theorem kw_callS (hd : decode M.2.1 pc = .ok (.invokestatic idx, 3)) (hlk : Cond.methodLink M.1.cls idx M2.1 ∈ k_KT) (q : k_qS M2 As.length) (hs0 : S0 = As.reverse ++ S) (hwd : (S.map k_wd).sum ≤ 8) (hc : kC E d2 mc2 ms2 M2 As h Q2) (hd2 : d2 + 1 ≤ d) (hmc : mc3 + mc2 ≤ mc) (hms : ms3 + ms2 ≤ ms)
    (k : ∀ (r : Option kV) (h2 : kH), Q2 r h2 → kW E d mc3 ms3 M (pc + 3) L (r.toList ++ S) h2 Q) : kW E d mc ms M pc L S0 h Q := by
  intro p e R s mm args below meth c H ls locs cells slots QQ cx g1 g2 hl hS hH hR hV kk
  obtain ⟨⟨q1, q2, q3, q4, q5⟩, q6⟩ := q
  have hts := cx.2.2.2.2.1
  have hst := cx.2.2.2.2.2.2.1
  have hfr := cx.2.2.2.2.2.2.2.1
  have hlo := cx.2.2.2.2.2.2.2.2.1
  obtain ⟨ok1, ok2⟩ := k_oks0 hS hs0
  have hM := hc hH ok1
  refine k_after (S := S) (a := (As.map (k_rv E)).toArray) (va_runS (n := As.length) (cc := M.2.1) (nL := M.2.2.1) (Ts := k_KT) (As := As.map (k_rv E)) ⟨cx.1, cx.2.1, cx.2.2.1, cx.2.2.2.1, hts⟩ hM
    ⟨⟨rfl, rfl, by show d2 + 1 ≤ _; omega, by show _ + 45 * d2 ≤ _; omega, k_wdok hts q1, List.mem_cons_self, hts _ q1, hts _ q2, q3, fun sig hs => ?_, hts _ hlk⟩, hts _ q6⟩
    ⟨k_blind E _ h, fun U hU hW => ⟨rfl, k_stat_move hst hW (fun a _ hA => by rw [hU]; exact hV.2.1 a ‹_› hA), by rw [hU]; exact hR⟩⟩ rfl (by simp) (by exact hl.1) ?_ ?_ hd ⟨by omega, by omega⟩) hV ?_
  · rw [hs] at q4
    exact (Option.some.inj q4).symm
  · rw [hs0, List.map_append, List.map_reverse]
  · have := k_sum E hst S
    exact lv_room (by rw [this]; exact hwd)
  · intro r h2 H1 locs1 a1 a2 a3 a4 a5
    exact k r h2 a1 p e R s mm args below meth c H1 ls locs1 (cells + mc2) (slots + ms2) QQ cx (by omega) (by omega) hl (k_okr a2 ok2) a3 a4 a5
      (fun ls2 S2 pc2 h2 H2 locs2 cells2 slots2 r b1 b2 b3 b4 b5 b6 b7 b8 => kk ls2 S2 pc2 h2 H2 locs2 cells2 slots2 r b1 b2 b3 b4 b5 b6 (by omega) (by omega))
theorem kw_callI {b : Nat} (hd : decode M.2.1 pc = .ok (.invokespecial idx, 3)) (hlk : Cond.methodLink M.1.cls idx M2.1 ∈ k_KT) (q : k_qI M2 As.length) (hb : b < 1000000) (hs0 : S0 = As.reverse ++ kA b :: S) (hwd : (S.map k_wd).sum ≤ 8) (hc : kC E d2 mc2 ms2 M2 (kA b :: As) h Q2) (hd2 : d2 + 1 ≤ d) (hmc : mc3 + mc2 ≤ mc) (hms : ms3 + ms2 ≤ ms)
    (k : ∀ (r : Option kV) (h2 : kH), Q2 r h2 → kW E d mc3 ms3 M (pc + 3) L (r.toList ++ S) h2 Q) : kW E d mc ms M pc L S0 h Q := by
  intro p e R s mm args below meth c H ls locs cells slots QQ cx g1 g2 hl hS hH hR hV kk
  obtain ⟨⟨q1, q2, q3, q4, q5⟩, q6, q7, q8⟩ := q
  have hts := cx.2.2.2.2.1
  have hst := cx.2.2.2.2.2.2.1
  have hfr := cx.2.2.2.2.2.2.2.1
  have hlo := cx.2.2.2.2.2.2.2.2.1
  obtain ⟨ok1, ok2⟩ := k_oks hS hs0
  have hM := hc hH ok1
  have hrv : k_rv E (kA b) = .ref (kb E + b) := if_pos hb
  rw [q8] at q1
  have q1' := q1
  rw [← q8] at q1'
  refine k_after (S := S) (a := (Value.ref (kb E + b) :: As.map (k_rv E)).toArray) (va_runI (b := kb E + b) (n := As.length) (cc := M.2.1) (nL := M.2.2.1) (Ts := k_KT) (As := As.map (k_rv E)) ⟨cx.1, cx.2.1, cx.2.2.1, cx.2.2.2.1, hts⟩ hM
    ⟨⟨rfl, rfl, by show d2 + 1 ≤ _; omega, by show _ + 45 * d2 ≤ _; omega, k_wdok hts q1', by rw [← q8]; exact List.mem_cons_self, hts _ q1, hts _ q2, q3, fun sig hs => ?_, hts _ hlk⟩, q7, hts _ q6⟩
    ⟨k_blind E _ h, fun U hU hW => ⟨?_, k_stat_move hst hW (fun a _ hA => by rw [hU]; exact hV.2.1 a ‹_› hA), by rw [hU]; exact hR⟩⟩ rfl (by simp) (by exact hl.1) ?_ ?_ hd ⟨by omega, by omega⟩) hV ?_
  · rw [hs] at q4
    exact (Option.some.inj q4).symm
  · rw [List.map_cons, hrv]
  · rw [hs0, List.map_append, List.map_reverse, List.map_cons, hrv]
  · have := k_sum E hst S
    exact lv_room (by rw [this]; exact hwd)
  · intro r h2 H1 locs1 a1 a2 a3 a4 a5
    exact k r h2 a1 p e R s mm args below meth c H1 ls locs1 (cells + mc2) (slots + ms2) QQ cx (by omega) (by omega) hl (k_okr a2 ok2) a3 a4 a5
      (fun ls2 S2 pc2 h2 H2 locs2 cells2 slots2 r b1 b2 b3 b4 b5 b6 b7 b8 => kk ls2 S2 pc2 h2 H2 locs2 cells2 slots2 r b1 b2 b3 b4 b5 b6 (by omega) (by omega))
theorem kw_callIN {b : Nat} (hd : decode M.2.1 pc = .ok (.invokespecial idx, 3)) (hlk : (idx, M.1.cls, M2.1) ∈ k_nest) (q : k_qI M2 As.length) (hb : b < 1000000) (hs0 : S0 = As.reverse ++ kA b :: S) (hwd : (S.map k_wd).sum ≤ 8) (hc : kC E d2 mc2 ms2 M2 (kA b :: As) h Q2) (hd2 : d2 + 1 ≤ d) (hmc : mc3 + mc2 ≤ mc) (hms : ms3 + ms2 ≤ ms)
    (k : ∀ (r : Option kV) (h2 : kH), Q2 r h2 → kW E d mc3 ms3 M (pc + 3) L (r.toList ++ S) h2 Q) : kW E d mc ms M pc L S0 h Q := by
  intro p e R s mm args below meth c H ls locs cells slots QQ cx g1 g2 hl hS hH hR hV kk
  obtain ⟨⟨q1, q2, q3, q4, q5⟩, q6, q7, q8⟩ := q
  have hts := cx.2.2.2.2.1
  have hst := cx.2.2.2.2.2.2.1
  have hfr := cx.2.2.2.2.2.2.2.1
  have hlo := cx.2.2.2.2.2.2.2.2.1
  obtain ⟨ok1, ok2⟩ := k_oks hS hs0
  have hM := hc hH ok1
  have hrv : k_rv E (kA b) = .ref (kb E + b) := if_pos hb
  rw [q8] at q1
  have q1' := q1
  rw [← q8] at q1'
  have hne := hst.2.2.2.2.2.2.2.2.1 _ hlk
  refine k_after (S := S) (a := (Value.ref (kb E + b) :: As.map (k_rv E)).toArray) (va_runIN (b := kb E + b) (host := RX6) (n := As.length) (cc := M.2.1) (nL := M.2.2.1) (Ts := k_KT) (As := As.map (k_rv E)) ⟨cx.1, cx.2.1, cx.2.2.1, cx.2.2.2.1, hts⟩ hM
    ⟨⟨⟨rfl, rfl, by show d2 + 1 ≤ _; omega, by show _ + 45 * d2 ≤ _; omega, k_wdok hts q1', by rw [← q8]; exact List.mem_cons_self⟩, hts _ q1, hts _ q2, q3, fun sig hs => ?_, va_Nw.use rfl hne⟩, q7, hts _ q6⟩
    ⟨k_blind E _ h, fun U hU hW => ⟨?_, k_stat_move hst hW (fun a _ hA => by rw [hU]; exact hV.2.1 a ‹_› hA), by rw [hU]; exact hR⟩⟩ rfl (by simp) (by exact hl.1) ?_ ?_ hd ⟨by omega, by omega⟩) hV ?_
  · rw [hs] at q4
    exact (Option.some.inj q4).symm
  · rw [List.map_cons, hrv]
  · rw [hs0, List.map_append, List.map_reverse, List.map_cons, hrv]
  · have := k_sum E hst S
    exact lv_room (by rw [this]; exact hwd)
  · intro r h2 H1 locs1 a1 a2 a3 a4 a5
    exact k r h2 a1 p e R s mm args below meth c H1 ls locs1 (cells + mc2) (slots + ms2) QQ cx (by omega) (by omega) hl (k_okr a2 ok2) a3 a4 a5
      (fun ls2 S2 pc2 h2 H2 locs2 cells2 slots2 r b1 b2 b3 b4 b5 b6 b7 b8 => kk ls2 S2 pc2 h2 H2 locs2 cells2 slots2 r b1 b2 b3 b4 b5 b6 (by omega) (by omega))
theorem kw_callSN (hd : decode M.2.1 pc = .ok (.invokestatic idx, 3)) (hlk : (idx, M.1.cls, M2.1) ∈ k_nest) (q : k_qS M2 As.length) (hs0 : S0 = As.reverse ++ S) (hwd : (S.map k_wd).sum ≤ 8) (hc : kC E d2 mc2 ms2 M2 As h Q2) (hd2 : d2 + 1 ≤ d) (hmc : mc3 + mc2 ≤ mc) (hms : ms3 + ms2 ≤ ms)
    (k : ∀ (r : Option kV) (h2 : kH), Q2 r h2 → kW E d mc3 ms3 M (pc + 3) L (r.toList ++ S) h2 Q) : kW E d mc ms M pc L S0 h Q := by
  intro p e R s mm args below meth c H ls locs cells slots QQ cx g1 g2 hl hS hH hR hV kk
  obtain ⟨⟨q1, q2, q3, q4, q5⟩, q6⟩ := q
  have hts := cx.2.2.2.2.1
  have hst := cx.2.2.2.2.2.2.1
  have hfr := cx.2.2.2.2.2.2.2.1
  have hlo := cx.2.2.2.2.2.2.2.2.1
  obtain ⟨ok1, ok2⟩ := k_oks0 hS hs0
  have hM := hc hH ok1
  have hne := hst.2.2.2.2.2.2.2.2.1 _ hlk
  refine k_after (S := S) (a := (As.map (k_rv E)).toArray) (va_runSN (host := RX6) (n := As.length) (cc := M.2.1) (nL := M.2.2.1) (Ts := k_KT) (As := As.map (k_rv E)) ⟨cx.1, cx.2.1, cx.2.2.1, cx.2.2.2.1, hts⟩ hM
    ⟨⟨⟨rfl, rfl, by show d2 + 1 ≤ _; omega, by show _ + 45 * d2 ≤ _; omega, k_wdok hts q1, List.mem_cons_self⟩, hts _ q1, hts _ q2, q3, fun sig hs => ?_, va_Nw.use rfl hne⟩, hts _ q6, trivial⟩
    ⟨k_blind E _ h, fun U hU hW => ⟨rfl, k_stat_move hst hW (fun a _ hA => by rw [hU]; exact hV.2.1 a ‹_› hA), by rw [hU]; exact hR⟩⟩ rfl (by simp) (by exact hl.1) ?_ ?_ hd ⟨by omega, by omega⟩) hV ?_
  · rw [hs] at q4
    exact (Option.some.inj q4).symm
  · rw [hs0, List.map_append, List.map_reverse]
  · have := k_sum E hst S
    exact lv_room (by rw [this]; exact hwd)
  · intro r h2 H1 locs1 a1 a2 a3 a4 a5
    exact k r h2 a1 p e R s mm args below meth c H1 ls locs1 (cells + mc2) (slots + ms2) QQ cx (by omega) (by omega) hl (k_okr a2 ok2) a3 a4 a5
      (fun ls2 S2 pc2 h2 H2 locs2 cells2 slots2 r b1 b2 b3 b4 b5 b6 b7 b8 => kk ls2 S2 pc2 h2 H2 locs2 cells2 slots2 r b1 b2 b3 b4 b5 b6 (by omega) (by omega))
/-- a method of String, on the class's own text -/
theorem kw_callVS (hd : decode M.2.1 pc = .ok (.invokevirtual idx, 3)) (hlk : Cond.methodLink M.1.cls idx M2.1 ∈ k_KT) (q : k_qV M2 As.length) (hcl : M2.1.cls = RJ0) (hs0 : S0 = As.reverse ++ kA 1000003 :: S) (hwd : (S.map k_wd).sum ≤ 8) (hc : kC E d2 mc2 ms2 M2 (kA 1000003 :: As) h Q2) (hd2 : d2 + 1 ≤ d) (hmc : mc3 + mc2 ≤ mc) (hms : ms3 + ms2 ≤ ms)
    (k : ∀ (r : Option kV) (h2 : kH), Q2 r h2 → kW E d mc3 ms3 M (pc + 3) L (r.toList ++ S) h2 Q) : kW E d mc ms M pc L S0 h Q := by
  intro p e R s mm args below meth c H ls locs cells slots QQ cx g1 g2 hl hS hH hR hV kk
  obtain ⟨⟨q1, q2, q3, q4, q5⟩, q6, q7⟩ := q
  have hts := cx.2.2.2.2.1
  have hst := cx.2.2.2.2.2.2.1
  have hfr := cx.2.2.2.2.2.2.2.1
  have hlo := cx.2.2.2.2.2.2.2.2.1
  obtain ⟨ok1, ok2⟩ := k_oks hS hs0
  have hM := hc hH ok1
  obtain ⟨ts, tv, e1, e2, e3, e4, e5, e6, e7⟩ := hst.2.2.2.2.1
  have hrv : k_rv E (kA 1000003) = .ref ts := (k_rvS E 3).trans e1
  refine k_after (S := S) (a := (Value.ref ts :: As.map (k_rv E)).toArray) (va_runV (C := M2.1.cls) (b := ts) (n := As.length) (cc := M.2.1) (nL := M.2.2.1) (Ts := k_KT) (As := As.map (k_rv E)) ⟨cx.1, cx.2.1, cx.2.2.1, cx.2.2.2.1, hts⟩ hM
    ⟨⟨rfl, rfl, by show d2 + 1 ≤ _; omega, by show _ + 45 * d2 ≤ _; omega, k_wdok hts q1, List.mem_cons_self, hts _ q1, hts _ q2, q3, fun sig hs => ?_, hts _ hlk⟩, hts _ q6, hts _ q7⟩
    ⟨k_blind E _ h, ?_, fun U hU hW => ⟨?_, k_stat_move hst hW (fun a _ hA => by rw [hU]; exact hV.2.1 a ‹_› hA), by rw [hU]; exact hR⟩⟩ rfl (by simp) (by exact hl.1) ?_ ?_ hd ⟨by omega, by omega⟩) hV ?_
  · rw [hs] at q4
    exact (Option.some.inj q4).symm
  · obtain ⟨cell, u1, u2, u3, -⟩ := e4.kept hV.2.1
    exact ⟨cell, u1, u2, by rw [hcl]; exact u3⟩
  · rw [List.map_cons, hrv]
  · rw [hs0, List.map_append, List.map_reverse, List.map_cons, hrv]
  · have := k_sum E hst S
    exact lv_room (by rw [this]; exact hwd)
  · intro r h2 H1 locs1 a1 a2 a3 a4 a5
    exact k r h2 a1 p e R s mm args below meth c H1 ls locs1 (cells + mc2) (slots + ms2) QQ cx (by omega) (by omega) hl (k_okr a2 ok2) a3 a4 a5
      (fun ls2 S2 pc2 h2 H2 locs2 cells2 slots2 r b1 b2 b3 b4 b5 b6 b7 b8 => kk ls2 S2 pc2 h2 H2 locs2 cells2 slots2 r b1 b2 b3 b4 b5 b6 (by omega) (by omega))
end KW6
end
section
/-! rules of the inner machine: the text constant, fixed fields, copies -/
section KW7
variable {E : kEnv} {d mc ms : Nat} {M : kMd} {pc idx : Nat} {L : kLs} {S : List kV} {h : kH} {Q : Option kV → kH → Prop}
theorem kw_ldcS (hcl : M.1.cls = RX6) (hd : decode M.2.1 pc = .ok (.ldc 58, 2)) (k : kW E d mc ms M (pc + 2) L (kA 1000003 :: S) h Q) : kW E d mc ms M pc L S h Q := by
  intro p e R s mm args below meth c H ls locs cells slots QQ cx g1 g2 hl hS hH hR hV kk
  obtain ⟨ts, tv, e1, e2, e3, e4, e5, e6, e7⟩ := cx.2.2.2.2.2.2.1.2.2.2.2.1
  have hrv : k_rv E (kA 1000003) = .ref ts := (k_rvS E 3).trans e1
  have k2 := k p e R s mm args below meth c H ls locs cells slots QQ cx g1 g2 hl (k_cons (v := kA 1000003) trivial hS) hH hR hV kk
  rw [List.map_cons, hrv] at k2
  exact va_ldcS cx.1 cx.2.1 cx.2.2.2.1 (by rw [hcl]; exact e3) hd k2
theorem kw_gets0 (hd : decode M.2.1 pc = .ok (.getstatic idx, 3)) (hw : Cond.fieldLink M.1.cls idx RX5 "LEAST" "[I" ∈ k_KT) (k : kW E d mc ms M (pc + 3) L (kA 1000000 :: S) h Q) : kW E d mc ms M pc L S h Q := by
  intro p e R s mm args below meth c H ls locs cells slots QQ cx g1 g2 hl hS hH hR hV kk
  have hrv : k_rv E (kA 1000000) = ksv E 0 := k_rvS E 0
  have k2 := k p e R s mm args below meth c H ls locs cells slots QQ cx g1 g2 hl (k_cons (v := kA 1000000) trivial hS) hH hR hV kk
  rw [List.map_cons, hrv] at k2
  exact va_gets cx.1 cx.2.1 cx.2.2.2.2.2.2.1.2.2.1 hV cx.2.2.2.1 (cx.2.2.2.2.1 _ hw) (fun _ z => z) hd k2
theorem kw_gets1 (hd : decode M.2.1 pc = .ok (.getstatic idx, 3)) (hw : Cond.fieldLink M.1.cls idx RX5 "MOST" "[I" ∈ k_KT) (k : kW E d mc ms M (pc + 3) L (kA 1000001 :: S) h Q) : kW E d mc ms M pc L S h Q := by
  intro p e R s mm args below meth c H ls locs cells slots QQ cx g1 g2 hl hS hH hR hV kk
  have hrv : k_rv E (kA 1000001) = ksv E 1 := k_rvS E 1
  have k2 := k p e R s mm args below meth c H ls locs cells slots QQ cx g1 g2 hl (k_cons (v := kA 1000001) trivial hS) hH hR hV kk
  rw [List.map_cons, hrv] at k2
  exact va_gets cx.1 cx.2.1 cx.2.2.2.2.2.2.1.2.2.2.1 hV cx.2.2.2.1 (cx.2.2.2.2.1 _ hw) (fun _ z => z) hd k2
theorem kw_getsC (hd : decode M.2.1 pc = .ok (.getstatic idx, 3)) (hw : Cond.fieldLink M.1.cls idx RJ0 "COMPACT_STRINGS" "Z" ∈ k_KT) (k : kW E d mc ms M (pc + 3) L (kI 1 :: S) h Q) : kW E d mc ms M pc L S h Q := by
  intro p e R s mm args below meth c H ls locs cells slots QQ cx g1 g2 hl hS hH hR hV kk
  have k2 := k p e R s mm args below meth c H ls locs cells slots QQ cx g1 g2 hl (k_consI ⟨by decide, by decide⟩ hS) hH hR hV kk
  exact va_gets cx.1 cx.2.1 cx.2.2.2.2.2.2.1.2.2.2.2.2.1 hV cx.2.2.2.1 (cx.2.2.2.2.1 _ hw) (fun _ z => z) hd k2
theorem kw_getsF (hd : decode M.2.1 pc = .ok (.getstatic idx, 3)) (hw : Cond.fieldLink M.1.cls idx RJ3 "SIOOBE_FORMATTER" "Ljava/util/function/BiFunction;" ∈ k_KT) (k : kW E d mc ms M (pc + 3) L (kA 1000005 :: S) h Q) : kW E d mc ms M pc L S h Q := by
  intro p e R s mm args below meth c H ls locs cells slots QQ cx g1 g2 hl hS hH hR hV kk
  have hrv : k_rv E (kA 1000005) = ksv E 5 := k_rvS E 5
  have k2 := k p e R s mm args below meth c H ls locs cells slots QQ cx g1 g2 hl (k_cons (v := kA 1000005) trivial hS) hH hR hV kk
  rw [List.map_cons, hrv] at k2
  exact va_gets cx.1 cx.2.1 cx.2.2.2.2.2.2.1.2.2.2.2.2.2.1 hV cx.2.2.2.1 (cx.2.2.2.2.1 _ hw) (fun _ z => z) hd k2
theorem kw_getSv (hd : decode M.2.1 pc = .ok (.getfield idx, 3)) (hw : Cond.fieldLink M.1.cls idx RJ0 "value" "[B" ∈ k_KT) (k : kW E d mc ms M (pc + 3) L (kA 1000004 :: S) h Q) : kW E d mc ms M pc L (kA 1000003 :: S) h Q := by
  intro p e R s mm args below meth c H ls locs cells slots QQ cx g1 g2 hl hS hH hR hV kk
  obtain ⟨ts, tv, e1, e2, e3, e4, e5, e6, e7⟩ := cx.2.2.2.2.2.2.1.2.2.2.2.1
  have hrv : k_rv E (kA 1000003) = .ref ts := (k_rvS E 3).trans e1
  have hrw : k_rv E (kA 1000004) = .ref tv := (k_rvS E 4).trans e2
  have k2 := k p e R s mm args below meth c H ls locs cells slots QQ cx g1 g2 hl (k_cons (v := kA 1000004) trivial (k_tl hS).2) hH hR hV kk
  rw [List.map_cons, hrw] at k2
  rw [List.map_cons, hrv]
  exact vk_getf cx.1 cx.2.1 e6 hV cx.2.2.2.1 (cx.2.2.2.2.1 _ hw) (fun _ z => z) hd k2
theorem kw_getSc (hd : decode M.2.1 pc = .ok (.getfield idx, 3)) (hw : Cond.fieldLink M.1.cls idx RJ0 "coder" "B" ∈ k_KT) (k : kW E d mc ms M (pc + 3) L (kI 0 :: S) h Q) : kW E d mc ms M pc L (kA 1000003 :: S) h Q := by
  intro p e R s mm args below meth c H ls locs cells slots QQ cx g1 g2 hl hS hH hR hV kk
  obtain ⟨ts, tv, e1, e2, e3, e4, e5, e6, e7⟩ := cx.2.2.2.2.2.2.1.2.2.2.2.1
  have hrv : k_rv E (kA 1000003) = .ref ts := (k_rvS E 3).trans e1
  have k2 := k p e R s mm args below meth c H ls locs cells slots QQ cx g1 g2 hl (k_consI k_in0 (k_tl hS).2) hH hR hV kk
  rw [List.map_cons, hrv]
  exact vk_getf cx.1 cx.2.1 e5 hV cx.2.2.2.1 (cx.2.2.2.2.1 _ hw) (fun _ z => z) hd k2
theorem kw_alenB (hd : decode M.2.1 pc = .ok (.arraylength, 1)) (k : kW E d mc ms M (pc + 1) L (kI 87 :: S) h Q) : kW E d mc ms M pc L (kA 1000004 :: S) h Q := by
  intro p e R s mm args below meth c H ls locs cells slots QQ cx g1 g2 hl hS hH hR hV kk
  obtain ⟨ts, tv, e1, e2, e3, e4, e5, e6, e7⟩ := cx.2.2.2.2.2.2.1.2.2.2.2.1
  have hrw : k_rv E (kA 1000004) = .ref tv := (k_rvS E 4).trans e2
  have k2 := k p e R s mm args below meth c H ls locs cells slots QQ cx g1 g2 hl (k_consI ⟨by decide, by decide⟩ (k_tl hS).2) hH hR hV kk
  rw [List.map_cons, hrw]
  exact va_tlen cx.1 cx.2.1 e7 hV rfl hd k2
theorem k_FTin : ∀ i : Nat, k_in (k_FT.getD i 0) := by
  intro i
  by_cases hi : i < k_FT.length
  · have : ∀ z ∈ k_FT, k_in z := by unfold k_FT k_in; decide
    have e : k_FT.getD i 0 = k_FT[i] := by simp [List.getD_eq_getElem?_getD, hi]
    rw [e]
    exact this _ (List.getElem_mem hi)
  · have e : k_FT.getD i 0 = 0 := by simp [List.getD_eq_getElem?_getD, Nat.not_lt.mp hi]
    rw [e]
    exact k_in0
theorem kw_baldB {i : Int} (hd : decode M.2.1 pc = .ok (.baload, 1)) (h0 : 0 ≤ i) (h1 : i < 87) (k : kW E d mc ms M (pc + 1) L (kI (k_FT.getD i.toNat 0) :: S) h Q) : kW E d mc ms M pc L (kI i :: kA 1000004 :: S) h Q := by
  intro p e R s mm args below meth c H ls locs cells slots QQ cx g1 g2 hl hS hH hR hV kk
  obtain ⟨ts, tv, e1, e2, e3, e4, e5, e6, e7⟩ := cx.2.2.2.2.2.2.1.2.2.2.2.1
  have hrw : k_rv E (kA 1000004) = .ref tv := (k_rvS E 4).trans e2
  have hi : k_in i := (k_tl hS).1
  have k2 := k p e R s mm args below meth c H ls locs cells slots QQ cx g1 g2 hl (k_consI (k_FTin _) (k_tl (k_tl hS).2).2) hH hR hV kk
  rw [List.map_cons, List.map_cons, hrw]
  exact va_tb cx.1 cx.2.1 e7 hV (k_vpin hi h0 (by omega)) (by rw [k_tc hi]; rfl) hd k2
/-- System.arraycopy between rows of ints -/
def k_cp (f : Nat → Int → Int) (a0 a1 : Nat) (sp dp n : Int) : Nat → Int → Int := fun b j => if b = a1 ∧ dp ≤ j ∧ j < dp + n then f a0 (sp + (j - dp)) else f b j
theorem kw_copy {a0 a1 n0 n1 : Nat} {sp dp n : Int} (hd : decode M.2.1 pc = .ok (.invokestatic idx, 3)) (hw : Cond.methodLink M.1.cls idx arraycopyName ∈ k_KT) (hm0 : h.1[a0]? = some (100, n0)) (hm1 : h.1[a1]? = some (100, n1)) (h1 : 0 ≤ sp) (h2 : 0 ≤ dp) (h3 : 0 ≤ n) (h4 : sp + n ≤ n0) (h5 : dp + n ≤ n1) (hwd : (S.map k_wd).sum ≤ 8) (hd1 : 1 ≤ d)
    (k : kW E d mc ms M (pc + 3) L S (h.1, k_cp h.2.1 a0 a1 sp dp n, h.2.2) Q) : kW E d mc ms M pc L (kI n :: kI dp :: kA a1 :: kI sp :: kA a0 :: S) h Q := by
  intro p e R s mm args below meth c H ls locs cells slots QQ cx g1 g2 hl hS hH hR hV kk
  have hts := cx.2.2.2.2.1
  have hst := cx.2.2.2.2.2.2.1
  have hK := hst.1
  have hn : k_in n := (k_tl hS).1
  have hdp : k_in dp := (k_tl (k_tl hS).2).1
  have hS3 := (k_tl (k_tl (k_tl hS).2).2).2
  have hsp : k_in sp := (k_tl hS3).1
  have hS5 := (k_tl (k_tl hS3).2).2
  simp only [List.map_cons, k_rvA hH hm1, k_rvA hH hm0]
  show W p (kl E) e R s mm args below meth c H locs cells slots QQ (F0 mm pc ls (.int (Int32.ofInt n) :: .int (Int32.ofInt dp) :: .ref (kb E + a1) :: .int (Int32.ofInt sp) :: .ref (kb E + a0) :: S.map (k_rv E)))
  have he0 : (k_ws E h)[a0]? = some (kb E + a0, .inl (kcI E, n0, .inl (fun j : Nat => Int32.ofInt (h.2.1 a0 j)))) := by rw [k_ws_at (k_lt hm0), k_cell_i hm0]
  have he1 : (k_ws E h)[a1]? = some (kb E + a1, .inl (kcI E, n1, .inl (fun j : Nat => Int32.ofInt (h.2.1 a1 j)))) := by rw [k_ws_at (k_lt hm1), k_cell_i hm1]
  generalize hf : (fun j : Nat => Int32.ofInt (h.2.1 a0 j)) = f at he0
  generalize hg : (fun j : Nat => Int32.ofInt (h.2.1 a1 j)) = g at he1
  have hc0 : H[kb E + a0]? = some (vp_cell (kcI E) (n0, .inl f)) := hR.2 a0 _ he0
  have hc1 : H[kb E + a1]? = some (vp_cell (kcI E) (n1, .inl g)) := hR.2 a1 _ he1
  have hAr := (hK.2 0 _ (k_ty E).1).1
  have c1 := k_tc hsp
  have c2 := k_tc hdp
  have c3 := k_tc hn
  have t1 := k_ti hsp
  have t2 := k_ti hdp
  have t3 := k_ti hn
  have nneg : ∀ z : Int, k_in z → 0 ≤ z → ¬ Int32.ofInt z < 0 := fun z hz h0 => by rw [k_z, k_lti hz k_in0]; omega
  intro T hT X
  obtain ⟨-, k0, hk0, cm0, hkk0⟩ := hAr n0 (fun j => .int (f j))
  obtain ⟨-, k1, hk1, cm1, hkk1⟩ := hAr n1 (fun j => .int (g j))
  have hsum := k_sum E hst S
  obtain ⟨vm', X', step⟩ := X.arraycopy cx.1 cx.2.2.2.1 (hts _ hw) (hts _ na_acopy) (hts _ st_acopy) (hts _ in_J10) (src := kb E + a0) (dst := kb E + a1) (cs := vp_cell (kcI E) (n0, .inl f)) (cd := vp_cell (kcI E) (n1, .inl g)) (srcPos := Int32.ofInt sp) (destPos := Int32.ofInt dp) (n := Int32.ofInt n) (by rw [hT]; exact hc0) (by rw [hT]; exact hc1)
    (fun _ h => by cases h) (fun _ h => by cases h) (fun h => by cases h) (fun h => by cases h) hk0 hk1 hkk0 hkk1 (by rfl) (nneg _ hsp h1) (nneg _ hdp h2) (nneg _ hn h3)
    (by rw [t1, t3]; show ¬ _ > ((arrV _ n0 (fun j => .int (f j))).slots.size : Int); rw [arrV_size]; omega)
    (by rw [t2, t3]; show ¬ _ > ((arrV _ n1 (fun j => .int (g j))).slots.size : Int); rw [arrV_size]; omega)
    (fun vm₁ _ i hi => by
      rw [c3] at hi
      have e : (vp_cell (kcI E) (n0, .inl f)).slots.getD ((Int32.ofInt sp).toNatClampNeg + i) .null = .int (f ((Int32.ofInt sp).toNatClampNeg + i)) := by
        show (arrV _ n0 (fun j => .int (f j))).slots.getD _ _ = _
        rw [Array.getD_eq_getD_getElem?, arrV_read _ _ (by rw [c1]; omega)]
        rfl
      refine ⟨?_, ?_⟩
      · rw [e]
        rfl
      · rw [e]
        exact trivial)
    (g := F0 mm pc ls (.int (Int32.ofInt n) :: .int (Int32.ofInt dp) :: .ref (kb E + a1) :: .int (Int32.ofInt sp) :: .ref (kb E + a0) :: S.map (k_rv E))) rfl (by rw [cx.2.2.1]; exact hl.1) (rest := S.map (k_rv E)) rfl (by rw [cx.2.1]; exact hd) (by have := cx.2.2.2.2.2.2.2.1; omega)
    (by rw [hsum]; have := cx.2.2.2.2.2.2.2.2.1; have e9 : nativeFrameWords "java/lang/System" "arraycopy" 5 = 7 := by decide
        show 2 * 0 + _ + (nativeFrameWords "java/lang/System" "arraycopy" 5 + 11) ≤ _; rw [e9]; omega)
  have e1 : copied (vp_cell (kcI E) (n0, .inl f)) (vp_cell (kcI E) (n1, .inl g)) (Int32.ofInt sp) (Int32.ofInt dp) (Int32.ofInt n) = vp_cell (kcI E) (n1, .inl (va_cpy f g (Int32.ofInt sp).toNatClampNeg (Int32.ofInt dp).toNatClampNeg (Int32.ofInt n).toNatClampNeg)) := va_copied (fun z => .int z) (kcI E) (kcI E) f g (by rw [c1, c3]; omega)
  rw [e1, c1, c2, c3] at X' step
  generalize hcell : vp_cell (kcI E) (n1, .inl (va_cpy f g sp.toNat dp.toNat n.toNat)) = cell at X' step
  have hlt : kb E + a1 < H.size := (Array.getElem?_eq_some_iff.mp hc1).1
  have hheap : ((T.setVm vm').setCell (kb E + a1) cell).heap = H.setIfInBounds (kb E + a1) cell := by rw [← hT]; rfl
  have oq : ∀ q : Nat, q ≠ kb E + a1 → (H.setIfInBounds (kb E + a1) cell)[q]? = H[q]? := fun q hq => by simp [Array.getElem?_setIfInBounds, Ne.symm hq]
  have hm1' : (h.1, k_cp h.2.1 a0 a1 sp dp n, h.2.2).1[a1]? = some (100, n1) := hm1
  have hcE : k_cell E (h.1, k_cp h.2.1 a0 a1 sp dp n, h.2.2) a1 = .inl (kcI E, n1, .inl (va_cpy f g sp.toNat dp.toNat n.toNat)) := by
    rw [k_cell_i hm1']
    congr 3
    refine congrArg Sum.inl ?_
    funext j
    subst hf; subst hg
    unfold va_cpy
    show Int32.ofInt (k_cp h.2.1 a0 a1 sp dp n a1 (j : Int)) = _
    unfold k_cp
    by_cases hj : dp.toNat ≤ j ∧ j < dp.toNat + n.toNat
    · rw [if_pos hj, if_pos ⟨rfl, by omega, by omega⟩]
      have q1 := hj.1
      have q2 : sp + ((j : Int) - dp) = ((sp.toNat + (j - dp.toNat) : Nat) : Int) := by omega
      rw [q2]
    · rw [if_neg hj, if_neg (fun z => hj ⟨by have := z.2.1; omega, by have := z.2.2; omega⟩)]
  have hws := k_ws_set (E := E) (h := h) (h2 := (h.1, k_cp h.2.1 a0 a1 sp dp n, h.2.2)) (a := a1) rfl hcE (fun b hb => k_cell_cong rfl (fun j => if_neg (fun z => hb z.1)) (fun j => rfl))
  have hP1 := hR.2.set (e := .inl (kcI E, n1, .inl (va_cpy f g sp.toNat dp.toNat n.toNat))) k_wsD he1 (show (H.setIfInBounds (kb E + a1) cell)[kb E + a1]? = some _ by rw [Array.getElem?_setIfInBounds, if_pos rfl, if_pos hlt, ← hcell]) oq
  rw [hws] at hP1
  have hH2 : k_okH (kX E) (h.1, k_cp h.2.1 a0 a1 sp dp n, h.2.2) := by
    refine ⟨fun b j => ?_, hH.2⟩
    show k_in (k_cp h.2.1 a0 a1 sp dp n b j)
    unfold k_cp
    split
    · exact hH.1 _ _
    · exact hH.1 _ _
  obtain ⟨t, z1, z2⟩ := k p e R s mm args below meth c (H.setIfInBounds (kb E + a1) cell) ls _ cells slots QQ cx g1 g2 hl hS5 hH2 ⟨by rw [Array.size_setIfInBounds]; exact hR.1, hP1⟩
    ⟨by simp; exact hV.1, fun q w1 w2 => by
      rw [oq q (fun e => w2 (by rw [e]; show kb E ≤ kb E + a1; omega))]
      exact hV.2.1 q w1 w2, fun q hq => by
      rcases List.mem_append.mp hq with h | h
      · exact hV.2.2 q h
      · obtain ⟨z, -, hz⟩ := List.mem_map.mp h
        rw [← hz]
        show kb E ≤ kb E + a1
        omega⟩ kk _ hheap X'
  exact ⟨t, step t z1, z2⟩
end KW7
end
section
/-! the methods, the fields, by their places; rules again over a triple of cells -/
abbrev M_X0_init : kMd := (yX0_init, cX0_init, 2, none)
theorem q_X0_init : k_qI M_X0_init 1 := ⟨⟨co_X0_init, in_X0, by decide +kernel, by decide +kernel, by decide⟩, im_X0_init, rfl, rfl⟩
abbrev M_X0_begin : kMd := (yX0_begin, cX0_begin, 2, none)
theorem q_X0_begin : k_qV M_X0_begin 1 := ⟨⟨co_X0_begin, in_X0, by decide +kernel, by decide +kernel, by decide⟩, im_X0_begin, se_X0_begin⟩
abbrev M_X0_shortenHooks : kMd := (yX0_shortenHooks, cX0_shortenHooks, 3, none)
theorem q_X0_shortenHooks : k_qV M_X0_shortenHooks 1 := ⟨⟨co_X0_shortenHooks, in_X0, by decide +kernel, by decide +kernel, by decide⟩, im_X0_shortenHooks, se_X0_shortenHooks⟩
abbrev M_X0_goTo : kMd := (yX0_goTo, cX0_goTo, 3, none)
theorem q_X0_goTo : k_qV M_X0_goTo 1 := ⟨⟨co_X0_goTo, in_X0, by decide +kernel, by decide +kernel, by decide⟩, im_X0_goTo, se_X0_goTo⟩
abbrev M_X0_isOver : kMd := (yX0_isOver, cX0_isOver, 1, (some .boolean))
theorem q_X0_isOver : k_qV M_X0_isOver 0 := ⟨⟨co_X0_isOver, in_X0, by decide +kernel, by decide +kernel, by decide⟩, im_X0_isOver, se_X0_isOver⟩
abbrev M_X0_firstDayAllWarm : kMd := (yX0_firstDayAllWarm, cX0_firstDayAllWarm, 2, (some .int))
theorem q_X0_firstDayAllWarm : k_qV M_X0_firstDayAllWarm 0 := ⟨⟨co_X0_firstDayAllWarm, in_X0, by decide +kernel, by decide +kernel, by decide⟩, im_X0_firstDayAllWarm, se_X0_firstDayAllWarm⟩
abbrev M_X0_goThroughStorm : kMd := (yX0_goThroughStorm, cX0_goThroughStorm, 4, none)
theorem q_X0_goThroughStorm : k_qV M_X0_goThroughStorm 2 := ⟨⟨co_X0_goThroughStorm, in_X0, by decide +kernel, by decide +kernel, by decide⟩, im_X0_goThroughStorm, se_X0_goThroughStorm⟩
abbrev M_X0_draw : kMd := (yX0_draw, cX0_draw, 4, (some .int))
theorem q_X0_draw : k_qS M_X0_draw 2 := ⟨⟨co_X0_draw, in_X0, by decide +kernel, by decide +kernel, by decide⟩, st_X0_draw⟩
abbrev M_X0_blow : kMd := (yX0_blow, cX0_blow, 3, none)
theorem q_X0_blow : k_qV M_X0_blow 1 := ⟨⟨co_X0_blow, in_X0, by decide +kernel, by decide +kernel, by decide⟩, im_X0_blow, se_X0_blow⟩
abbrev M_X0_gatherToday : kMd := (yX0_gatherToday, cX0_gatherToday, 3, none)
theorem q_X0_gatherToday : k_qV M_X0_gatherToday 0 := ⟨⟨co_X0_gatherToday, in_X0, by decide +kernel, by decide +kernel, by decide⟩, im_X0_gatherToday, se_X0_gatherToday⟩
abbrev M_X1_init : kMd := (yX1_init, cX1_init, 2, none)
theorem q_X1_init : k_qI M_X1_init 1 := ⟨⟨co_X1_init, in_X1, by decide +kernel, by decide +kernel, by decide⟩, im_X1_init, rfl, rfl⟩
abbrev M_X1_whoHas : kMd := (yX1_whoHas, cX1_whoHas, 2, (some .int))
theorem q_X1_whoHas : k_qV M_X1_whoHas 1 := ⟨⟨co_X1_whoHas, in_X1, by decide +kernel, by decide +kernel, by decide⟩, im_X1_whoHas, se_X1_whoHas⟩
abbrev M_X1_find : kMd := (yX1_find, cX1_find, 4, none)
theorem q_X1_find : k_qV M_X1_find 1 := ⟨⟨co_X1_find, in_X1, by decide +kernel, by decide +kernel, by decide⟩, im_X1_find, se_X1_find⟩
abbrev M_X1_takersOf : kMd := (yX1_takersOf, cX1_takersOf, 5, (some .int))
theorem q_X1_takersOf : k_qV M_X1_takersOf 2 := ⟨⟨co_X1_takersOf, in_X1, by decide +kernel, by decide +kernel, by decide⟩, im_X1_takersOf, se_X1_takersOf⟩
abbrev M_X1_deal : kMd := (yX1_deal, cX1_deal, 6, none)
theorem q_X1_deal : k_qS M_X1_deal 4 := ⟨⟨co_X1_deal, in_X1, by decide +kernel, by decide +kernel, by decide⟩, st_X1_deal⟩
abbrev M_X1_keepIfBetter : kMd := (yX1_keepIfBetter, cX1_keepIfBetter, 2, none)
theorem q_X1_keepIfBetter : k_qV M_X1_keepIfBetter 1 := ⟨⟨co_X1_keepIfBetter, in_X1, by decide +kernel, by decide +kernel, by decide⟩, im_X1_keepIfBetter, se_X1_keepIfBetter⟩
abbrev M_X2_init : kMd := (yX2_init, cX2_init, 1, none)
theorem q_X2_init : k_qI M_X2_init 0 := ⟨⟨co_X2_init, in_X2, by decide +kernel, by decide +kernel, by decide⟩, im_X2_init, rfl, rfl⟩
abbrev M_X2_read : kMd := (yX2_read, cX2_read, 6, none)
theorem q_X2_read : k_qV M_X2_read 2 := ⟨⟨co_X2_read, in_X2, by decide +kernel, by decide +kernel, by decide⟩, im_X2_read, se_X2_read⟩
abbrev M_X2_put : kMd := (yX2_put, cX2_put, 4, none)
theorem q_X2_put : k_qV M_X2_put 3 := ⟨⟨co_X2_put, in_X2, by decide +kernel, by decide +kernel, by decide⟩, im_X2_put, se_X2_put⟩
abbrev M_X2_putBough : kMd := (yX2_putBough, cX2_putBough, 3, none)
theorem q_X2_putBough : k_qV M_X2_putBough 2 := ⟨⟨co_X2_putBough, in_X2, by decide +kernel, by decide +kernel, by decide⟩, im_X2_putBough, se_X2_putBough⟩
abbrev M_X2_putTenant : kMd := (yX2_putTenant, cX2_putTenant, 3, none)
theorem q_X2_putTenant : k_qV M_X2_putTenant 2 := ⟨⟨co_X2_putTenant, in_X2, by decide +kernel, by decide +kernel, by decide⟩, im_X2_putTenant, se_X2_putTenant⟩
abbrev M_X2_hasBough : kMd := (yX2_hasBough, cX2_hasBough, 2, (some .boolean))
theorem q_X2_hasBough : k_qV M_X2_hasBough 1 := ⟨⟨co_X2_hasBough, in_X2, by decide +kernel, by decide +kernel, by decide⟩, im_X2_hasBough, se_X2_hasBough⟩
abbrev M_X2_hasTenant : kMd := (yX2_hasTenant, cX2_hasTenant, 2, (some .boolean))
theorem q_X2_hasTenant : k_qV M_X2_hasTenant 1 := ⟨⟨co_X2_hasTenant, in_X2, by decide +kernel, by decide +kernel, by decide⟩, im_X2_hasTenant, se_X2_hasTenant⟩
abbrev M_X2_kind : kMd := (yX2_kind, cX2_kind, 2, (some .int))
theorem q_X2_kind : k_qV M_X2_kind 1 := ⟨⟨co_X2_kind, in_X2, by decide +kernel, by decide +kernel, by decide⟩, im_X2_kind, se_X2_kind⟩
abbrev M_X2_height : kMd := (yX2_height, cX2_height, 2, (some .int))
theorem q_X2_height : k_qV M_X2_height 1 := ⟨⟨co_X2_height, in_X2, by decide +kernel, by decide +kernel, by decide⟩, im_X2_height, se_X2_height⟩
abbrev M_X2_weight : kMd := (yX2_weight, cX2_weight, 2, (some .int))
theorem q_X2_weight : k_qV M_X2_weight 1 := ⟨⟨co_X2_weight, in_X2, by decide +kernel, by decide +kernel, by decide⟩, im_X2_weight, se_X2_weight⟩
abbrev M_X2_strength : kMd := (yX2_strength, cX2_strength, 2, (some .int))
theorem q_X2_strength : k_qV M_X2_strength 1 := ⟨⟨co_X2_strength, in_X2, by decide +kernel, by decide +kernel, by decide⟩, im_X2_strength, se_X2_strength⟩
abbrev M_X2_hearth : kMd := (yX2_hearth, cX2_hearth, 2, (some .int))
theorem q_X2_hearth : k_qV M_X2_hearth 1 := ⟨⟨co_X2_hearth, in_X2, by decide +kernel, by decide +kernel, by decide⟩, im_X2_hearth, se_X2_hearth⟩
abbrev M_X2_weightOf : kMd := (yX2_weightOf, cX2_weightOf, 4, (some .int))
theorem q_X2_weightOf : k_qV M_X2_weightOf 1 := ⟨⟨co_X2_weightOf, in_X2, by decide +kernel, by decide +kernel, by decide⟩, im_X2_weightOf, se_X2_weightOf⟩
abbrev M_X2_isDead : kMd := (yX2_isDead, cX2_isDead, 4, (some .boolean))
theorem q_X2_isDead : k_qV M_X2_isDead 3 := ⟨⟨co_X2_isDead, in_X2, by decide +kernel, by decide +kernel, by decide⟩, im_X2_isDead, se_X2_isDead⟩
abbrev M_X2_hasFallen : kMd := (yX2_hasFallen, cX2_hasFallen, 4, (some .boolean))
theorem q_X2_hasFallen : k_qV M_X2_hasFallen 3 := ⟨⟨co_X2_hasFallen, in_X2, by decide +kernel, by decide +kernel, by decide⟩, im_X2_hasFallen, se_X2_hasFallen⟩
abbrev M_X2_isInReach : kMd := (yX2_isInReach, cX2_isInReach, 4, (some .boolean))
theorem q_X2_isInReach : k_qV M_X2_isInReach 3 := ⟨⟨co_X2_isInReach, in_X2, by decide +kernel, by decide +kernel, by decide⟩, im_X2_isInReach, se_X2_isInReach⟩
abbrev M_X2_couldTake : kMd := (yX2_couldTake, cX2_couldTake, 6, (some .boolean))
theorem q_X2_couldTake : k_qV M_X2_couldTake 5 := ⟨⟨co_X2_couldTake, in_X2, by decide +kernel, by decide +kernel, by decide⟩, im_X2_couldTake, se_X2_couldTake⟩
abbrev M_X2_canTake : kMd := (yX2_canTake, cX2_canTake, 4, (some .boolean))
theorem q_X2_canTake : k_qV M_X2_canTake 3 := ⟨⟨co_X2_canTake, in_X2, by decide +kernel, by decide +kernel, by decide⟩, im_X2_canTake, se_X2_canTake⟩
abbrev M_X2_isCaught : kMd := (yX2_isCaught, cX2_isCaught, 4, (some .boolean))
theorem q_X2_isCaught : k_qV M_X2_isCaught 3 := ⟨⟨co_X2_isCaught, in_X2, by decide +kernel, by decide +kernel, by decide⟩, im_X2_isCaught, se_X2_isCaught⟩
abbrev M_X2_isWarm : kMd := (yX2_isWarm, cX2_isWarm, 3, (some .boolean))
theorem q_X2_isWarm : k_qV M_X2_isWarm 2 := ⟨⟨co_X2_isWarm, in_X2, by decide +kernel, by decide +kernel, by decide⟩, im_X2_isWarm, se_X2_isWarm⟩
abbrev M_X2_warmOnes : kMd := (yX2_warmOnes, cX2_warmOnes, 4, (some .int))
theorem q_X2_warmOnes : k_qV M_X2_warmOnes 1 := ⟨⟨co_X2_warmOnes, in_X2, by decide +kernel, by decide +kernel, by decide⟩, im_X2_warmOnes, se_X2_warmOnes⟩
abbrev M_X2_areAllWarm : kMd := (yX2_areAllWarm, cX2_areAllWarm, 2, (some .boolean))
theorem q_X2_areAllWarm : k_qV M_X2_areAllWarm 1 := ⟨⟨co_X2_areAllWarm, in_X2, by decide +kernel, by decide +kernel, by decide⟩, im_X2_areAllWarm, se_X2_areAllWarm⟩
abbrev M_X2_firstDayFor : kMd := (yX2_firstDayFor, cX2_firstDayFor, 5, (some .int))
theorem q_X2_firstDayFor : k_qV M_X2_firstDayFor 3 := ⟨⟨co_X2_firstDayFor, in_X2, by decide +kernel, by decide +kernel, by decide⟩, im_X2_firstDayFor, se_X2_firstDayFor⟩
abbrev M_X2_nobodyEverTakes : kMd := (yX2_nobodyEverTakes, cX2_nobodyEverTakes, 4, (some .boolean))
theorem q_X2_nobodyEverTakes : k_qV M_X2_nobodyEverTakes 2 := ⟨⟨co_X2_nobodyEverTakes, in_X2, by decide +kernel, by decide +kernel, by decide⟩, im_X2_nobodyEverTakes, se_X2_nobodyEverTakes⟩
abbrev M_X3_init : kMd := (yX3_init, cX3_init, 3, none)
theorem q_X3_init : k_qI M_X3_init 1 := ⟨⟨co_X3_init, in_X3, by decide +kernel, by decide +kernel, by decide⟩, im_X3_init, rfl, rfl⟩
abbrev M_X3_isFull : kMd := (yX3_isFull, cX3_isFull, 1, (some .boolean))
theorem q_X3_isFull : k_qV M_X3_isFull 0 := ⟨⟨co_X3_isFull, in_X3, by decide +kernel, by decide +kernel, by decide⟩, im_X3_isFull, se_X3_isFull⟩
abbrev M_X3_clear : kMd := (yX3_clear, cX3_clear, 1, none)
theorem q_X3_clear : k_qV M_X3_clear 0 := ⟨⟨co_X3_clear, in_X3, by decide +kernel, by decide +kernel, by decide⟩, im_X3_clear, se_X3_clear⟩
abbrev M_X3_add : kMd := (yX3_add, cX3_add, 2, none)
theorem q_X3_add : k_qV M_X3_add 1 := ⟨⟨co_X3_add, in_X3, by decide +kernel, by decide +kernel, by decide⟩, im_X3_add, se_X3_add⟩
abbrev M_X3_moveLastTo : kMd := (yX3_moveLastTo, cX3_moveLastTo, 2, none)
theorem q_X3_moveLastTo : k_qV M_X3_moveLastTo 1 := ⟨⟨co_X3_moveLastTo, in_X3, by decide +kernel, by decide +kernel, by decide⟩, im_X3_moveLastTo, se_X3_moveLastTo⟩
abbrev M_X3_dropOldest : kMd := (yX3_dropOldest, cX3_dropOldest, 3, none)
theorem q_X3_dropOldest : k_qV M_X3_dropOldest 0 := ⟨⟨co_X3_dropOldest, in_X3, by decide +kernel, by decide +kernel, by decide⟩, im_X3_dropOldest, se_X3_dropOldest⟩
abbrev M_X4_init : kMd := (yX4_init, cX4_init, 1, none)
theorem q_X4_init : k_qI M_X4_init 0 := ⟨⟨co_X4_init, in_X4, by decide +kernel, by decide +kernel, by decide⟩, im_X4_init, rfl, rfl⟩
abbrev M_X4_become : kMd := (yX4_become, cX4_become, 2, none)
theorem q_X4_become : k_qV M_X4_become 1 := ⟨⟨co_X4_become, in_X4, by decide +kernel, by decide +kernel, by decide⟩, im_X4_become, se_X4_become⟩
abbrev M_X4_clear : kMd := (yX4_clear, cX4_clear, 2, none)
theorem q_X4_clear : k_qV M_X4_clear 0 := ⟨⟨co_X4_clear, in_X4, by decide +kernel, by decide +kernel, by decide⟩, im_X4_clear, se_X4_clear⟩
abbrev M_X4_deadFrom : kMd := (yX4_deadFrom, cX4_deadFrom, 2, (some .int))
theorem q_X4_deadFrom : k_qV M_X4_deadFrom 1 := ⟨⟨co_X4_deadFrom, in_X4, by decide +kernel, by decide +kernel, by decide⟩, im_X4_deadFrom, se_X4_deadFrom⟩
abbrev M_X4_setDeadFrom : kMd := (yX4_setDeadFrom, cX4_setDeadFrom, 3, none)
theorem q_X4_setDeadFrom : k_qV M_X4_setDeadFrom 2 := ⟨⟨co_X4_setDeadFrom, in_X4, by decide +kernel, by decide +kernel, by decide⟩, im_X4_setDeadFrom, se_X4_setDeadFrom⟩
abbrev M_X4_isGone : kMd := (yX4_isGone, cX4_isGone, 2, (some .boolean))
theorem q_X4_isGone : k_qV M_X4_isGone 1 := ⟨⟨co_X4_isGone, in_X4, by decide +kernel, by decide +kernel, by decide⟩, im_X4_isGone, se_X4_isGone⟩
abbrev M_X4_stack : kMd := (yX4_stack, cX4_stack, 2, (some .int))
theorem q_X4_stack : k_qV M_X4_stack 1 := ⟨⟨co_X4_stack, in_X4, by decide +kernel, by decide +kernel, by decide⟩, im_X4_stack, se_X4_stack⟩
abbrev M_X4_reach : kMd := (yX4_reach, cX4_reach, 2, (some .int))
theorem q_X4_reach : k_qV M_X4_reach 1 := ⟨⟨co_X4_reach, in_X4, by decide +kernel, by decide +kernel, by decide⟩, im_X4_reach, se_X4_reach⟩
abbrev M_X4_setReach : kMd := (yX4_setReach, cX4_setReach, 3, none)
theorem q_X4_setReach : k_qV M_X4_setReach 2 := ⟨⟨co_X4_setReach, in_X4, by decide +kernel, by decide +kernel, by decide⟩, im_X4_setReach, se_X4_setReach⟩
abbrev M_X4_carried : kMd := (yX4_carried, cX4_carried, 2, (some .int))
theorem q_X4_carried : k_qV M_X4_carried 1 := ⟨⟨co_X4_carried, in_X4, by decide +kernel, by decide +kernel, by decide⟩, im_X4_carried, se_X4_carried⟩
abbrev M_X4_pick : kMd := (yX4_pick, cX4_pick, 4, none)
theorem q_X4_pick : k_qV M_X4_pick 3 := ⟨⟨co_X4_pick, in_X4, by decide +kernel, by decide +kernel, by decide⟩, im_X4_pick, se_X4_pick⟩
abbrev M_X4_loseStack : kMd := (yX4_loseStack, cX4_loseStack, 2, none)
theorem q_X4_loseStack : k_qV M_X4_loseStack 1 := ⟨⟨co_X4_loseStack, in_X4, by decide +kernel, by decide +kernel, by decide⟩, im_X4_loseStack, se_X4_loseStack⟩
abbrev M_X4_goBy : kMd := (yX4_goBy, cX4_goBy, 3, none)
theorem q_X4_goBy : k_qV M_X4_goBy 1 := ⟨⟨co_X4_goBy, in_X4, by decide +kernel, by decide +kernel, by decide⟩, im_X4_goBy, se_X4_goBy⟩
abbrev M_X5_init : kMd := (yX5_init, cX5_init, 1, none)
theorem q_X5_init : k_qI M_X5_init 0 := ⟨⟨co_X5_init, in_X5, by decide +kernel, by decide +kernel, by decide⟩, im_X5_init, rfl, rfl⟩
abbrev M_X5_isFull : kMd := (yX5_isFull, cX5_isFull, 1, (some .boolean))
theorem q_X5_isFull : k_qV M_X5_isFull 0 := ⟨⟨co_X5_isFull, in_X5, by decide +kernel, by decide +kernel, by decide⟩, im_X5_isFull, se_X5_isFull⟩
abbrev M_X5_add : kMd := (yX5_add, cX5_add, 2, none)
theorem q_X5_add : k_qV M_X5_add 1 := ⟨⟨co_X5_add, in_X5, by decide +kernel, by decide +kernel, by decide⟩, im_X5_add, se_X5_add⟩
abbrev M_X5_become : kMd := (yX5_become, cX5_become, 3, none)
theorem q_X5_become : k_qV M_X5_become 1 := ⟨⟨co_X5_become, in_X5, by decide +kernel, by decide +kernel, by decide⟩, im_X5_become, se_X5_become⟩
abbrev M_X5_letter : kMd := (yX5_letter, cX5_letter, 2, (some .char))
theorem q_X5_letter : k_qV M_X5_letter 1 := ⟨⟨co_X5_letter, in_X5, by decide +kernel, by decide +kernel, by decide⟩, im_X5_letter, se_X5_letter⟩
abbrev M_X5_number : kMd := (yX5_number, cX5_number, 2, (some .int))
theorem q_X5_number : k_qV M_X5_number 1 := ⟨⟨co_X5_number, in_X5, by decide +kernel, by decide +kernel, by decide⟩, im_X5_number, se_X5_number⟩
abbrev M_X5_firstFault : kMd := (yX5_firstFault, cX5_firstFault, 6, (some .int))
theorem q_X5_firstFault : k_qV M_X5_firstFault 0 := ⟨⟨co_X5_firstFault, in_X5, by decide +kernel, by decide +kernel, by decide⟩, im_X5_firstFault, se_X5_firstFault⟩
abbrev M_X5_canBeLaid : kMd := (yX5_canBeLaid, cX5_canBeLaid, 1, (some .boolean))
theorem q_X5_canBeLaid : k_qV M_X5_canBeLaid 0 := ⟨⟨co_X5_canBeLaid, in_X5, by decide +kernel, by decide +kernel, by decide⟩, im_X5_canBeLaid, se_X5_canBeLaid⟩
abbrev M_X5_has : kMd := (yX5_has, cX5_has, 3, (some .boolean))
theorem q_X5_has : k_qV M_X5_has 1 := ⟨⟨co_X5_has, in_X5, by decide +kernel, by decide +kernel, by decide⟩, im_X5_has, se_X5_has⟩
abbrev M_X5_readItem : kMd := (yX5_readItem, cX5_readItem, 7, (some .int))
theorem q_X5_readItem : k_qV M_X5_readItem 1 := ⟨⟨co_X5_readItem, in_X5, by decide +kernel, by decide +kernel, by decide⟩, im_X5_readItem, se_X5_readItem⟩
abbrev M_X5_readNumber : kMd := (yX5_readNumber, cX5_readNumber, 6, (some .boolean))
theorem q_X5_readNumber : k_qV M_X5_readNumber 4 := ⟨⟨co_X5_readNumber, in_X5, by decide +kernel, by decide +kernel, by decide⟩, im_X5_readNumber, se_X5_readNumber⟩
abbrev M_X5_figuresAt : kMd := (yX5_figuresAt, cX5_figuresAt, 2, (some .int))
theorem q_X5_figuresAt : k_qV M_X5_figuresAt 1 := ⟨⟨co_X5_figuresAt, in_X5, by decide +kernel, by decide +kernel, by decide⟩, im_X5_figuresAt, se_X5_figuresAt⟩
abbrev M_X5_isFigure : kMd := (yX5_isFigure, cX5_isFigure, 1, (some .boolean))
theorem q_X5_isFigure : k_qS M_X5_isFigure 1 := ⟨⟨co_X5_isFigure, in_X5, by decide +kernel, by decide +kernel, by decide⟩, st_X5_isFigure⟩
abbrev M_X5_howManyNumbers : kMd := (yX5_howManyNumbers, cX5_howManyNumbers, 1, (some .int))
theorem q_X5_howManyNumbers : k_qS M_X5_howManyNumbers 1 := ⟨⟨co_X5_howManyNumbers, in_X5, by decide +kernel, by decide +kernel, by decide⟩, st_X5_howManyNumbers⟩
abbrev M_X5_firstLimit : kMd := (yX5_firstLimit, cX5_firstLimit, 1, (some .int))
theorem q_X5_firstLimit : k_qS M_X5_firstLimit 1 := ⟨⟨co_X5_firstLimit, in_X5, by decide +kernel, by decide +kernel, by decide⟩, st_X5_firstLimit⟩
abbrev M_X6_init : kMd := (yX6_init, cX6_init, 1, none)
theorem q_X6_init : k_qI M_X6_init 0 := ⟨⟨co_X6_init, in_X6, by decide +kernel, by decide +kernel, by decide⟩, im_X6_init, rfl, rfl⟩
abbrev M_X6_write : kMd := (yX6_write, cX6_write, 2, (some .int))
theorem q_X6_write : k_qV M_X6_write 1 := ⟨⟨co_X6_write, in_X6, by decide +kernel, by decide +kernel, by decide⟩, im_X6_write, se_X6_write⟩
abbrev M_X6_wipe : kMd := (yX6_wipe, cX6_wipe, 2, (some .int))
theorem q_X6_wipe : k_qV M_X6_wipe 0 := ⟨⟨co_X6_wipe, in_X6, by decide +kernel, by decide +kernel, by decide⟩, im_X6_wipe, se_X6_wipe⟩
abbrev M_X6_fault : kMd := (yX6_fault, cX6_fault, 1, (some .int))
theorem q_X6_fault : k_qV M_X6_fault 0 := ⟨⟨co_X6_fault, in_X6, by decide +kernel, by decide +kernel, by decide⟩, im_X6_fault, se_X6_fault⟩
abbrev M_X6_lay : kMd := (yX6_lay, cX6_lay, 1, (some .int))
theorem q_X6_lay : k_qV M_X6_lay 0 := ⟨⟨co_X6_lay, in_X6, by decide +kernel, by decide +kernel, by decide⟩, im_X6_lay, se_X6_lay⟩
abbrev M_X6_bough : kMd := (yX6_bough, cX6_bough, 3, (some .int))
theorem q_X6_bough : k_qV M_X6_bough 2 := ⟨⟨co_X6_bough, in_X6, by decide +kernel, by decide +kernel, by decide⟩, im_X6_bough, se_X6_bough⟩
abbrev M_X6_tenant : kMd := (yX6_tenant, cX6_tenant, 3, (some .int))
theorem q_X6_tenant : k_qV M_X6_tenant 2 := ⟨⟨co_X6_tenant, in_X6, by decide +kernel, by decide +kernel, by decide⟩, im_X6_tenant, se_X6_tenant⟩
abbrev M_X6_can : kMd := (yX6_can, cX6_can, 3, (some .int))
theorem q_X6_can : k_qV M_X6_can 2 := ⟨⟨co_X6_can, in_X6, by decide +kernel, by decide +kernel, by decide⟩, im_X6_can, se_X6_can⟩
abbrev M_X6_take : kMd := (yX6_take, cX6_take, 4, (some .int))
theorem q_X6_take : k_qV M_X6_take 2 := ⟨⟨co_X6_take, in_X6, by decide +kernel, by decide +kernel, by decide⟩, im_X6_take, se_X6_take⟩
abbrev M_X6_pass : kMd := (yX6_pass, cX6_pass, 2, (some .int))
theorem q_X6_pass : k_qV M_X6_pass 1 := ⟨⟨co_X6_pass, in_X6, by decide +kernel, by decide +kernel, by decide⟩, im_X6_pass, se_X6_pass⟩
abbrev M_X6_hook : kMd := (yX6_hook, cX6_hook, 4, (some .int))
theorem q_X6_hook : k_qV M_X6_hook 2 := ⟨⟨co_X6_hook, in_X6, by decide +kernel, by decide +kernel, by decide⟩, im_X6_hook, se_X6_hook⟩
abbrev M_X6_ring : kMd := (yX6_ring, cX6_ring, 3, (some .int))
theorem q_X6_ring : k_qV M_X6_ring 1 := ⟨⟨co_X6_ring, in_X6, by decide +kernel, by decide +kernel, by decide⟩, im_X6_ring, se_X6_ring⟩
abbrev M_X6_undo : kMd := (yX6_undo, cX6_undo, 1, (some .int))
theorem q_X6_undo : k_qV M_X6_undo 0 := ⟨⟨co_X6_undo, in_X6, by decide +kernel, by decide +kernel, by decide⟩, im_X6_undo, se_X6_undo⟩
abbrev M_X6_warmBy : kMd := (yX6_warmBy, cX6_warmBy, 2, (some .int))
theorem q_X6_warmBy : k_qV M_X6_warmBy 1 := ⟨⟨co_X6_warmBy, in_X6, by decide +kernel, by decide +kernel, by decide⟩, im_X6_warmBy, se_X6_warmBy⟩
abbrev M_X6_allWarm : kMd := (yX6_allWarm, cX6_allWarm, 1, (some .int))
theorem q_X6_allWarm : k_qV M_X6_allWarm 0 := ⟨⟨co_X6_allWarm, in_X6, by decide +kernel, by decide +kernel, by decide⟩, im_X6_allWarm, se_X6_allWarm⟩
abbrev M_X6_share : kMd := (yX6_share, cX6_share, 2, (some .int))
theorem q_X6_share : k_qV M_X6_share 1 := ⟨⟨co_X6_share, in_X6, by decide +kernel, by decide +kernel, by decide⟩, im_X6_share, se_X6_share⟩
abbrev M_X6_leastHook : kMd := (yX6_leastHook, cX6_leastHook, 3, (some .int))
theorem q_X6_leastHook : k_qV M_X6_leastHook 1 := ⟨⟨co_X6_leastHook, in_X6, by decide +kernel, by decide +kernel, by decide⟩, im_X6_leastHook, se_X6_leastHook⟩
abbrev M_X6_pole : kMd := (yX6_pole, cX6_pole, 2, (some .int))
theorem q_X6_pole : k_qV M_X6_pole 0 := ⟨⟨co_X6_pole, in_X6, by decide +kernel, by decide +kernel, by decide⟩, im_X6_pole, se_X6_pole⟩
abbrev M_X6_firstDay : kMd := (yX6_firstDay, cX6_firstDay, 3, (some .int))
theorem q_X6_firstDay : k_qV M_X6_firstDay 2 := ⟨⟨co_X6_firstDay, in_X6, by decide +kernel, by decide +kernel, by decide⟩, im_X6_firstDay, se_X6_firstDay⟩
abbrev M_X6_sticks : kMd := (yX6_sticks, cX6_sticks, 6, (some .int))
theorem q_X6_sticks : k_qV M_X6_sticks 2 := ⟨⟨co_X6_sticks, in_X6, by decide +kernel, by decide +kernel, by decide⟩, im_X6_sticks, se_X6_sticks⟩
abbrev M_X6_whose : kMd := (yX6_whose, cX6_whose, 5, (some .int))
theorem q_X6_whose : k_qV M_X6_whose 2 := ⟨⟨co_X6_whose, in_X6, by decide +kernel, by decide +kernel, by decide⟩, im_X6_whose, se_X6_whose⟩
abbrev M_X6_sure : kMd := (yX6_sure, cX6_sure, 9, (some .int))
theorem q_X6_sure : k_qV M_X6_sure 4 := ⟨⟨co_X6_sure, in_X6, by decide +kernel, by decide +kernel, by decide⟩, im_X6_sure, se_X6_sure⟩
abbrev M_X6_waste : kMd := (yX6_waste, cX6_waste, 3, (some .int))
theorem q_X6_waste : k_qV M_X6_waste 0 := ⟨⟨co_X6_waste, in_X6, by decide +kernel, by decide +kernel, by decide⟩, im_X6_waste, se_X6_waste⟩
abbrev M_X6_needs : kMd := (yX6_needs, cX6_needs, 3, (some .int))
theorem q_X6_needs : k_qV M_X6_needs 0 := ⟨⟨co_X6_needs, in_X6, by decide +kernel, by decide +kernel, by decide⟩, im_X6_needs, se_X6_needs⟩
abbrev M_X6_storm : kMd := (yX6_storm, cX6_storm, 4, (some .int))
theorem q_X6_storm : k_qV M_X6_storm 3 := ⟨⟨co_X6_storm, in_X6, by decide +kernel, by decide +kernel, by decide⟩, im_X6_storm, se_X6_storm⟩
abbrev M_X6_keep : kMd := (yX6_keep, cX6_keep, 1, (some .int))
theorem q_X6_keep : k_qV M_X6_keep 0 := ⟨⟨co_X6_keep, in_X6, by decide +kernel, by decide +kernel, by decide⟩, im_X6_keep, se_X6_keep⟩
abbrev M_X6_back : kMd := (yX6_back, cX6_back, 1, (some .int))
theorem q_X6_back : k_qV M_X6_back 0 := ⟨⟨co_X6_back, in_X6, by decide +kernel, by decide +kernel, by decide⟩, im_X6_back, se_X6_back⟩
abbrev M_X6_count : kMd := (yX6_count, cX6_count, 2, (some .int))
theorem q_X6_count : k_qV M_X6_count 1 := ⟨⟨co_X6_count, in_X6, by decide +kernel, by decide +kernel, by decide⟩, im_X6_count, se_X6_count⟩
abbrev M_X6_isWithin : kMd := (yX6_isWithin, cX6_isWithin, 3, (some .boolean))
theorem q_X6_isWithin : k_qS M_X6_isWithin 3 := ⟨⟨co_X6_isWithin, in_X6, by decide +kernel, by decide +kernel, by decide⟩, st_X6_isWithin⟩
abbrev M_X6_bit : kMd := (yX6_bit, cX6_bit, 1, (some .int))
theorem q_X6_bit : k_qS M_X6_bit 1 := ⟨⟨co_X6_bit, in_X6, by decide +kernel, by decide +kernel, by decide⟩, st_X6_bit⟩
abbrev M_X6_commonWithTen : kMd := (yX6_commonWithTen, cX6_commonWithTen, 2, (some .int))
theorem q_X6_commonWithTen : k_qS M_X6_commonWithTen 1 := ⟨⟨co_X6_commonWithTen, in_X6, by decide +kernel, by decide +kernel, by decide⟩, st_X6_commonWithTen⟩
abbrev M_X7_init : kMd := (yX7_init, cX7_init, 1, none)
theorem q_X7_init : k_qI M_X7_init 0 := ⟨⟨co_X7_init, in_X7, by decide +kernel, by decide +kernel, by decide⟩, im_X7_init, rfl, rfl⟩
abbrev M_X7_in : kMd := (yX7_in, cX7_in, 3, (some .boolean))
theorem q_X7_in : k_qS M_X7_in 3 := ⟨⟨co_X7_in, in_X7, by decide +kernel, by decide +kernel, by decide⟩, st_X7_in⟩
abbrev M_X7_isBough : kMd := (yX7_isBough, cX7_isBough, 2, (some .boolean))
theorem q_X7_isBough : k_qV M_X7_isBough 1 := ⟨⟨co_X7_isBough, in_X7, by decide +kernel, by decide +kernel, by decide⟩, im_X7_isBough, se_X7_isBough⟩
abbrev M_X7_isTenant : kMd := (yX7_isTenant, cX7_isTenant, 2, (some .boolean))
theorem q_X7_isTenant : k_qV M_X7_isTenant 1 := ⟨⟨co_X7_isTenant, in_X7, by decide +kernel, by decide +kernel, by decide⟩, im_X7_isTenant, se_X7_isTenant⟩
abbrev M_X7_write : kMd := (yX7_write, cX7_write, 2, (some .int))
theorem q_X7_write : k_qV M_X7_write 1 := ⟨⟨co_X7_write, in_X7, by decide +kernel, by decide +kernel, by decide⟩, im_X7_write, se_X7_write⟩
abbrev M_X7_wipe : kMd := (yX7_wipe, cX7_wipe, 2, (some .int))
theorem q_X7_wipe : k_qV M_X7_wipe 0 := ⟨⟨co_X7_wipe, in_X7, by decide +kernel, by decide +kernel, by decide⟩, im_X7_wipe, se_X7_wipe⟩
abbrev M_X7_letterAt : kMd := (yX7_letterAt, cX7_letterAt, 2, (some .int))
theorem q_X7_letterAt : k_qV M_X7_letterAt 1 := ⟨⟨co_X7_letterAt, in_X7, by decide +kernel, by decide +kernel, by decide⟩, im_X7_letterAt, se_X7_letterAt⟩
abbrev M_X7_isFigure : kMd := (yX7_isFigure, cX7_isFigure, 1, (some .boolean))
theorem q_X7_isFigure : k_qS M_X7_isFigure 1 := ⟨⟨co_X7_isFigure, in_X7, by decide +kernel, by decide +kernel, by decide⟩, st_X7_isFigure⟩
abbrev M_X7_number : kMd := (yX7_number, cX7_number, 6, (some .int))
theorem q_X7_number : k_qV M_X7_number 3 := ⟨⟨co_X7_number, in_X7, by decide +kernel, by decide +kernel, by decide⟩, im_X7_number, se_X7_number⟩
abbrev M_X7_begins : kMd := (yX7_begins, cX7_begins, 2, none)
theorem q_X7_begins : k_qV M_X7_begins 0 := ⟨⟨co_X7_begins, in_X7, by decide +kernel, by decide +kernel, by decide⟩, im_X7_begins, se_X7_begins⟩
abbrev M_X7_boughOf : kMd := (yX7_boughOf, cX7_boughOf, 6, none)
theorem q_X7_boughOf : k_qV M_X7_boughOf 4 := ⟨⟨co_X7_boughOf, in_X7, by decide +kernel, by decide +kernel, by decide⟩, im_X7_boughOf, se_X7_boughOf⟩
abbrev M_X7_tenantOf : kMd := (yX7_tenantOf, cX7_tenantOf, 5, none)
theorem q_X7_tenantOf : k_qV M_X7_tenantOf 3 := ⟨⟨co_X7_tenantOf, in_X7, by decide +kernel, by decide +kernel, by decide⟩, im_X7_tenantOf, se_X7_tenantOf⟩
abbrev M_X7_readsItem : kMd := (yX7_readsItem, cX7_readsItem, 6, (some .boolean))
theorem q_X7_readsItem : k_qV M_X7_readsItem 1 := ⟨⟨co_X7_readsItem, in_X7, by decide +kernel, by decide +kernel, by decide⟩, im_X7_readsItem, se_X7_readsItem⟩
abbrev M_X7_readsAll : kMd := (yX7_readsAll, cX7_readsAll, 2, (some .int))
theorem q_X7_readsAll : k_qV M_X7_readsAll 0 := ⟨⟨co_X7_readsAll, in_X7, by decide +kernel, by decide +kernel, by decide⟩, im_X7_readsAll, se_X7_readsAll⟩
abbrev M_X7_fault : kMd := (yX7_fault, cX7_fault, 1, (some .int))
theorem q_X7_fault : k_qV M_X7_fault 0 := ⟨⟨co_X7_fault, in_X7, by decide +kernel, by decide +kernel, by decide⟩, im_X7_fault, se_X7_fault⟩
abbrev M_X7_lays : kMd := (yX7_lays, cX7_lays, 2, none)
theorem q_X7_lays : k_qV M_X7_lays 0 := ⟨⟨co_X7_lays, in_X7, by decide +kernel, by decide +kernel, by decide⟩, im_X7_lays, se_X7_lays⟩
abbrev M_X7_lay : kMd := (yX7_lay, cX7_lay, 1, (some .int))
theorem q_X7_lay : k_qV M_X7_lay 0 := ⟨⟨co_X7_lay, in_X7, by decide +kernel, by decide +kernel, by decide⟩, im_X7_lay, se_X7_lay⟩
abbrev M_X7_isDead : kMd := (yX7_isDead, cX7_isDead, 3, (some .boolean))
theorem q_X7_isDead : k_qV M_X7_isDead 2 := ⟨⟨co_X7_isDead, in_X7, by decide +kernel, by decide +kernel, by decide⟩, im_X7_isDead, se_X7_isDead⟩
abbrev M_X7_isFallen : kMd := (yX7_isFallen, cX7_isFallen, 3, (some .boolean))
theorem q_X7_isFallen : k_qV M_X7_isFallen 2 := ⟨⟨co_X7_isFallen, in_X7, by decide +kernel, by decide +kernel, by decide⟩, im_X7_isFallen, se_X7_isFallen⟩
abbrev M_X7_bough : kMd := (yX7_bough, cX7_bough, 3, (some .int))
theorem q_X7_bough : k_qV M_X7_bough 2 := ⟨⟨co_X7_bough, in_X7, by decide +kernel, by decide +kernel, by decide⟩, im_X7_bough, se_X7_bough⟩
abbrev M_X7_isWarm : kMd := (yX7_isWarm, cX7_isWarm, 2, (some .boolean))
theorem q_X7_isWarm : k_qV M_X7_isWarm 1 := ⟨⟨co_X7_isWarm, in_X7, by decide +kernel, by decide +kernel, by decide⟩, im_X7_isWarm, se_X7_isWarm⟩
abbrev M_X7_tenant : kMd := (yX7_tenant, cX7_tenant, 3, (some .int))
theorem q_X7_tenant : k_qV M_X7_tenant 2 := ⟨⟨co_X7_tenant, in_X7, by decide +kernel, by decide +kernel, by decide⟩, im_X7_tenant, se_X7_tenant⟩
abbrev M_X7_could : kMd := (yX7_could, cX7_could, 9, (some .boolean))
theorem q_X7_could : k_qV M_X7_could 4 := ⟨⟨co_X7_could, in_X7, by decide +kernel, by decide +kernel, by decide⟩, im_X7_could, se_X7_could⟩
abbrev M_X7_canNow : kMd := (yX7_canNow, cX7_canNow, 3, (some .boolean))
theorem q_X7_canNow : k_qV M_X7_canNow 2 := ⟨⟨co_X7_canNow, in_X7, by decide +kernel, by decide +kernel, by decide⟩, im_X7_canNow, se_X7_canNow⟩
abbrev M_X7_keeps : kMd := (yX7_keeps, cX7_keeps, 2, none)
theorem q_X7_keeps : k_qV M_X7_keeps 0 := ⟨⟨co_X7_keeps, in_X7, by decide +kernel, by decide +kernel, by decide⟩, im_X7_keeps, se_X7_keeps⟩
abbrev M_X7_can : kMd := (yX7_can, cX7_can, 3, (some .int))
theorem q_X7_can : k_qV M_X7_can 2 := ⟨⟨co_X7_can, in_X7, by decide +kernel, by decide +kernel, by decide⟩, im_X7_can, se_X7_can⟩
abbrev M_X7_takes : kMd := (yX7_takes, cX7_takes, 3, none)
theorem q_X7_takes : k_qV M_X7_takes 2 := ⟨⟨co_X7_takes, in_X7, by decide +kernel, by decide +kernel, by decide⟩, im_X7_takes, se_X7_takes⟩
abbrev M_X7_take : kMd := (yX7_take, cX7_take, 4, (some .int))
theorem q_X7_take : k_qV M_X7_take 2 := ⟨⟨co_X7_take, in_X7, by decide +kernel, by decide +kernel, by decide⟩, im_X7_take, se_X7_take⟩
abbrev M_X7_passes : kMd := (yX7_passes, cX7_passes, 2, none)
theorem q_X7_passes : k_qV M_X7_passes 0 := ⟨⟨co_X7_passes, in_X7, by decide +kernel, by decide +kernel, by decide⟩, im_X7_passes, se_X7_passes⟩
abbrev M_X7_pass : kMd := (yX7_pass, cX7_pass, 3, (some .int))
theorem q_X7_pass : k_qV M_X7_pass 1 := ⟨⟨co_X7_pass, in_X7, by decide +kernel, by decide +kernel, by decide⟩, im_X7_pass, se_X7_pass⟩
abbrev M_X7_hook : kMd := (yX7_hook, cX7_hook, 4, (some .int))
theorem q_X7_hook : k_qV M_X7_hook 2 := ⟨⟨co_X7_hook, in_X7, by decide +kernel, by decide +kernel, by decide⟩, im_X7_hook, se_X7_hook⟩
abbrev M_X7_ring : kMd := (yX7_ring, cX7_ring, 3, (some .int))
theorem q_X7_ring : k_qV M_X7_ring 1 := ⟨⟨co_X7_ring, in_X7, by decide +kernel, by decide +kernel, by decide⟩, im_X7_ring, se_X7_ring⟩
abbrev M_X7_undo : kMd := (yX7_undo, cX7_undo, 2, (some .int))
theorem q_X7_undo : k_qV M_X7_undo 0 := ⟨⟨co_X7_undo, in_X7, by decide +kernel, by decide +kernel, by decide⟩, im_X7_undo, se_X7_undo⟩
abbrev M_X7_holds : kMd := (yX7_holds, cX7_holds, 2, none)
theorem q_X7_holds : k_qV M_X7_holds 0 := ⟨⟨co_X7_holds, in_X7, by decide +kernel, by decide +kernel, by decide⟩, im_X7_holds, se_X7_holds⟩
abbrev M_X7_lets : kMd := (yX7_lets, cX7_lets, 2, none)
theorem q_X7_lets : k_qV M_X7_lets 0 := ⟨⟨co_X7_lets, in_X7, by decide +kernel, by decide +kernel, by decide⟩, im_X7_lets, se_X7_lets⟩
abbrev M_X7_eachTakes : kMd := (yX7_eachTakes, cX7_eachTakes, 3, none)
theorem q_X7_eachTakes : k_qV M_X7_eachTakes 0 := ⟨⟨co_X7_eachTakes, in_X7, by decide +kernel, by decide +kernel, by decide⟩, im_X7_eachTakes, se_X7_eachTakes⟩
abbrev M_X7_warm : kMd := (yX7_warm, cX7_warm, 3, (some .int))
theorem q_X7_warm : k_qV M_X7_warm 0 := ⟨⟨co_X7_warm, in_X7, by decide +kernel, by decide +kernel, by decide⟩, im_X7_warm, se_X7_warm⟩
abbrev M_X7_warmAt : kMd := (yX7_warmAt, cX7_warmAt, 2, (some .int))
theorem q_X7_warmAt : k_qV M_X7_warmAt 1 := ⟨⟨co_X7_warmAt, in_X7, by decide +kernel, by decide +kernel, by decide⟩, im_X7_warmAt, se_X7_warmAt⟩
abbrev M_X7_warmBy : kMd := (yX7_warmBy, cX7_warmBy, 3, (some .int))
theorem q_X7_warmBy : k_qV M_X7_warmBy 1 := ⟨⟨co_X7_warmBy, in_X7, by decide +kernel, by decide +kernel, by decide⟩, im_X7_warmBy, se_X7_warmBy⟩
abbrev M_X7_allWarm : kMd := (yX7_allWarm, cX7_allWarm, 2, (some .int))
theorem q_X7_allWarm : k_qV M_X7_allWarm 0 := ⟨⟨co_X7_allWarm, in_X7, by decide +kernel, by decide +kernel, by decide⟩, im_X7_allWarm, se_X7_allWarm⟩
abbrev M_X7_share : kMd := (yX7_share, cX7_share, 13, (some .int))
theorem q_X7_share : k_qV M_X7_share 1 := ⟨⟨co_X7_share, in_X7, by decide +kernel, by decide +kernel, by decide⟩, im_X7_share, se_X7_share⟩
abbrev M_X7_leastHook : kMd := (yX7_leastHook, cX7_leastHook, 4, (some .int))
theorem q_X7_leastHook : k_qV M_X7_leastHook 1 := ⟨⟨co_X7_leastHook, in_X7, by decide +kernel, by decide +kernel, by decide⟩, im_X7_leastHook, se_X7_leastHook⟩
abbrev M_X7_pole : kMd := (yX7_pole, cX7_pole, 4, (some .int))
theorem q_X7_pole : k_qV M_X7_pole 0 := ⟨⟨co_X7_pole, in_X7, by decide +kernel, by decide +kernel, by decide⟩, im_X7_pole, se_X7_pole⟩
abbrev M_X7_firstOf : kMd := (yX7_firstOf, cX7_firstOf, 5, (some .int))
theorem q_X7_firstOf : k_qV M_X7_firstOf 2 := ⟨⟨co_X7_firstOf, in_X7, by decide +kernel, by decide +kernel, by decide⟩, im_X7_firstOf, se_X7_firstOf⟩
abbrev M_X7_firstDay : kMd := (yX7_firstDay, cX7_firstDay, 3, (some .int))
theorem q_X7_firstDay : k_qV M_X7_firstDay 2 := ⟨⟨co_X7_firstDay, in_X7, by decide +kernel, by decide +kernel, by decide⟩, im_X7_firstDay, se_X7_firstDay⟩
abbrev M_X7_sticks : kMd := (yX7_sticks, cX7_sticks, 10, (some .int))
theorem q_X7_sticks : k_qV M_X7_sticks 2 := ⟨⟨co_X7_sticks, in_X7, by decide +kernel, by decide +kernel, by decide⟩, im_X7_sticks, se_X7_sticks⟩
abbrev M_X7_whose : kMd := (yX7_whose, cX7_whose, 5, (some .int))
theorem q_X7_whose : k_qV M_X7_whose 2 := ⟨⟨co_X7_whose, in_X7, by decide +kernel, by decide +kernel, by decide⟩, im_X7_whose, se_X7_whose⟩
abbrev M_X7_sure : kMd := (yX7_sure, cX7_sure, 10, (some .int))
theorem q_X7_sure : k_qV M_X7_sure 4 := ⟨⟨co_X7_sure, in_X7, by decide +kernel, by decide +kernel, by decide⟩, im_X7_sure, se_X7_sure⟩
abbrev M_X7_waste : kMd := (yX7_waste, cX7_waste, 5, (some .int))
theorem q_X7_waste : k_qV M_X7_waste 0 := ⟨⟨co_X7_waste, in_X7, by decide +kernel, by decide +kernel, by decide⟩, im_X7_waste, se_X7_waste⟩
abbrev M_X7_needs : kMd := (yX7_needs, cX7_needs, 3, (some .int))
theorem q_X7_needs : k_qV M_X7_needs 0 := ⟨⟨co_X7_needs, in_X7, by decide +kernel, by decide +kernel, by decide⟩, im_X7_needs, se_X7_needs⟩
abbrev M_X7_weighs : kMd := (yX7_weighs, cX7_weighs, 3, (some .int))
theorem q_X7_weighs : k_qV M_X7_weighs 0 := ⟨⟨co_X7_weighs, in_X7, by decide +kernel, by decide +kernel, by decide⟩, im_X7_weighs, se_X7_weighs⟩
abbrev M_X7_storm : kMd := (yX7_storm, cX7_storm, 11, (some .int))
theorem q_X7_storm : k_qV M_X7_storm 3 := ⟨⟨co_X7_storm, in_X7, by decide +kernel, by decide +kernel, by decide⟩, im_X7_storm, se_X7_storm⟩
abbrev M_X7_keep : kMd := (yX7_keep, cX7_keep, 2, (some .int))
theorem q_X7_keep : k_qV M_X7_keep 0 := ⟨⟨co_X7_keep, in_X7, by decide +kernel, by decide +kernel, by decide⟩, im_X7_keep, se_X7_keep⟩
abbrev M_X7_back : kMd := (yX7_back, cX7_back, 2, (some .int))
theorem q_X7_back : k_qV M_X7_back 0 := ⟨⟨co_X7_back, in_X7, by decide +kernel, by decide +kernel, by decide⟩, im_X7_back, se_X7_back⟩
abbrev M_X7_count : kMd := (yX7_count, cX7_count, 4, (some .int))
theorem q_X7_count : k_qV M_X7_count 1 := ⟨⟨co_X7_count, in_X7, by decide +kernel, by decide +kernel, by decide⟩, im_X7_count, se_X7_count⟩
abbrev M_J6_bitCount_0f7a4 : kMd := (yJ6_bitCount_0f7a4, cJ6_bitCount_0f7a4, 1, (some .int))
theorem q_J6_bitCount_0f7a4 : k_qS M_J6_bitCount_0f7a4 1 := ⟨⟨co_J6_bitCount_0f7a4, in_J6, by decide +kernel, by decide +kernel, by decide⟩, st_J6_bitCount_0f7a4⟩
abbrev M_J0_length_8abf5 : kMd := (yJ0_length_8abf5, cJ0_length_8abf5, 1, (some .int))
theorem q_J0_length_8abf5 : k_qV M_J0_length_8abf5 0 := ⟨⟨co_J0_length_8abf5, in_J0, by decide +kernel, by decide +kernel, by decide⟩, im_J0_length_8abf5, se_J0_length_8abf5⟩
abbrev M_J0_charAt_5068e : kMd := (yJ0_charAt_5068e, cJ0_charAt_5068e, 2, (some .char))
theorem q_J0_charAt_5068e : k_qV M_J0_charAt_5068e 1 := ⟨⟨co_J0_charAt_5068e, in_J0, by decide +kernel, by decide +kernel, by decide⟩, im_J0_charAt_5068e, se_J0_charAt_5068e⟩
abbrev M_J0_coder_7d493 : kMd := (yJ0_coder_7d493, cJ0_coder_7d493, 1, (some .byte))
theorem q_J0_coder_7d493 : k_qV M_J0_coder_7d493 0 := ⟨⟨co_J0_coder_7d493, in_J0, by decide +kernel, by decide +kernel, by decide⟩, im_J0_coder_7d493, se_J0_coder_7d493⟩
abbrev M_J0_isLatin1_aae02 : kMd := (yJ0_isLatin1_aae02, cJ0_isLatin1_aae02, 1, (some .boolean))
theorem q_J0_isLatin1_aae02 : k_qV M_J0_isLatin1_aae02 0 := ⟨⟨co_J0_isLatin1_aae02, in_J0, by decide +kernel, by decide +kernel, by decide⟩, im_J0_isLatin1_aae02, se_J0_isLatin1_aae02⟩
abbrev M_J0_checkIndex_df160 : kMd := (yJ0_checkIndex_df160, cJ0_checkIndex_df160, 2, none)
theorem q_J0_checkIndex_df160 : k_qS M_J0_checkIndex_df160 2 := ⟨⟨co_J0_checkIndex_df160, in_J0, by decide +kernel, by decide +kernel, by decide⟩, st_J0_checkIndex_df160⟩
abbrev M_J1_charAt_3b067 : kMd := (yJ1_charAt_3b067, cJ1_charAt_3b067, 2, (some .char))
theorem q_J1_charAt_3b067 : k_qS M_J1_charAt_3b067 2 := ⟨⟨co_J1_charAt_3b067, in_J1, by decide +kernel, by decide +kernel, by decide⟩, st_J1_charAt_3b067⟩
abbrev M_J2_getChar_3b067 : kMd := (yJ2_getChar_3b067, cJ2_getChar_3b067, 2, (some .char))
theorem q_J2_getChar_3b067 : k_qS M_J2_getChar_3b067 2 := ⟨⟨co_J2_getChar_3b067, in_J2, by decide +kernel, by decide +kernel, by decide⟩, st_J2_getChar_3b067⟩
abbrev M_J2_length_9d52b : kMd := (yJ2_length_9d52b, cJ2_length_9d52b, 1, (some .int))
theorem q_J2_length_9d52b : k_qS M_J2_length_9d52b 1 := ⟨⟨co_J2_length_9d52b, in_J2, by decide +kernel, by decide +kernel, by decide⟩, st_J2_length_9d52b⟩
abbrev M_J2_charAt_3b067 : kMd := (yJ2_charAt_3b067, cJ2_charAt_3b067, 2, (some .char))
theorem q_J2_charAt_3b067 : k_qS M_J2_charAt_3b067 2 := ⟨⟨co_J2_charAt_3b067, in_J2, by decide +kernel, by decide +kernel, by decide⟩, st_J2_charAt_3b067⟩
abbrev M_J2_checkIndex_2214a : kMd := (yJ2_checkIndex_2214a, cJ2_checkIndex_2214a, 2, none)
theorem q_J2_checkIndex_2214a : k_qS M_J2_checkIndex_2214a 2 := ⟨⟨co_J2_checkIndex_2214a, in_J2, by decide +kernel, by decide +kernel, by decide⟩, st_J2_checkIndex_2214a⟩
abbrev M_J3_checkIndex_8e157 : kMd := (yJ3_checkIndex_8e157, cJ3_checkIndex_8e157, 3, (some .int))
theorem q_J3_checkIndex_8e157 : k_qS M_J3_checkIndex_8e157 3 := ⟨⟨co_J3_checkIndex_8e157, in_J3, by decide +kernel, by decide +kernel, by decide⟩, st_J3_checkIndex_8e157⟩
abbrev M_L_law : kMd := (x, code, 4, some .boolean)
theorem kp_X5_11 : k_fld RX5 11 5 0 3 true := ⟨RX5, TX5, tyX5, rfl, inK5, by decide, fl_X5_11, tyX5_ok, nmX5, (fun h => by cases h), (fun _ v hv => by rcases hv with rfl | ⟨a, rfl⟩ <;> exact ⟨rfl, rfl⟩), rfl, (fun _ => rfl)⟩
theorem kf_X5_11 : k_fldr RX5 11 5 0 3 := ⟨RX5, TX5, rfl, inK5, by decide, fl_X5_11⟩
theorem kp_X5_15 : k_fld RX5 15 5 1 3 true := ⟨RX5, TX5, tyX5, rfl, inK5, by decide, fl_X5_15, tyX5_ok, nmX5, (fun h => by cases h), (fun _ v hv => by rcases hv with rfl | ⟨a, rfl⟩ <;> exact ⟨rfl, rfl⟩), rfl, (fun _ => rfl)⟩
theorem kf_X5_15 : k_fldr RX5 15 5 1 3 := ⟨RX5, TX5, rfl, inK5, by decide, fl_X5_15⟩
theorem kp_X6_68 : k_fld RX6 68 5 2 3 false := ⟨RX5, TX5, tyX5, rfl, inK5, by decide, fl_X6_68, tyX5_ok, nmX5, (fun _ => rfl), (fun h => by cases h), rfl, (fun h => by cases h)⟩
theorem kf_X6_68 : k_fldr RX6 68 5 2 3 := ⟨RX5, TX5, rfl, inK5, by decide, fl_X6_68⟩
theorem kp_X5_19 : k_fld RX5 19 5 2 3 false := ⟨RX5, TX5, tyX5, rfl, inK5, by decide, fl_X5_19, tyX5_ok, nmX5, (fun _ => rfl), (fun h => by cases h), rfl, (fun h => by cases h)⟩
theorem kf_X5_19 : k_fldr RX5 19 5 2 3 := ⟨RX5, TX5, rfl, inK5, by decide, fl_X5_19⟩
theorem kp_X2_50 : k_fld RX2 50 5 2 3 false := ⟨RX5, TX5, tyX5, rfl, inK5, by decide, fl_X2_50, tyX5_ok, nmX5, (fun _ => rfl), (fun h => by cases h), rfl, (fun h => by cases h)⟩
theorem kf_X2_50 : k_fldr RX2 50 5 2 3 := ⟨RX5, TX5, rfl, inK5, by decide, fl_X2_50⟩
theorem kp_X2_9 : k_fld RX2 9 2 0 10 true := ⟨RX2, TX2, tyX2, rfl, inK2, by decide, fl_X2_9, tyX2_ok, nmX2, (fun h => by cases h), (fun _ v hv => by rcases hv with rfl | ⟨a, rfl⟩ <;> exact ⟨rfl, rfl⟩), rfl, (fun _ => rfl)⟩
theorem kf_X2_9 : k_fldr RX2 9 2 0 10 := ⟨RX2, TX2, rfl, inK2, by decide, fl_X2_9⟩
theorem kp_X2_15 : k_fld RX2 15 2 1 10 true := ⟨RX2, TX2, tyX2, rfl, inK2, by decide, fl_X2_15, tyX2_ok, nmX2, (fun h => by cases h), (fun _ v hv => by rcases hv with rfl | ⟨a, rfl⟩ <;> exact ⟨rfl, rfl⟩), rfl, (fun _ => rfl)⟩
theorem kf_X2_15 : k_fldr RX2 15 2 1 10 := ⟨RX2, TX2, rfl, inK2, by decide, fl_X2_15⟩
theorem kp_X2_18 : k_fld RX2 18 2 2 10 true := ⟨RX2, TX2, tyX2, rfl, inK2, by decide, fl_X2_18, tyX2_ok, nmX2, (fun h => by cases h), (fun _ v hv => by rcases hv with rfl | ⟨a, rfl⟩ <;> exact ⟨rfl, rfl⟩), rfl, (fun _ => rfl)⟩
theorem kf_X2_18 : k_fldr RX2 18 2 2 10 := ⟨RX2, TX2, rfl, inK2, by decide, fl_X2_18⟩
theorem kp_X2_21 : k_fld RX2 21 2 3 10 true := ⟨RX2, TX2, tyX2, rfl, inK2, by decide, fl_X2_21, tyX2_ok, nmX2, (fun h => by cases h), (fun _ v hv => by rcases hv with rfl | ⟨a, rfl⟩ <;> exact ⟨rfl, rfl⟩), rfl, (fun _ => rfl)⟩
theorem kf_X2_21 : k_fldr RX2 21 2 3 10 := ⟨RX2, TX2, rfl, inK2, by decide, fl_X2_21⟩
theorem kp_X2_24 : k_fld RX2 24 2 4 10 true := ⟨RX2, TX2, tyX2, rfl, inK2, by decide, fl_X2_24, tyX2_ok, nmX2, (fun h => by cases h), (fun _ v hv => by rcases hv with rfl | ⟨a, rfl⟩ <;> exact ⟨rfl, rfl⟩), rfl, (fun _ => rfl)⟩
theorem kf_X2_24 : k_fldr RX2 24 2 4 10 := ⟨RX2, TX2, rfl, inK2, by decide, fl_X2_24⟩
theorem kp_X2_27 : k_fld RX2 27 2 5 10 false := ⟨RX2, TX2, tyX2, rfl, inK2, by decide, fl_X2_27, tyX2_ok, nmX2, (fun _ => rfl), (fun h => by cases h), rfl, (fun h => by cases h)⟩
theorem kf_X2_27 : k_fldr RX2 27 2 5 10 := ⟨RX2, TX2, rfl, inK2, by decide, fl_X2_27⟩
theorem kp_X0_63 : k_fld RX0 63 2 5 10 false := ⟨RX2, TX2, tyX2, rfl, inK2, by decide, fl_X0_63, tyX2_ok, nmX2, (fun _ => rfl), (fun h => by cases h), rfl, (fun h => by cases h)⟩
theorem kf_X0_63 : k_fldr RX0 63 2 5 10 := ⟨RX2, TX2, rfl, inK2, by decide, fl_X0_63⟩
theorem kp_X6_94 : k_fld RX6 94 2 5 10 false := ⟨RX2, TX2, tyX2, rfl, inK2, by decide, fl_X6_94, tyX2_ok, nmX2, (fun _ => rfl), (fun h => by cases h), rfl, (fun h => by cases h)⟩
theorem kf_X6_94 : k_fldr RX6 94 2 5 10 := ⟨RX2, TX2, rfl, inK2, by decide, fl_X6_94⟩
theorem kp_X2_31 : k_fld RX2 31 2 6 10 false := ⟨RX2, TX2, tyX2, rfl, inK2, by decide, fl_X2_31, tyX2_ok, nmX2, (fun _ => rfl), (fun h => by cases h), rfl, (fun h => by cases h)⟩
theorem kf_X2_31 : k_fldr RX2 31 2 6 10 := ⟨RX2, TX2, rfl, inK2, by decide, fl_X2_31⟩
theorem kp_X0_26 : k_fld RX0 26 2 6 10 false := ⟨RX2, TX2, tyX2, rfl, inK2, by decide, fl_X0_26, tyX2_ok, nmX2, (fun _ => rfl), (fun h => by cases h), rfl, (fun h => by cases h)⟩
theorem kf_X0_26 : k_fldr RX0 26 2 6 10 := ⟨RX2, TX2, rfl, inK2, by decide, fl_X0_26⟩
theorem kp_X1_64 : k_fld RX1 64 2 6 10 false := ⟨RX2, TX2, tyX2, rfl, inK2, by decide, fl_X1_64, tyX2_ok, nmX2, (fun _ => rfl), (fun h => by cases h), rfl, (fun h => by cases h)⟩
theorem kf_X1_64 : k_fldr RX1 64 2 6 10 := ⟨RX2, TX2, rfl, inK2, by decide, fl_X1_64⟩
theorem kp_X6_227 : k_fld RX6 227 2 6 10 false := ⟨RX2, TX2, tyX2, rfl, inK2, by decide, fl_X6_227, tyX2_ok, nmX2, (fun _ => rfl), (fun h => by cases h), rfl, (fun h => by cases h)⟩
theorem kf_X6_227 : k_fldr RX6 227 2 6 10 := ⟨RX2, TX2, rfl, inK2, by decide, fl_X6_227⟩
theorem kp_X2_34 : k_fld RX2 34 2 7 10 false := ⟨RX2, TX2, tyX2, rfl, inK2, by decide, fl_X2_34, tyX2_ok, nmX2, (fun _ => rfl), (fun h => by cases h), rfl, (fun h => by cases h)⟩
theorem kf_X2_34 : k_fldr RX2 34 2 7 10 := ⟨RX2, TX2, rfl, inK2, by decide, fl_X2_34⟩
theorem kp_X6_234 : k_fld RX6 234 2 7 10 false := ⟨RX2, TX2, tyX2, rfl, inK2, by decide, fl_X6_234, tyX2_ok, nmX2, (fun _ => rfl), (fun h => by cases h), rfl, (fun h => by cases h)⟩
theorem kf_X6_234 : k_fldr RX6 234 2 7 10 := ⟨RX2, TX2, rfl, inK2, by decide, fl_X6_234⟩
theorem kp_X2_37 : k_fld RX2 37 2 8 10 false := ⟨RX2, TX2, tyX2, rfl, inK2, by decide, fl_X2_37, tyX2_ok, nmX2, (fun _ => rfl), (fun h => by cases h), rfl, (fun h => by cases h)⟩
theorem kf_X2_37 : k_fldr RX2 37 2 8 10 := ⟨RX2, TX2, rfl, inK2, by decide, fl_X2_37⟩
theorem kp_X6_253 : k_fld RX6 253 2 8 10 false := ⟨RX2, TX2, tyX2, rfl, inK2, by decide, fl_X6_253, tyX2_ok, nmX2, (fun _ => rfl), (fun h => by cases h), rfl, (fun h => by cases h)⟩
theorem kf_X6_253 : k_fldr RX6 253 2 8 10 := ⟨RX2, TX2, rfl, inK2, by decide, fl_X6_253⟩
theorem kp_X2_40 : k_fld RX2 40 2 9 10 false := ⟨RX2, TX2, tyX2, rfl, inK2, by decide, fl_X2_40, tyX2_ok, nmX2, (fun _ => rfl), (fun h => by cases h), rfl, (fun h => by cases h)⟩
theorem kf_X2_40 : k_fldr RX2 40 2 9 10 := ⟨RX2, TX2, rfl, inK2, by decide, fl_X2_40⟩
theorem kp_X0_87 : k_fld RX0 87 2 9 10 false := ⟨RX2, TX2, tyX2, rfl, inK2, by decide, fl_X0_87, tyX2_ok, nmX2, (fun _ => rfl), (fun h => by cases h), rfl, (fun h => by cases h)⟩
theorem kf_X0_87 : k_fldr RX0 87 2 9 10 := ⟨RX2, TX2, rfl, inK2, by decide, fl_X0_87⟩
theorem kp_X6_256 : k_fld RX6 256 2 9 10 false := ⟨RX2, TX2, tyX2, rfl, inK2, by decide, fl_X6_256, tyX2_ok, nmX2, (fun _ => rfl), (fun h => by cases h), rfl, (fun h => by cases h)⟩
theorem kf_X6_256 : k_fldr RX6 256 2 9 10 := ⟨RX2, TX2, rfl, inK2, by decide, fl_X6_256⟩
theorem kp_X4_11 : k_fld RX4 11 4 0 3 true := ⟨RX4, TX4, tyX4, rfl, inK4, by decide, fl_X4_11, tyX4_ok, nmX4, (fun h => by cases h), (fun _ v hv => by rcases hv with rfl | ⟨a, rfl⟩ <;> exact ⟨rfl, rfl⟩), rfl, (fun _ => rfl)⟩
theorem kf_X4_11 : k_fldr RX4 11 4 0 3 := ⟨RX4, TX4, rfl, inK4, by decide, fl_X4_11⟩
theorem kp_X4_15 : k_fld RX4 15 4 1 3 false := ⟨RX4, TX4, tyX4, rfl, inK4, by decide, fl_X4_15, tyX4_ok, nmX4, (fun _ => rfl), (fun h => by cases h), rfl, (fun h => by cases h)⟩
theorem kf_X4_15 : k_fldr RX4 15 4 1 3 := ⟨RX4, TX4, rfl, inK4, by decide, fl_X4_15⟩
theorem kp_X0_53 : k_fld RX0 53 4 1 3 false := ⟨RX4, TX4, tyX4, rfl, inK4, by decide, fl_X0_53, tyX4_ok, nmX4, (fun _ => rfl), (fun h => by cases h), rfl, (fun h => by cases h)⟩
theorem kf_X0_53 : k_fldr RX0 53 4 1 3 := ⟨RX4, TX4, rfl, inK4, by decide, fl_X0_53⟩
theorem kp_X6_114 : k_fld RX6 114 4 1 3 false := ⟨RX4, TX4, tyX4, rfl, inK4, by decide, fl_X6_114, tyX4_ok, nmX4, (fun _ => rfl), (fun h => by cases h), rfl, (fun h => by cases h)⟩
theorem kf_X6_114 : k_fldr RX6 114 4 1 3 := ⟨RX4, TX4, rfl, inK4, by decide, fl_X6_114⟩
theorem kp_X2_114 : k_fld RX2 114 4 1 3 false := ⟨RX4, TX4, tyX4, rfl, inK4, by decide, fl_X2_114, tyX4_ok, nmX4, (fun _ => rfl), (fun h => by cases h), rfl, (fun h => by cases h)⟩
theorem kf_X2_114 : k_fldr RX2 114 4 1 3 := ⟨RX4, TX4, rfl, inK4, by decide, fl_X2_114⟩
theorem kp_X4_19 : k_fld RX4 19 4 2 3 false := ⟨RX4, TX4, tyX4, rfl, inK4, by decide, fl_X4_19, tyX4_ok, nmX4, (fun _ => rfl), (fun h => by cases h), rfl, (fun h => by cases h)⟩
theorem kf_X4_19 : k_fldr RX4 19 4 2 3 := ⟨RX4, TX4, rfl, inK4, by decide, fl_X4_19⟩
theorem kp_X0_60 : k_fld RX0 60 4 2 3 false := ⟨RX4, TX4, tyX4, rfl, inK4, by decide, fl_X0_60, tyX4_ok, nmX4, (fun _ => rfl), (fun h => by cases h), rfl, (fun h => by cases h)⟩
theorem kf_X0_60 : k_fldr RX0 60 4 2 3 := ⟨RX4, TX4, rfl, inK4, by decide, fl_X0_60⟩
theorem kp_X6_221 : k_fld RX6 221 4 2 3 false := ⟨RX4, TX4, tyX4, rfl, inK4, by decide, fl_X6_221, tyX4_ok, nmX4, (fun _ => rfl), (fun h => by cases h), rfl, (fun h => by cases h)⟩
theorem kf_X6_221 : k_fldr RX6 221 4 2 3 := ⟨RX4, TX4, rfl, inK4, by decide, fl_X6_221⟩
theorem kp_X3_15 : k_fld RX3 15 3 0 2 true := ⟨RX3, TX3, tyX3, rfl, inK3, by decide, fl_X3_15, tyX3_ok, nmX3, (fun h => by cases h), (fun _ v hv => by rcases hv with rfl | ⟨a, rfl⟩ <;> exact ⟨rfl, rfl⟩), rfl, (fun _ => rfl)⟩
theorem kf_X3_15 : k_fldr RX3 15 3 0 2 := ⟨RX3, TX3, rfl, inK3, by decide, fl_X3_15⟩
theorem kp_X3_22 : k_fld RX3 22 3 1 2 false := ⟨RX3, TX3, tyX3, rfl, inK3, by decide, fl_X3_22, tyX3_ok, nmX3, (fun _ => rfl), (fun h => by cases h), rfl, (fun h => by cases h)⟩
theorem kf_X3_22 : k_fldr RX3 22 3 1 2 := ⟨RX3, TX3, rfl, inK3, by decide, fl_X3_22⟩
theorem kp_X6_179 : k_fld RX6 179 3 1 2 false := ⟨RX3, TX3, tyX3, rfl, inK3, by decide, fl_X6_179, tyX3_ok, nmX3, (fun _ => rfl), (fun h => by cases h), rfl, (fun h => by cases h)⟩
theorem kf_X6_179 : k_fldr RX6 179 3 1 2 := ⟨RX3, TX3, rfl, inK3, by decide, fl_X6_179⟩
theorem kp_X0_18 : k_fld RX0 18 0 0 2 true := ⟨RX0, TX0, tyX0, rfl, inK0, by decide, fl_X0_18, tyX0_ok, nmX0, (fun h => by cases h), (fun _ v hv => by rcases hv with rfl | ⟨a, rfl⟩ <;> exact ⟨rfl, rfl⟩), rfl, (fun _ => rfl)⟩
theorem kf_X0_18 : k_fldr RX0 18 0 0 2 := ⟨RX0, TX0, rfl, inK0, by decide, fl_X0_18⟩
theorem kp_X0_12 : k_fld RX0 12 0 1 2 true := ⟨RX0, TX0, tyX0, rfl, inK0, by decide, fl_X0_12, tyX0_ok, nmX0, (fun h => by cases h), (fun _ v hv => by rcases hv with rfl | ⟨a, rfl⟩ <;> exact ⟨rfl, rfl⟩), rfl, (fun _ => rfl)⟩
theorem kf_X0_12 : k_fldr RX0 12 0 1 2 := ⟨RX0, TX0, rfl, inK0, by decide, fl_X0_12⟩
theorem kf_X6_191 : k_fldr RX6 191 0 1 2 := ⟨RX0, TX0, rfl, inK0, by decide, fl_X6_191⟩
theorem kp_X1_27 : k_fld RX1 27 1 0 7 true := ⟨RX1, TX1, tyX1, rfl, inK1, by decide, fl_X1_27, tyX1_ok, nmX1, (fun h => by cases h), (fun _ v hv => by rcases hv with rfl | ⟨a, rfl⟩ <;> exact ⟨rfl, rfl⟩), rfl, (fun _ => rfl)⟩
theorem kf_X1_27 : k_fldr RX1 27 1 0 7 := ⟨RX1, TX1, rfl, inK1, by decide, fl_X1_27⟩
theorem kp_X1_9 : k_fld RX1 9 1 1 7 true := ⟨RX1, TX1, tyX1, rfl, inK1, by decide, fl_X1_9, tyX1_ok, nmX1, (fun h => by cases h), (fun _ v hv => by rcases hv with rfl | ⟨a, rfl⟩ <;> exact ⟨rfl, rfl⟩), rfl, (fun _ => rfl)⟩
theorem kf_X1_9 : k_fldr RX1 9 1 1 7 := ⟨RX1, TX1, rfl, inK1, by decide, fl_X1_9⟩
theorem kp_X1_15 : k_fld RX1 15 1 2 7 true := ⟨RX1, TX1, tyX1, rfl, inK1, by decide, fl_X1_15, tyX1_ok, nmX1, (fun h => by cases h), (fun _ v hv => by rcases hv with rfl | ⟨a, rfl⟩ <;> exact ⟨rfl, rfl⟩), rfl, (fun _ => rfl)⟩
theorem kf_X1_15 : k_fldr RX1 15 1 2 7 := ⟨RX1, TX1, rfl, inK1, by decide, fl_X1_15⟩
theorem kp_X1_18 : k_fld RX1 18 1 3 7 true := ⟨RX1, TX1, tyX1, rfl, inK1, by decide, fl_X1_18, tyX1_ok, nmX1, (fun h => by cases h), (fun _ v hv => by rcases hv with rfl | ⟨a, rfl⟩ <;> exact ⟨rfl, rfl⟩), rfl, (fun _ => rfl)⟩
theorem kf_X1_18 : k_fldr RX1 18 1 3 7 := ⟨RX1, TX1, rfl, inK1, by decide, fl_X1_18⟩
theorem kp_X1_21 : k_fld RX1 21 1 4 7 true := ⟨RX1, TX1, tyX1, rfl, inK1, by decide, fl_X1_21, tyX1_ok, nmX1, (fun h => by cases h), (fun _ v hv => by rcases hv with rfl | ⟨a, rfl⟩ <;> exact ⟨rfl, rfl⟩), rfl, (fun _ => rfl)⟩
theorem kf_X1_21 : k_fldr RX1 21 1 4 7 := ⟨RX1, TX1, rfl, inK1, by decide, fl_X1_21⟩
theorem kp_X1_24 : k_fld RX1 24 1 5 7 true := ⟨RX1, TX1, tyX1, rfl, inK1, by decide, fl_X1_24, tyX1_ok, nmX1, (fun h => by cases h), (fun _ v hv => by rcases hv with rfl | ⟨a, rfl⟩ <;> exact ⟨rfl, rfl⟩), rfl, (fun _ => rfl)⟩
theorem kf_X1_24 : k_fldr RX1 24 1 5 7 := ⟨RX1, TX1, rfl, inK1, by decide, fl_X1_24⟩
theorem kp_X1_56 : k_fld RX1 56 1 6 7 false := ⟨RX1, TX1, tyX1, rfl, inK1, by decide, fl_X1_56, tyX1_ok, nmX1, (fun _ => rfl), (fun h => by cases h), rfl, (fun h => by cases h)⟩
theorem kf_X1_56 : k_fldr RX1 56 1 6 7 := ⟨RX1, TX1, rfl, inK1, by decide, fl_X1_56⟩
theorem kp_X6_204 : k_fld RX6 204 1 6 7 false := ⟨RX1, TX1, tyX1, rfl, inK1, by decide, fl_X6_204, tyX1_ok, nmX1, (fun _ => rfl), (fun h => by cases h), rfl, (fun h => by cases h)⟩
theorem kf_X6_204 : k_fldr RX6 204 1 6 7 := ⟨RX1, TX1, rfl, inK1, by decide, fl_X6_204⟩
theorem kp_X6_10 : k_fld RX6 10 6 0 7 true := ⟨RX6, TX6, tyX6, rfl, inK6, by decide, fl_X6_10, tyX6_ok, nmX6, (fun h => by cases h), (fun _ v hv => by rcases hv with rfl | ⟨a, rfl⟩ <;> exact ⟨rfl, rfl⟩), rfl, (fun _ => rfl)⟩
theorem kf_X6_10 : k_fldr RX6 10 6 0 7 := ⟨RX6, TX6, rfl, inK6, by decide, fl_X6_10⟩
theorem kp_X6_19 : k_fld RX6 19 6 1 7 true := ⟨RX6, TX6, tyX6, rfl, inK6, by decide, fl_X6_19, tyX6_ok, nmX6, (fun h => by cases h), (fun _ v hv => by rcases hv with rfl | ⟨a, rfl⟩ <;> exact ⟨rfl, rfl⟩), rfl, (fun _ => rfl)⟩
theorem kf_X6_19 : k_fldr RX6 19 6 1 7 := ⟨RX6, TX6, rfl, inK6, by decide, fl_X6_19⟩
theorem kp_X6_26 : k_fld RX6 26 6 2 7 true := ⟨RX6, TX6, tyX6, rfl, inK6, by decide, fl_X6_26, tyX6_ok, nmX6, (fun h => by cases h), (fun _ v hv => by rcases hv with rfl | ⟨a, rfl⟩ <;> exact ⟨rfl, rfl⟩), rfl, (fun _ => rfl)⟩
theorem kf_X6_26 : k_fldr RX6 26 6 2 7 := ⟨RX6, TX6, rfl, inK6, by decide, fl_X6_26⟩
theorem kp_X6_35 : k_fld RX6 35 6 3 7 true := ⟨RX6, TX6, tyX6, rfl, inK6, by decide, fl_X6_35, tyX6_ok, nmX6, (fun h => by cases h), (fun _ v hv => by rcases hv with rfl | ⟨a, rfl⟩ <;> exact ⟨rfl, rfl⟩), rfl, (fun _ => rfl)⟩
theorem kf_X6_35 : k_fldr RX6 35 6 3 7 := ⟨RX6, TX6, rfl, inK6, by decide, fl_X6_35⟩
theorem kp_X6_39 : k_fld RX6 39 6 4 7 true := ⟨RX6, TX6, tyX6, rfl, inK6, by decide, fl_X6_39, tyX6_ok, nmX6, (fun h => by cases h), (fun _ v hv => by rcases hv with rfl | ⟨a, rfl⟩ <;> exact ⟨rfl, rfl⟩), rfl, (fun _ => rfl)⟩
theorem kf_X6_39 : k_fldr RX6 39 6 4 7 := ⟨RX6, TX6, rfl, inK6, by decide, fl_X6_39⟩
theorem kp_X6_47 : k_fld RX6 47 6 5 7 true := ⟨RX6, TX6, tyX6, rfl, inK6, by decide, fl_X6_47, tyX6_ok, nmX6, (fun h => by cases h), (fun _ v hv => by rcases hv with rfl | ⟨a, rfl⟩ <;> exact ⟨rfl, rfl⟩), rfl, (fun _ => rfl)⟩
theorem kf_X6_47 : k_fldr RX6 47 6 5 7 := ⟨RX6, TX6, rfl, inK6, by decide, fl_X6_47⟩
theorem kp_X6_54 : k_fld RX6 54 6 6 7 true := ⟨RX6, TX6, tyX6, rfl, inK6, by decide, fl_X6_54, tyX6_ok, nmX6, (fun h => by cases h), (fun _ v hv => by rcases hv with rfl | ⟨a, rfl⟩ <;> exact ⟨rfl, rfl⟩), rfl, (fun _ => rfl)⟩
theorem kf_X6_54 : k_fldr RX6 54 6 6 7 := ⟨RX6, TX6, rfl, inK6, by decide, fl_X6_54⟩
theorem kp_X7_7 : k_fld RX7 7 7 0 14 true := ⟨RX7, TX7, tyX7, rfl, inK7, by decide, fl_X7_7, tyX7_ok, nmX7, (fun h => by cases h), (fun _ v hv => by rcases hv with rfl | ⟨a, rfl⟩ <;> exact ⟨rfl, rfl⟩), rfl, (fun _ => rfl)⟩
theorem kf_X7_7 : k_fldr RX7 7 7 0 14 := ⟨RX7, TX7, rfl, inK7, by decide, fl_X7_7⟩
theorem kp_X7_58 : k_fld RX7 58 7 1 14 false := ⟨RX7, TX7, tyX7, rfl, inK7, by decide, fl_X7_58, tyX7_ok, nmX7, (fun _ => rfl), (fun h => by cases h), rfl, (fun h => by cases h)⟩
theorem kf_X7_58 : k_fldr RX7 58 7 1 14 := ⟨RX7, TX7, rfl, inK7, by decide, fl_X7_58⟩
theorem kp_X7_13 : k_fld RX7 13 7 2 14 true := ⟨RX7, TX7, tyX7, rfl, inK7, by decide, fl_X7_13, tyX7_ok, nmX7, (fun h => by cases h), (fun _ v hv => by rcases hv with rfl | ⟨a, rfl⟩ <;> exact ⟨rfl, rfl⟩), rfl, (fun _ => rfl)⟩
theorem kf_X7_13 : k_fldr RX7 13 7 2 14 := ⟨RX7, TX7, rfl, inK7, by decide, fl_X7_13⟩
theorem kp_X7_16 : k_fld RX7 16 7 3 14 true := ⟨RX7, TX7, tyX7, rfl, inK7, by decide, fl_X7_16, tyX7_ok, nmX7, (fun h => by cases h), (fun _ v hv => by rcases hv with rfl | ⟨a, rfl⟩ <;> exact ⟨rfl, rfl⟩), rfl, (fun _ => rfl)⟩
theorem kf_X7_16 : k_fldr RX7 16 7 3 14 := ⟨RX7, TX7, rfl, inK7, by decide, fl_X7_16⟩
theorem kp_X7_19 : k_fld RX7 19 7 4 14 true := ⟨RX7, TX7, tyX7, rfl, inK7, by decide, fl_X7_19, tyX7_ok, nmX7, (fun h => by cases h), (fun _ v hv => by rcases hv with rfl | ⟨a, rfl⟩ <;> exact ⟨rfl, rfl⟩), rfl, (fun _ => rfl)⟩
theorem kf_X7_19 : k_fldr RX7 19 7 4 14 := ⟨RX7, TX7, rfl, inK7, by decide, fl_X7_19⟩
theorem kp_X7_22 : k_fld RX7 22 7 5 14 true := ⟨RX7, TX7, tyX7, rfl, inK7, by decide, fl_X7_22, tyX7_ok, nmX7, (fun h => by cases h), (fun _ v hv => by rcases hv with rfl | ⟨a, rfl⟩ <;> exact ⟨rfl, rfl⟩), rfl, (fun _ => rfl)⟩
theorem kf_X7_22 : k_fldr RX7 22 7 5 14 := ⟨RX7, TX7, rfl, inK7, by decide, fl_X7_22⟩
theorem kp_X7_25 : k_fld RX7 25 7 6 14 true := ⟨RX7, TX7, tyX7, rfl, inK7, by decide, fl_X7_25, tyX7_ok, nmX7, (fun h => by cases h), (fun _ v hv => by rcases hv with rfl | ⟨a, rfl⟩ <;> exact ⟨rfl, rfl⟩), rfl, (fun _ => rfl)⟩
theorem kf_X7_25 : k_fldr RX7 25 7 6 14 := ⟨RX7, TX7, rfl, inK7, by decide, fl_X7_25⟩
theorem kp_X7_84 : k_fld RX7 84 7 7 14 false := ⟨RX7, TX7, tyX7, rfl, inK7, by decide, fl_X7_84, tyX7_ok, nmX7, (fun _ => rfl), (fun h => by cases h), rfl, (fun h => by cases h)⟩
theorem kf_X7_84 : k_fldr RX7 84 7 7 14 := ⟨RX7, TX7, rfl, inK7, by decide, fl_X7_84⟩
theorem kp_X7_28 : k_fld RX7 28 7 8 14 true := ⟨RX7, TX7, tyX7, rfl, inK7, by decide, fl_X7_28, tyX7_ok, nmX7, (fun h => by cases h), (fun _ v hv => by rcases hv with rfl | ⟨a, rfl⟩ <;> exact ⟨rfl, rfl⟩), rfl, (fun _ => rfl)⟩
theorem kf_X7_28 : k_fldr RX7 28 7 8 14 := ⟨RX7, TX7, rfl, inK7, by decide, fl_X7_28⟩
theorem kp_X7_87 : k_fld RX7 87 7 9 14 false := ⟨RX7, TX7, tyX7, rfl, inK7, by decide, fl_X7_87, tyX7_ok, nmX7, (fun _ => rfl), (fun h => by cases h), rfl, (fun h => by cases h)⟩
theorem kf_X7_87 : k_fldr RX7 87 7 9 14 := ⟨RX7, TX7, rfl, inK7, by decide, fl_X7_87⟩
theorem kp_X7_62 : k_fld RX7 62 7 10 14 false := ⟨RX7, TX7, tyX7, rfl, inK7, by decide, fl_X7_62, tyX7_ok, nmX7, (fun _ => rfl), (fun h => by cases h), rfl, (fun h => by cases h)⟩
theorem kf_X7_62 : k_fldr RX7 62 7 10 14 := ⟨RX7, TX7, rfl, inK7, by decide, fl_X7_62⟩
theorem kp_X7_31 : k_fld RX7 31 7 11 14 true := ⟨RX7, TX7, tyX7, rfl, inK7, by decide, fl_X7_31, tyX7_ok, nmX7, (fun h => by cases h), (fun _ v hv => by rcases hv with rfl | ⟨a, rfl⟩ <;> exact ⟨rfl, rfl⟩), rfl, (fun _ => rfl)⟩
theorem kf_X7_31 : k_fldr RX7 31 7 11 14 := ⟨RX7, TX7, rfl, inK7, by decide, fl_X7_31⟩
theorem kp_X7_34 : k_fld RX7 34 7 12 14 true := ⟨RX7, TX7, tyX7, rfl, inK7, by decide, fl_X7_34, tyX7_ok, nmX7, (fun h => by cases h), (fun _ v hv => by rcases hv with rfl | ⟨a, rfl⟩ <;> exact ⟨rfl, rfl⟩), rfl, (fun _ => rfl)⟩
theorem kf_X7_34 : k_fldr RX7 34 7 12 14 := ⟨RX7, TX7, rfl, inK7, by decide, fl_X7_34⟩
theorem kp_X7_37 : k_fld RX7 37 7 13 14 true := ⟨RX7, TX7, tyX7, rfl, inK7, by decide, fl_X7_37, tyX7_ok, nmX7, (fun h => by cases h), (fun _ v hv => by rcases hv with rfl | ⟨a, rfl⟩ <;> exact ⟨rfl, rfl⟩), rfl, (fun _ => rfl)⟩
theorem kf_X7_37 : k_fldr RX7 37 7 13 14 := ⟨RX7, TX7, rfl, inK7, by decide, fl_X7_37⟩
theorem km_L_7 : k_mk RL 7 6 7 := ⟨RX6, TX6, tyX6, rfl, inK6, cl_L_7, is_X6, in_X6, tyX6_ok, by decide +kernel, by decide⟩
theorem km_X6_7 : k_mk RX6 7 5 3 := ⟨RX5, TX5, tyX5, rfl, inK5, cl_X6_7, is_X5, in_X5, tyX5_ok, by decide +kernel, by decide⟩
theorem km_X6_16 : k_mk RX6 16 2 10 := ⟨RX2, TX2, tyX2, rfl, inK2, cl_X6_16, is_X2, in_X2, tyX2_ok, by decide +kernel, by decide⟩
theorem km_X6_23 : k_mk RX6 23 4 3 := ⟨RX4, TX4, tyX4, rfl, inK4, cl_X6_23, is_X4, in_X4, tyX4_ok, by decide +kernel, by decide⟩
theorem km_X6_30 : k_mk RX6 30 3 2 := ⟨RX3, TX3, tyX3, rfl, inK3, cl_X6_30, is_X3, in_X3, tyX3_ok, by decide +kernel, by decide⟩
theorem km_X3_13 : k_mk RX3 13 4 3 := ⟨RX4, TX4, tyX4, rfl, inK4, cl_X3_13, is_X4, in_X4, tyX4_ok, by decide +kernel, by decide⟩
theorem km_X6_42 : k_mk RX6 42 0 2 := ⟨RX0, TX0, tyX0, rfl, inK0, cl_X6_42, is_X0, in_X0, tyX0_ok, by decide +kernel, by decide⟩
theorem km_X0_9 : k_mk RX0 9 4 3 := ⟨RX4, TX4, tyX4, rfl, inK4, cl_X0_9, is_X4, in_X4, tyX4_ok, by decide +kernel, by decide⟩
theorem km_X6_51 : k_mk RX6 51 1 7 := ⟨RX1, TX1, tyX1, rfl, inK1, cl_X6_51, is_X1, in_X1, tyX1_ok, by decide +kernel, by decide⟩
theorem km_L_10 : k_mk RL 10 7 14 := ⟨RX7, TX7, tyX7, rfl, inK7, cl_L_10, is_X7, in_X7, tyX7_ok, by decide +kernel, by decide⟩
end
section
/-! the rules again, over cells given as (kinds, numbers, references); contracts of a known answer -/
/-- called with As over h, it returns v with the cells h2; makes nothing -/
def kF (E : kEnv) (d : Nat) (M : kMd) (As : List kV) (h : kH) (v : Option kV) (h2 : kH) : Prop := kC E d 0 0 M As h (fun r h' => r = v ∧ h' = h2)
section KW8
variable {E : kEnv} {d mc ms d2 : Nat} {M M2 : kMd} {pc idx : Nat} {L : kLs} {S S0 As : List kV} {m : List (Nat × Nat)} {f : Nat → Int → Int} {g : Nat → Int → Option Nat} {h h2 : kH} {Q : Option kV → kH → Prop}
theorem kv_getI {ci k0 N a : Nat} {kz : Int} (hd : decode M.2.1 pc = .ok (.getfield idx, 3)) (q : k_fldr M.1.cls idx ci k0 N) (hm : m[a]? = some (ci, N)) (hf : k_fr ci k0 = false) (hz : (k0 : Int) = kz) {v : Int} (hv : f a kz = v) (k : kW E d mc ms M (pc + 3) L (kI v :: S) (m, f, g) Q) : kW E d mc ms M pc L (kA a :: S) (m, f, g) Q := kw_getI hd q hm hf hz (by rw [← hv] at k; exact k)
theorem kv_getR {ci k0 N a b : Nat} (hd : decode M.2.1 pc = .ok (.getfield idx, 3)) (q : k_fldr M.1.cls idx ci k0 N) (hm : m[a]? = some (ci, N)) (hf : k_fr ci k0 = true) {kz : Int} (hz : (k0 : Int) = kz) (hr : g a kz = some b) (k : kW E d mc ms M (pc + 3) L (kA b :: S) (m, f, g) Q) : kW E d mc ms M pc L (kA a :: S) (m, f, g) Q := kw_getR hd q hm hf hz hr k
theorem kv_putI {ci k0 N a : Nat} {fin : Bool} {kz z : Int} (hd : decode M.2.1 pc = .ok (.putfield idx, 3)) (q : k_fld M.1.cls idx ci k0 N fin) (hm : m[a]? = some (ci, N)) (hf : k_fr ci k0 = false) (hn : fin = true → M.1.name = "<init>") (hz : (k0 : Int) = kz) (k : kW E d mc ms M (pc + 3) L S (m, k_u f a kz z, g) Q) : kW E d mc ms M pc L (kI z :: kA a :: S) (m, f, g) Q := kw_putI hd q hm hf hn hz k
theorem kv_putR {ci k0 N a : Nat} {fin : Bool} {kz : Int} {b : Nat} (hd : decode M.2.1 pc = .ok (.putfield idx, 3)) (q : k_fld M.1.cls idx ci k0 N fin) (hm : m[a]? = some (ci, N)) (hf : k_fr ci k0 = true) (hb : b < 1000000) (hn : fin = true → M.1.name = "<init>") (hz : (k0 : Int) = kz) (k : kW E d mc ms M (pc + 3) L S (m, f, k_u g a kz (some b)) Q) : kW E d mc ms M pc L (kA b :: kA a :: S) (m, f, g) Q := kw_putR hd q hm hf hb hn hz k
theorem kv_iald {a n : Nat} {i : Int} (hd : decode M.2.1 pc = .ok (.iaload, 1)) (hm : m[a]? = some (100, n)) (h0 : 0 ≤ i) (h1 : i < n) {v : Int} (hv : f a i = v) (k : kW E d mc ms M (pc + 1) L (kI v :: S) (m, f, g) Q) : kW E d mc ms M pc L (kI i :: kA a :: S) (m, f, g) Q := kw_iald hd hm h0 h1 (by rw [← hv] at k; exact k)
theorem kv_cald {a n : Nat} {i : Int} (hd : decode M.2.1 pc = .ok (.caload, 1)) (hm : m[a]? = some (101, n)) (h0 : 0 ≤ i) (h1 : i < n) {v : Int} (hv : f a i = v) (k : kW E d mc ms M (pc + 1) L (kI v :: S) (m, f, g) Q) : kW E d mc ms M pc L (kI i :: kA a :: S) (m, f, g) Q := kw_cald hd hm h0 h1 (by rw [← hv] at k; exact k)
theorem kv_aald {a n b : Nat} {i : Int} (hd : decode M.2.1 pc = .ok (.aaload, 1)) (hm : m[a]? = some (102, n)) (h0 : 0 ≤ i) (h1 : i < n) (hr : g a i = some b) (k : kW E d mc ms M (pc + 1) L (kA b :: S) (m, f, g) Q) : kW E d mc ms M pc L (kI i :: kA a :: S) (m, f, g) Q := kw_aald hd hm h0 h1 hr k
theorem kv_alen {a t n : Nat} (hd : decode M.2.1 pc = .ok (.arraylength, 1)) (hm : m[a]? = some (t, n)) (ht : t = 100 ∨ t = 101 ∨ t = 102) (k : kW E d mc ms M (pc + 1) L (kI n :: S) (m, f, g) Q) : kW E d mc ms M pc L (kA a :: S) (m, f, g) Q := kw_alen hd hm ht k
theorem kv_iast {a n : Nat} {i x : Int} (hd : decode M.2.1 pc = .ok (.iastore, 1)) (hm : m[a]? = some (100, n)) (h0 : 0 ≤ i) (h1 : i < n) (k : kW E d mc ms M (pc + 1) L S (m, k_u f a i x, g) Q) : kW E d mc ms M pc L (kI x :: kI i :: kA a :: S) (m, f, g) Q := kw_iast hd hm h0 h1 k
theorem kv_cast {a n : Nat} {i x : Int} (hd : decode M.2.1 pc = .ok (.castore, 1)) (hm : m[a]? = some (101, n)) (h0 : 0 ≤ i) (h1 : i < n) (hx0 : 0 ≤ x) (hx1 : x < 65536) (k : kW E d mc ms M (pc + 1) L S (m, k_u f a i x, g) Q) : kW E d mc ms M pc L (kI x :: kI i :: kA a :: S) (m, f, g) Q := kw_cast hd hm h0 h1 hx0 hx1 k
theorem kv_aast {a n b : Nat} {i : Int} (hd : decode M.2.1 pc = .ok (.aastore, 1)) (hm : m[a]? = some (102, n)) (hb : m[b]? = some (4, 3)) (h0 : 0 ≤ i) (h1 : i < n) (k : kW E d mc ms M (pc + 1) L S (m, f, k_u g a i (some b)) Q) : kW E d mc ms M pc L (kA b :: kI i :: kA a :: S) (m, f, g) Q := kw_aast hd hm hb h0 h1 k
theorem kv_copy {a0 a1 n0 n1 : Nat} {sp dp n : Int} (hd : decode M.2.1 pc = .ok (.invokestatic idx, 3)) (hw : Cond.methodLink M.1.cls idx arraycopyName ∈ k_KT) (hm0 : m[a0]? = some (100, n0)) (hm1 : m[a1]? = some (100, n1)) (h1 : 0 ≤ sp) (h2 : 0 ≤ dp) (h3 : 0 ≤ n) (h4 : sp + n ≤ n0) (h5 : dp + n ≤ n1) (hwd : (S.map k_wd).sum ≤ 8) (hd1 : 1 ≤ d)
    (k : kW E d mc ms M (pc + 3) L S (m, k_cp f a0 a1 sp dp n, g) Q) : kW E d mc ms M pc L (kI n :: kI dp :: kA a1 :: kI sp :: kA a0 :: S) (m, f, g) Q := kw_copy hd hw hm0 hm1 h1 h2 h3 h4 h5 hwd hd1 k
theorem kv_alenT0 (hd : decode M.2.1 pc = .ok (.arraylength, 1)) (k : kW E d mc ms M (pc + 1) L (kI 10 :: S) h Q) : kW E d mc ms M pc L (kA 1000000 :: S) h Q := kw_alenS (j := 0) hd (by decide) (by show (10 : Nat) < _; decide) k
theorem kv_alenT1 (hd : decode M.2.1 pc = .ok (.arraylength, 1)) (k : kW E d mc ms M (pc + 1) L (kI 10 :: S) h Q) : kW E d mc ms M pc L (kA 1000001 :: S) h Q := kw_alenS (j := 1) hd (by decide) (by show (10 : Nat) < _; decide) k
theorem k_T10 {l : List Int} (hl : ∀ z ∈ l, k_in z) (i : Nat) : k_in (l.getD i 0) := by
  by_cases hi : i < l.length
  · have e : l.getD i 0 = l[i] := by simp [List.getD_eq_getElem?_getD, hi]
    rw [e]
    exact hl _ (List.getElem_mem hi)
  · have e : l.getD i 0 = 0 := by simp [List.getD_eq_getElem?_getD, Nat.not_lt.mp hi]
    rw [e]
    exact k_in0
theorem kv_ialdT0 {i : Int} (hd : decode M.2.1 pc = .ok (.iaload, 1)) (h0 : 0 ≤ i) (h1 : i < 10) (k : kW E d mc ms M (pc + 1) L (kI (k_LEAST.getD i.toNat 0) :: S) h Q) : kW E d mc ms M pc L (kI i :: kA 1000000 :: S) h Q := kw_ialdS (j := 0) hd (by decide) h0 h1 (k_T10 (by unfold k_LEAST k_in; decide) _) k
theorem kv_ialdT1 {i : Int} (hd : decode M.2.1 pc = .ok (.iaload, 1)) (h0 : 0 ≤ i) (h1 : i < 10) (k : kW E d mc ms M (pc + 1) L (kI (k_MOST.getD i.toNat 0) :: S) h Q) : kW E d mc ms M pc L (kI i :: kA 1000001 :: S) h Q := kw_ialdS (j := 1) hd (by decide) h0 h1 (k_T10 (by unfold k_MOST k_in; decide) _) k
theorem kv_callV1 {b ci N : Nat} {T : u_T} {v : kV} (hd : decode M.2.1 pc = .ok (.invokevirtual idx, 3)) (hlk : Cond.methodLink M.1.cls idx M2.1 ∈ k_KT) (q : k_qV M2 As.length) (hcl : vwCl[ci]? = some (M2.1.cls, T, N)) (hb : h.1[b]? = some (ci, N)) (hs0 : S0 = As.reverse ++ kA b :: S) (hwd : (S.map k_wd).sum ≤ 8) (hc : kF E d2 M2 (kA b :: As) h (some v) h2) (hd2 : d2 + 1 ≤ d)
    (k : kW E d mc ms M (pc + 3) L (v :: S) h2 Q) : kW E d mc ms M pc L S0 h Q := kw_callV hd hlk q hcl hb hs0 hwd hc hd2 (Nat.le_refl _) (Nat.le_refl _) (fun r h' z => by obtain ⟨rfl, rfl⟩ := z; exact k)
theorem kv_callV0 {b ci N : Nat} {T : u_T} (hd : decode M.2.1 pc = .ok (.invokevirtual idx, 3)) (hlk : Cond.methodLink M.1.cls idx M2.1 ∈ k_KT) (q : k_qV M2 As.length) (hcl : vwCl[ci]? = some (M2.1.cls, T, N)) (hb : h.1[b]? = some (ci, N)) (hs0 : S0 = As.reverse ++ kA b :: S) (hwd : (S.map k_wd).sum ≤ 8) (hc : kF E d2 M2 (kA b :: As) h none h2) (hd2 : d2 + 1 ≤ d)
    (k : kW E d mc ms M (pc + 3) L S h2 Q) : kW E d mc ms M pc L S0 h Q := kw_callV hd hlk q hcl hb hs0 hwd hc hd2 (Nat.le_refl _) (Nat.le_refl _) (fun r h' z => by obtain ⟨rfl, rfl⟩ := z; exact k)
theorem kv_callS1 {v : kV} (hd : decode M.2.1 pc = .ok (.invokestatic idx, 3)) (hlk : Cond.methodLink M.1.cls idx M2.1 ∈ k_KT) (q : k_qS M2 As.length) (hs0 : S0 = As.reverse ++ S) (hwd : (S.map k_wd).sum ≤ 8) (hc : kF E d2 M2 As h (some v) h2) (hd2 : d2 + 1 ≤ d)
    (k : kW E d mc ms M (pc + 3) L (v :: S) h2 Q) : kW E d mc ms M pc L S0 h Q := kw_callS hd hlk q hs0 hwd hc hd2 (Nat.le_refl _) (Nat.le_refl _) (fun r h' z => by obtain ⟨rfl, rfl⟩ := z; exact k)
theorem kv_callS0 (hd : decode M.2.1 pc = .ok (.invokestatic idx, 3)) (hlk : Cond.methodLink M.1.cls idx M2.1 ∈ k_KT) (q : k_qS M2 As.length) (hs0 : S0 = As.reverse ++ S) (hwd : (S.map k_wd).sum ≤ 8) (hc : kF E d2 M2 As h none h2) (hd2 : d2 + 1 ≤ d)
    (k : kW E d mc ms M (pc + 3) L S h2 Q) : kW E d mc ms M pc L S0 h Q := kw_callS hd hlk q hs0 hwd hc hd2 (Nat.le_refl _) (Nat.le_refl _) (fun r h' z => by obtain ⟨rfl, rfl⟩ := z; exact k)
theorem kv_callN1 {v : kV} (hd : decode M.2.1 pc = .ok (.invokestatic idx, 3)) (hlk : (idx, M.1.cls, M2.1) ∈ k_nest) (q : k_qS M2 As.length) (hs0 : S0 = As.reverse ++ S) (hwd : (S.map k_wd).sum ≤ 8) (hc : kF E d2 M2 As h (some v) h2) (hd2 : d2 + 1 ≤ d)
    (k : kW E d mc ms M (pc + 3) L (v :: S) h2 Q) : kW E d mc ms M pc L S0 h Q := kw_callSN hd hlk q hs0 hwd hc hd2 (Nat.le_refl _) (Nat.le_refl _) (fun r h' z => by obtain ⟨rfl, rfl⟩ := z; exact k)
theorem kv_ifeqB {P : Prop} [Decidable P] {off : Int} {tgt : Nat} (hd : decode M.2.1 pc = .ok (.ifCond .eq off, 3)) (ht : (pc : Int) + off = (tgt : Int)) (kt : ¬ P → kW E d mc ms M tgt L S h Q) (kf : P → kW E d mc ms M (pc + 3) L S h Q) : kW E d mc ms M pc L (kI (if P then 1 else 0) :: S) h Q :=
  kw_if_eq hd ht (fun z => kt (fun p => by rw [if_pos p] at z; cases z)) (fun z => kf (Decidable.byContradiction (fun p => z (if_neg p))))
theorem kv_ifneB {P : Prop} [Decidable P] {off : Int} {tgt : Nat} (hd : decode M.2.1 pc = .ok (.ifCond .ne off, 3)) (ht : (pc : Int) + off = (tgt : Int)) (kt : P → kW E d mc ms M tgt L S h Q) (kf : ¬ P → kW E d mc ms M (pc + 3) L S h Q) : kW E d mc ms M pc L (kI (if P then 1 else 0) :: S) h Q :=
  kw_if_ne hd ht (fun z => kt (Decidable.byContradiction (fun p => z (if_neg p)))) (fun z => kf (fun p => by rw [if_pos p] at z; exact z (by decide)))
theorem kv_ri {z v : Int} (hd : decode M.2.1 pc = .ok (.ireturn, 1)) (hr : M.2.2.2 = some .int) (he : z = v) (hh : h = h2) : kW E d mc ms M pc L [kI z] h (fun r h' => r = some (kI v) ∧ h' = h2) := kw_iret hd hr rfl ⟨by rw [he], hh⟩
theorem k_nz {z : Int} (h : z = 0 ∨ z = 1) : narrow .boolean (.int (Int32.ofInt z)) = .int (Int32.ofInt z) := by
  rcases h with rfl | rfl <;> rfl
theorem k_nc {z : Int} (h0 : 0 ≤ z) (h1 : z < 65536) : narrow .char (.int (Int32.ofInt z)) = .int (Int32.ofInt z) := by
  obtain ⟨m, rfl⟩ := Int.eq_ofNat_of_zero_le h0
  rw [Int32.ofInt_eq_ofNat]
  exact (pk_charN (q := m) (by omega)).1
theorem kv_rb {z : Int} {P : Prop} [Decidable P] (hd : decode M.2.1 pc = .ok (.ireturn, 1)) (hr : M.2.2.2 = some .boolean) (he : z = if P then 1 else 0) (hh : h = h2) : kW E d mc ms M pc L [kI z] h (fun r h' => r = some (kI (if P then 1 else 0)) ∧ h' = h2) := kw_iret hd hr (k_nz (by rw [he]; split <;> simp)) ⟨by rw [he], hh⟩
theorem kv_rc {z v : Int} (hd : decode M.2.1 pc = .ok (.ireturn, 1)) (hr : M.2.2.2 = some .char) (h0 : 0 ≤ z) (h1 : z < 65536) (he : z = v) (hh : h = h2) : kW E d mc ms M pc L [kI z] h (fun r h' => r = some (kI v) ∧ h' = h2) := kw_iret hd hr (k_nc h0 h1) ⟨by rw [he], hh⟩
theorem kv_rv (hd : decode M.2.1 pc = .ok (.return_, 1)) (hr : M.2.2.2 = none) (hh : h = h2) : kW E d mc ms M pc L [] h (fun r h' => r = none ∧ h' = h2) := kw_ret hd hr ⟨rfl, hh⟩
theorem kF_of {v : Option kV} (hy : plainName M.1.cls = true) (hone : ∀ v ∈ As, k_one v) (hlen : As.length ≤ M.2.2.1) {L : kLs} (hL : As.map some ++ List.replicate (M.2.2.1 - As.length) none = L) (k : kW E d 0 0 M 0 L [] h (fun r h' => r = v ∧ h' = h2)) : kF E d M As h v h2 := by
  subst hL
  exact kC_of hy hone hlen k
end KW8
/-! the law's world: kinds and lengths of the class's cells and of the model's, the references that never change -/
def kMC : List (Nat × Nat) := [(6, 7), (5, 3), (101, 200), (100, 4), (2, 10), (100, 8), (100, 8), (100, 8), (100, 4), (100, 4), (4, 3), (100, 20), (3, 2), (102, 8), (4, 3), (100, 20), (4, 3), (100, 20), (4, 3), (100, 20), (4, 3), (100, 20), (4, 3), (100, 20), (4, 3), (100, 20), (4, 3), (100, 20), (4, 3), (100, 20), (3, 2), (102, 2), (4, 3), (100, 20), (4, 3), (100, 20), (0, 2), (4, 3), (100, 20), (1, 7), (100, 8), (100, 9), (100, 4), (100, 8), (100, 8)]
def kMM : List (Nat × Nat) := [(7, 14), (100, 200), (100, 37), (100, 37), (100, 29), (100, 29), (100, 232), (100, 58), (100, 29), (100, 4), (100, 8)]
/-- where a State lies -/
def kSA (a : Nat) : Prop := a = 10 ∨ a = 14 ∨ a = 16 ∨ a = 18 ∨ a = 20 ∨ a = 22 ∨ a = 24 ∨ a = 26 ∨ a = 28 ∨ a = 32 ∨ a = 34 ∨ a = 37
def kGL : List (Nat × Nat × Nat) := [(0, 0, 1), (0, 1, 4), (0, 2, 10), (0, 3, 12), (0, 4, 30), (0, 5, 36), (0, 6, 39), (1, 0, 2), (1, 1, 3), (4, 0, 5), (4, 1, 6), (4, 2, 7), (4, 3, 8), (4, 4, 9), (10, 0, 11), (12, 0, 13), (14, 0, 15), (16, 0, 17), (18, 0, 19), (20, 0, 21), (22, 0, 23), (24, 0, 25), (26, 0, 27), (28, 0, 29), (30, 0, 31), (32, 0, 33), (34, 0, 35), (36, 0, 4), (36, 1, 37), (37, 0, 38), (39, 0, 4), (39, 1, 40), (39, 2, 41), (39, 3, 42), (39, 4, 43), (39, 5, 44)]
/-- the class's references -/
def kG (g : Nat → Int → Option Nat) : Prop := ∀ q ∈ kGL, g q.1 (q.2.1 : Int) = some q.2.2
theorem kSA_m {a : Nat} (h : kSA a) (w : List (Nat × Nat)) : (kMC ++ w)[a]? = some (4, 3) := by
  rcases h with rfl | rfl | rfl | rfl | rfl | rfl | rfl | rfl | rfl | rfl | rfl | rfl <;> rfl
theorem kSA_c {a : Nat} (h : kSA a) (w : List (Nat × Nat)) : (kMC ++ w)[a + 1]? = some (100, 20) := by
  rcases h with rfl | rfl | rfl | rfl | rfl | rfl | rfl | rfl | rfl | rfl | rfl | rfl <;> rfl
theorem kSA_g {a : Nat} (h : kSA a) {g : Nat → Int → Option Nat} (hg : kG g) : g a 0 = some (a + 1) := by
  rcases h with rfl | rfl | rfl | rfl | rfl | rfl | rfl | rfl | rfl | rfl | rfl | rfl
  · exact hg (10, 0, 11) (by decide)
  · exact hg (14, 0, 15) (by decide)
  · exact hg (16, 0, 17) (by decide)
  · exact hg (18, 0, 19) (by decide)
  · exact hg (20, 0, 21) (by decide)
  · exact hg (22, 0, 23) (by decide)
  · exact hg (24, 0, 25) (by decide)
  · exact hg (26, 0, 27) (by decide)
  · exact hg (28, 0, 29) (by decide)
  · exact hg (32, 0, 33) (by decide)
  · exact hg (34, 0, 35) (by decide)
  · exact hg (37, 0, 38) (by decide)
end
section
/-! bits of small numbers; rules for shifts and masks -/
abbrev kbit (x b : Int) : Int := x / 2 ^ b.toNat % 2
theorem kb_sl : ∀ n, n < 32 → ((nI n &&& 31).toBitVec.smod 32).toNat = n := by decide +kernel
theorem k_nI {x : Int} (h : 0 ≤ x) : Int32.ofInt x = nI x.toNat := by
  obtain ⟨n, rfl⟩ := Int.eq_ofNat_of_zero_le h
  exact Int32.ofInt_eq_ofNat
theorem k_nI2 (n : Nat) : nI n = Int32.ofInt (n : Int) := Int32.ofInt_eq_ofNat.symm
theorem k_pow {b : Int} (h0 : 0 ≤ b) (h1 : b < 8) : (1 : Int) ≤ 2 ^ b.toNat ∧ (2 : Int) ^ b.toNat ≤ 128 := by
  rcases (show b = 0 ∨ b = 1 ∨ b = 2 ∨ b = 3 ∨ b = 4 ∨ b = 5 ∨ b = 6 ∨ b = 7 by omega) with rfl | rfl | rfl | rfl | rfl | rfl | rfl | rfl <;> decide
theorem k_pow30 {b : Int} (h0 : 0 ≤ b) (h1 : b < 31) : k_in (2 ^ b.toNat) := by
  have : ∀ n : Nat, n < 31 → -2147483648 ≤ (2 : Int) ^ n ∧ (2 : Int) ^ n ≤ 2147483647 := by decide +kernel
  exact this b.toNat (by omega)
theorem k_or : ∀ n, n < 256 → ∀ b, b < 8 → n / 2 ^ b % 2 = 0 → nI n ||| nI (2 ^ b) = nI (n + 2 ^ b) := by decide +kernel
section KW9
variable {E : kEnv} {d mc ms : Nat} {M : kMd} {pc : Nat} {L : kLs} {S : List kV} {h : kH} {Q : Option kV → kH → Prop}
theorem kv_shr {x y : Int} (hd : decode M.2.1 pc = .ok (.ishr, 1)) (h0 : 0 ≤ x) (h1 : x ≤ 2147483647) (h2 : 0 ≤ y) (h3 : y < 31) (k : kW E d mc ms M (pc + 1) L (kI (x / 2 ^ y.toNat) :: S) h Q) : kW E d mc ms M pc L (kI y :: kI x :: S) h Q := by
  have hp : (0 : Int) < 2 ^ y.toNat := Int.pow_pos (by decide)
  refine kw_ishrG hd ⟨by have := Int.ediv_nonneg h0 (Int.le_of_lt hp); omega, by have := Int.ediv_le_self (2 ^ y.toNat) h0; omega⟩ ?_ k
  obtain ⟨n, rfl⟩ := Int.eq_ofNat_of_zero_le h0
  obtain ⟨j, rfl⟩ := Int.eq_ofNat_of_zero_le h2
  rw [Int32.ofInt_eq_ofNat, Int32.ofInt_eq_ofNat]
  have := pk_shrN (n := n) (by omega) (nI j &&& 31) j (kb_sl j (by omega))
  show nI n >>> (nI j &&& 31) = _
  rw [this, k_nI2]
  congr 1
theorem kv_and1 {x : Int} (hd : decode M.2.1 pc = .ok (.iand, 1)) (h0 : 0 ≤ x) (h1 : x ≤ 2147483647) (k : kW E d mc ms M (pc + 1) L (kI (x % 2) :: S) h Q) : kW E d mc ms M pc L (kI 1 :: kI x :: S) h Q := by
  refine kw_iandG hd ⟨by omega, by omega⟩ ?_ k
  obtain ⟨n, rfl⟩ := Int.eq_ofNat_of_zero_le h0
  rw [Int32.ofInt_eq_ofNat]
  have := pk_andN (n := n) (by omega) (m := Int32.ofInt 1) 1 (by decide)
  show nI n &&& Int32.ofInt 1 = _
  rw [this, k_nI2]
  congr 1
theorem kv_shl1 {y : Int} (hd : decode M.2.1 pc = .ok (.ishl, 1)) (h2 : 0 ≤ y) (h3 : y < 31) (k : kW E d mc ms M (pc + 1) L (kI (2 ^ y.toNat) :: S) h Q) : kW E d mc ms M pc L (kI y :: kI 1 :: S) h Q := by
  refine kw_ishlG hd (k_pow30 h2 h3) ?_ k
  obtain ⟨j, rfl⟩ := Int.eq_ofNat_of_zero_le h2
  have h4 : ∀ j, j < 31 → 1 * 2 ^ j < 2 ^ 32 := by decide +kernel
  have := pk_shlN (n := 1) (nI j &&& 31) j (kb_sl j (by omega)) (h4 j (by omega))
  show nI 1 <<< (Int32.ofInt j &&& 31) = _
  rw [Int32.ofInt_eq_ofNat]
  show nI 1 <<< (nI j &&& 31) = _
  rw [this, k_nI2]
  congr 1
  simp
theorem kv_orb {x b : Int} (hd : decode M.2.1 pc = .ok (.ior, 1)) (h0 : 0 ≤ x) (h1 : x < 256) (h2 : 0 ≤ b) (h3 : b < 8) (hb : kbit x b = 0) (k : kW E d mc ms M (pc + 1) L (kI (x + 2 ^ b.toNat) :: S) h Q) : kW E d mc ms M pc L (kI (2 ^ b.toNat) :: kI x :: S) h Q := by
  have hp := k_pow h2 h3
  refine kw_iorG hd ⟨by omega, by omega⟩ ?_ k
  obtain ⟨n, rfl⟩ := Int.eq_ofNat_of_zero_le h0
  obtain ⟨j, rfl⟩ := Int.eq_ofNat_of_zero_le h2
  have e1 : ((2 : Int) ^ ((j : Nat) : Int).toNat) = ((2 ^ j : Nat) : Int) := by simp
  rw [e1, Int32.ofInt_eq_ofNat, Int32.ofInt_eq_ofNat]
  have hb2 : n / 2 ^ j % 2 = 0 := by
    have hb3 : ((n / 2 ^ j % 2 : Nat) : Int) = 0 := by
      rw [← hb]
      simp [kbit, Int.natCast_ediv, Int.natCast_emod]
    omega
  have := k_or n (by omega) j (by omega) hb2
  show nI n ||| nI (2 ^ j) = _
  rw [this, k_nI2]
  congr 1
end KW9
theorem k_divb {x b : Int} (h0 : 0 ≤ x) (h1 : x < 256) : 0 ≤ x / 2 ^ b.toNat ∧ x / 2 ^ b.toNat < 256 := by
  have hp : (0 : Int) < 2 ^ b.toNat := Int.pow_pos (by decide)
  exact ⟨Int.ediv_nonneg h0 (Int.le_of_lt hp), by have := Int.ediv_le_self (2 ^ b.toNat) h0; omega⟩
end
section
def kGoBy (f : Nat → Int → Int) (a : Nat) (n : Int) : Nat → Int → Int := k_u (k_u (k_u (k_u (k_u f a 1 (f a 1 + n)) (a + 1) 16 0) (a + 1) 17 0) (a + 1) 18 0) (a + 1) 19 0
def kBec (f : Nat → Int → Int) (a b : Nat) : Nat → Int → Int := k_cp (k_u (k_u f a 1 (f b 1)) a 2 (f b 2)) (b + 1) (a + 1) 0 0 20
theorem kSA_lt {a : Nat} (h : kSA a) : 10 ≤ a ∧ a ≤ 37 ∧ a ≠ 11 := by
  rcases h with rfl | rfl | rfl | rfl | rfl | rfl | rfl | rfl | rfl | rfl | rfl | rfl <;> decide
theorem c_deadFrom {E : kEnv} {w : List (Nat × Nat)} {f : Nat → Int → Int} {g : Nat → Int → Option Nat} {a : Nat} {b : Int} (ha : kSA a) (hg : kG g) : kF E 0 M_X4_deadFrom [kA (a), kI (b)] ((kMC ++ w), f, g) (some (kI (if 0 ≤ b ∧ b < 8 then f (a + 1) b else 100))) ((kMC ++ w), f, g) := by
  refine kF_of (by decide) (by simp [k_one]) (Nat.le_of_ble_eq_true rfl) (L := [some (kA (a)), some (kI (b))]) rfl ?_
  refine kw_iload_n dX4_deadFrom_0 rfl ?_
  refine kw_if_lt (tgt := 19) dX4_deadFrom_1 (by decide) (fun h1 => ?_) (fun h1 => ?_)
  · refine kw_bipush dX4_deadFrom_19 (by decide) (by decide) ?_
    exact kv_ri dX4_deadFrom_21 rfl (by first | rfl | omega | (split <;> omega) | ((repeat' split) <;> omega) | grind) (by first | rfl | rw [if_pos (by omega)] | rw [if_neg (by omega)] | grind)
  · refine kw_iload_n dX4_deadFrom_4 rfl ?_
    refine kw_bipush dX4_deadFrom_5 (by decide) (by decide) ?_
    refine kw_icmp_ge (tgt := 19) dX4_deadFrom_7 (by decide) (fun h2 => ?_) (fun h2 => ?_)
    · refine kw_bipush dX4_deadFrom_19 (by decide) (by decide) ?_
      exact kv_ri dX4_deadFrom_21 rfl (by first | rfl | omega | (split <;> omega) | ((repeat' split) <;> omega) | grind) (by first | rfl | rw [if_pos (by omega)] | rw [if_neg (by omega)] | grind)
    · refine kw_aload_n dX4_deadFrom_10 rfl ?_
      refine kv_getR (b := a + 1) dX4_deadFrom_11 kf_X4_11 (kSA_m ha w) rfl rfl (kSA_g ha hg) ?_
      refine kw_iload_n dX4_deadFrom_14 rfl ?_
      refine kv_iald dX4_deadFrom_15 (kSA_c ha w) (by omega) (by omega) rfl ?_
      refine kw_goto (tgt := 21) dX4_deadFrom_16 (by decide) ?_
      exact kv_ri dX4_deadFrom_21 rfl (by first | rfl | omega | (split <;> omega) | ((repeat' split) <;> omega) | grind) (by first | rfl | rw [if_pos (by omega)] | rw [if_neg (by omega)] | grind)
theorem c_setDeadFrom {E : kEnv} {w : List (Nat × Nat)} {f : Nat → Int → Int} {g : Nat → Int → Option Nat} {a : Nat} {b d : Int} (ha : kSA a) (hg : kG g) : kF E 0 M_X4_setDeadFrom [kA (a), kI (b), kI (d)] ((kMC ++ w), f, g) (none) ((kMC ++ w), (if 0 ≤ b ∧ b < 8 then k_u f (a + 1) b d else f), g) := by
  refine kF_of (by decide) (by simp [k_one]) (Nat.le_of_ble_eq_true rfl) (L := [some (kA (a)), some (kI (b)), some (kI (d))]) rfl ?_
  refine kw_iload_n dX4_setDeadFrom_0 rfl ?_
  refine kw_if_lt (tgt := 17) dX4_setDeadFrom_1 (by decide) (fun h1 => ?_) (fun h1 => ?_)
  · exact kv_rv dX4_setDeadFrom_17 rfl (by first | rfl | rw [if_pos (by omega)] | rw [if_neg (by omega)] | grind)
  · refine kw_iload_n dX4_setDeadFrom_4 rfl ?_
    refine kw_bipush dX4_setDeadFrom_5 (by decide) (by decide) ?_
    refine kw_icmp_ge (tgt := 17) dX4_setDeadFrom_7 (by decide) (fun h2 => ?_) (fun h2 => ?_)
    · exact kv_rv dX4_setDeadFrom_17 rfl (by first | rfl | rw [if_pos (by omega)] | rw [if_neg (by omega)] | grind)
    · refine kw_aload_n dX4_setDeadFrom_10 rfl ?_
      refine kv_getR (b := a + 1) dX4_setDeadFrom_11 kf_X4_11 (kSA_m ha w) rfl rfl (kSA_g ha hg) ?_
      refine kw_iload_n dX4_setDeadFrom_14 rfl ?_
      refine kw_iload_n dX4_setDeadFrom_15 rfl ?_
      refine kv_iast dX4_setDeadFrom_16 (kSA_c ha w) (by omega) (by omega) ?_
      exact kv_rv dX4_setDeadFrom_17 rfl (by first | rfl | rw [if_pos (by omega)] | rw [if_neg (by omega)] | grind)
theorem c_stack {E : kEnv} {w : List (Nat × Nat)} {f : Nat → Int → Int} {g : Nat → Int → Option Nat} {a : Nat} {i : Int} (ha : kSA a) (hg : kG g) : kF E 0 M_X4_stack [kA (a), kI (i)] ((kMC ++ w), f, g) (some (kI (if 0 ≤ i ∧ i < 4 then f (a + 1) (8 + i) else 0))) ((kMC ++ w), f, g) := by
  refine kF_of (by decide) (by simp [k_one]) (Nat.le_of_ble_eq_true rfl) (L := [some (kA (a)), some (kI (i))]) rfl ?_
  refine kw_iload_n dX4_stack_0 rfl ?_
  refine kw_if_lt (tgt := 21) dX4_stack_1 (by decide) (fun h1 => ?_) (fun h1 => ?_)
  · refine kw_iconst dX4_stack_21 ⟨by decide, by decide⟩ ?_
    exact kv_ri dX4_stack_22 rfl (by first | rfl | omega | (split <;> omega) | ((repeat' split) <;> omega) | grind) (by first | rfl | rw [if_pos (by omega)] | rw [if_neg (by omega)] | grind)
  · refine kw_iload_n dX4_stack_4 rfl ?_
    refine kw_iconst dX4_stack_5 ⟨by decide, by decide⟩ ?_
    refine kw_icmp_ge (tgt := 21) dX4_stack_6 (by decide) (fun h2 => ?_) (fun h2 => ?_)
    · refine kw_iconst dX4_stack_21 ⟨by decide, by decide⟩ ?_
      exact kv_ri dX4_stack_22 rfl (by first | rfl | omega | (split <;> omega) | ((repeat' split) <;> omega) | grind) (by first | rfl | rw [if_pos (by omega)] | rw [if_neg (by omega)] | grind)
    · refine kw_aload_n dX4_stack_9 rfl ?_
      refine kv_getR (b := a + 1) dX4_stack_10 kf_X4_11 (kSA_m ha w) rfl rfl (kSA_g ha hg) ?_
      refine kw_bipush dX4_stack_13 (by decide) (by decide) ?_
      refine kw_iload_n dX4_stack_15 rfl ?_
      refine kw_iadd dX4_stack_16 ⟨by omega, by omega⟩ ?_
      refine kv_iald dX4_stack_17 (kSA_c ha w) (by omega) (by omega) rfl ?_
      refine kw_goto (tgt := 22) dX4_stack_18 (by decide) ?_
      exact kv_ri dX4_stack_22 rfl (by first | rfl | omega | (split <;> omega) | ((repeat' split) <;> omega) | grind) (by first | rfl | rw [if_pos (by omega)] | rw [if_neg (by omega)] | grind)
theorem c_reach {E : kEnv} {w : List (Nat × Nat)} {f : Nat → Int → Int} {g : Nat → Int → Option Nat} {a : Nat} {i : Int} (ha : kSA a) (hg : kG g) : kF E 0 M_X4_reach [kA (a), kI (i)] ((kMC ++ w), f, g) (some (kI (if 0 ≤ i ∧ i < 4 then f (a + 1) (12 + i) else 0))) ((kMC ++ w), f, g) := by
  refine kF_of (by decide) (by simp [k_one]) (Nat.le_of_ble_eq_true rfl) (L := [some (kA (a)), some (kI (i))]) rfl ?_
  refine kw_iload_n dX4_reach_0 rfl ?_
  refine kw_if_lt (tgt := 21) dX4_reach_1 (by decide) (fun h1 => ?_) (fun h1 => ?_)
  · refine kw_iconst dX4_reach_21 ⟨by decide, by decide⟩ ?_
    exact kv_ri dX4_reach_22 rfl (by first | rfl | omega | (split <;> omega) | ((repeat' split) <;> omega) | grind) (by first | rfl | rw [if_pos (by omega)] | rw [if_neg (by omega)] | grind)
  · refine kw_iload_n dX4_reach_4 rfl ?_
    refine kw_iconst dX4_reach_5 ⟨by decide, by decide⟩ ?_
    refine kw_icmp_ge (tgt := 21) dX4_reach_6 (by decide) (fun h2 => ?_) (fun h2 => ?_)
    · refine kw_iconst dX4_reach_21 ⟨by decide, by decide⟩ ?_
      exact kv_ri dX4_reach_22 rfl (by first | rfl | omega | (split <;> omega) | ((repeat' split) <;> omega) | grind) (by first | rfl | rw [if_pos (by omega)] | rw [if_neg (by omega)] | grind)
    · refine kw_aload_n dX4_reach_9 rfl ?_
      refine kv_getR (b := a + 1) dX4_reach_10 kf_X4_11 (kSA_m ha w) rfl rfl (kSA_g ha hg) ?_
      refine kw_bipush dX4_reach_13 (by decide) (by decide) ?_
      refine kw_iload_n dX4_reach_15 rfl ?_
      refine kw_iadd dX4_reach_16 ⟨by omega, by omega⟩ ?_
      refine kv_iald dX4_reach_17 (kSA_c ha w) (by omega) (by omega) rfl ?_
      refine kw_goto (tgt := 22) dX4_reach_18 (by decide) ?_
      exact kv_ri dX4_reach_22 rfl (by first | rfl | omega | (split <;> omega) | ((repeat' split) <;> omega) | grind) (by first | rfl | rw [if_pos (by omega)] | rw [if_neg (by omega)] | grind)
theorem c_carried {E : kEnv} {w : List (Nat × Nat)} {f : Nat → Int → Int} {g : Nat → Int → Option Nat} {a : Nat} {i : Int} (ha : kSA a) (hg : kG g) : kF E 0 M_X4_carried [kA (a), kI (i)] ((kMC ++ w), f, g) (some (kI (if 0 ≤ i ∧ i < 4 then f (a + 1) (16 + i) else 0))) ((kMC ++ w), f, g) := by
  refine kF_of (by decide) (by simp [k_one]) (Nat.le_of_ble_eq_true rfl) (L := [some (kA (a)), some (kI (i))]) rfl ?_
  refine kw_iload_n dX4_carried_0 rfl ?_
  refine kw_if_lt (tgt := 21) dX4_carried_1 (by decide) (fun h1 => ?_) (fun h1 => ?_)
  · refine kw_iconst dX4_carried_21 ⟨by decide, by decide⟩ ?_
    exact kv_ri dX4_carried_22 rfl (by first | rfl | omega | (split <;> omega) | ((repeat' split) <;> omega) | grind) (by first | rfl | rw [if_pos (by omega)] | rw [if_neg (by omega)] | grind)
  · refine kw_iload_n dX4_carried_4 rfl ?_
    refine kw_iconst dX4_carried_5 ⟨by decide, by decide⟩ ?_
    refine kw_icmp_ge (tgt := 21) dX4_carried_6 (by decide) (fun h2 => ?_) (fun h2 => ?_)
    · refine kw_iconst dX4_carried_21 ⟨by decide, by decide⟩ ?_
      exact kv_ri dX4_carried_22 rfl (by first | rfl | omega | (split <;> omega) | ((repeat' split) <;> omega) | grind) (by first | rfl | rw [if_pos (by omega)] | rw [if_neg (by omega)] | grind)
    · refine kw_aload_n dX4_carried_9 rfl ?_
      refine kv_getR (b := a + 1) dX4_carried_10 kf_X4_11 (kSA_m ha w) rfl rfl (kSA_g ha hg) ?_
      refine kw_bipush dX4_carried_13 (by decide) (by decide) ?_
      refine kw_iload_n dX4_carried_15 rfl ?_
      refine kw_iadd dX4_carried_16 ⟨by omega, by omega⟩ ?_
      refine kv_iald dX4_carried_17 (kSA_c ha w) (by omega) (by omega) rfl ?_
      refine kw_goto (tgt := 22) dX4_carried_18 (by decide) ?_
      exact kv_ri dX4_carried_22 rfl (by first | rfl | omega | (split <;> omega) | ((repeat' split) <;> omega) | grind) (by first | rfl | rw [if_pos (by omega)] | rw [if_neg (by omega)] | grind)
theorem c_setReach {E : kEnv} {w : List (Nat × Nat)} {f : Nat → Int → Int} {g : Nat → Int → Option Nat} {a : Nat} {i r : Int} (ha : kSA a) (hg : kG g) : kF E 0 M_X4_setReach [kA (a), kI (i), kI (r)] ((kMC ++ w), f, g) (none) ((kMC ++ w), (if 0 ≤ i ∧ i < 4 then k_u f (a + 1) (12 + i) r else f), g) := by
  refine kF_of (by decide) (by simp [k_one]) (Nat.le_of_ble_eq_true rfl) (L := [some (kA (a)), some (kI (i)), some (kI (r))]) rfl ?_
  refine kw_iload_n dX4_setReach_0 rfl ?_
  refine kw_if_lt (tgt := 19) dX4_setReach_1 (by decide) (fun h1 => ?_) (fun h1 => ?_)
  · exact kv_rv dX4_setReach_19 rfl (by first | rfl | rw [if_pos (by omega)] | rw [if_neg (by omega)] | grind)
  · refine kw_iload_n dX4_setReach_4 rfl ?_
    refine kw_iconst dX4_setReach_5 ⟨by decide, by decide⟩ ?_
    refine kw_icmp_ge (tgt := 19) dX4_setReach_6 (by decide) (fun h2 => ?_) (fun h2 => ?_)
    · exact kv_rv dX4_setReach_19 rfl (by first | rfl | rw [if_pos (by omega)] | rw [if_neg (by omega)] | grind)
    · refine kw_aload_n dX4_setReach_9 rfl ?_
      refine kv_getR (b := a + 1) dX4_setReach_10 kf_X4_11 (kSA_m ha w) rfl rfl (kSA_g ha hg) ?_
      refine kw_bipush dX4_setReach_13 (by decide) (by decide) ?_
      refine kw_iload_n dX4_setReach_15 rfl ?_
      refine kw_iadd dX4_setReach_16 ⟨by omega, by omega⟩ ?_
      refine kw_iload_n dX4_setReach_17 rfl ?_
      refine kv_iast dX4_setReach_18 (kSA_c ha w) (by omega) (by omega) ?_
      exact kv_rv dX4_setReach_19 rfl (by first | rfl | rw [if_pos (by omega)] | rw [if_neg (by omega)] | grind)
theorem c_loseStack {E : kEnv} {w : List (Nat × Nat)} {f : Nat → Int → Int} {g : Nat → Int → Option Nat} {a : Nat} {i : Int} (ha : kSA a) (hg : kG g) : kF E 0 M_X4_loseStack [kA (a), kI (i)] ((kMC ++ w), f, g) (none) ((kMC ++ w), (if 0 ≤ i ∧ i < 4 then k_u f (a + 1) (8 + i) 0 else f), g) := by
  refine kF_of (by decide) (by simp [k_one]) (Nat.le_of_ble_eq_true rfl) (L := [some (kA (a)), some (kI (i))]) rfl ?_
  refine kw_iload_n dX4_loseStack_0 rfl ?_
  refine kw_if_lt (tgt := 19) dX4_loseStack_1 (by decide) (fun h1 => ?_) (fun h1 => ?_)
  · exact kv_rv dX4_loseStack_19 rfl (by first | rfl | rw [if_pos (by omega)] | rw [if_neg (by omega)] | grind)
  · refine kw_iload_n dX4_loseStack_4 rfl ?_
    refine kw_iconst dX4_loseStack_5 ⟨by decide, by decide⟩ ?_
    refine kw_icmp_ge (tgt := 19) dX4_loseStack_6 (by decide) (fun h2 => ?_) (fun h2 => ?_)
    · exact kv_rv dX4_loseStack_19 rfl (by first | rfl | rw [if_pos (by omega)] | rw [if_neg (by omega)] | grind)
    · refine kw_aload_n dX4_loseStack_9 rfl ?_
      refine kv_getR (b := a + 1) dX4_loseStack_10 kf_X4_11 (kSA_m ha w) rfl rfl (kSA_g ha hg) ?_
      refine kw_bipush dX4_loseStack_13 (by decide) (by decide) ?_
      refine kw_iload_n dX4_loseStack_15 rfl ?_
      refine kw_iadd dX4_loseStack_16 ⟨by omega, by omega⟩ ?_
      refine kw_iconst dX4_loseStack_17 ⟨by decide, by decide⟩ ?_
      refine kv_iast dX4_loseStack_18 (kSA_c ha w) (by omega) (by omega) ?_
      exact kv_rv dX4_loseStack_19 rfl (by first | rfl | rw [if_pos (by omega)] | rw [if_neg (by omega)] | grind)
theorem c_isGone {E : kEnv} {w : List (Nat × Nat)} {f : Nat → Int → Int} {g : Nat → Int → Option Nat} {a : Nat} {b : Int} (ha : kSA a) (hg : kG g) (hr : 0 ≤ f a 2 ∧ f a 2 < 256) (hb : 0 ≤ b ∧ b < 8) : kF E 0 M_X4_isGone [kA (a), kI (b)] ((kMC ++ w), f, g) (some (kI (if kbit (f a 2) b = 1 then 1 else 0))) ((kMC ++ w), f, g) := by
  refine kF_of (by decide) (by simp [k_one]) (Nat.le_of_ble_eq_true rfl) (L := [some (kA (a)), some (kI (b))]) rfl ?_
  have z := k_divb (b := b) hr.1 hr.2
  have z2 := z.2
  refine kw_iload_n dX4_isGone_0 rfl ?_
  refine kw_if_lt (tgt := 26) dX4_isGone_1 (by decide) (fun h1 => ?_) (fun h1 => ?_)
  · refine kw_iconst dX4_isGone_26 ⟨by decide, by decide⟩ ?_
    exact kv_rb dX4_isGone_27 rfl (by first | rfl | omega | (split <;> omega) | ((repeat' split) <;> omega) | grind) (by first | rfl | rw [if_pos (by omega)] | rw [if_neg (by omega)] | grind)
  · refine kw_iload_n dX4_isGone_4 rfl ?_
    refine kw_bipush dX4_isGone_5 (by decide) (by decide) ?_
    refine kw_icmp_ge (tgt := 26) dX4_isGone_7 (by decide) (fun h2 => ?_) (fun h2 => ?_)
    · refine kw_iconst dX4_isGone_26 ⟨by decide, by decide⟩ ?_
      exact kv_rb dX4_isGone_27 rfl (by first | rfl | omega | (split <;> omega) | ((repeat' split) <;> omega) | grind) (by first | rfl | rw [if_pos (by omega)] | rw [if_neg (by omega)] | grind)
    · refine kw_aload_n dX4_isGone_10 rfl ?_
      refine kv_getI (kz := 2) dX4_isGone_11 kf_X4_19 (kSA_m ha w) rfl rfl rfl ?_
      refine kw_iload_n dX4_isGone_14 rfl ?_
      refine kv_shr dX4_isGone_15 (by omega) (by omega) (by omega) (by omega) ?_
      refine kw_iconst dX4_isGone_16 ⟨by decide, by decide⟩ ?_
      refine kv_and1 dX4_isGone_17 (by omega) (by omega) ?_
      refine kw_iconst dX4_isGone_18 ⟨by decide, by decide⟩ ?_
      refine kw_icmp_ne (tgt := 26) dX4_isGone_19 (by decide) (fun h3 => ?_) (fun h3 => ?_)
      · refine kw_iconst dX4_isGone_26 ⟨by decide, by decide⟩ ?_
        exact kv_rb dX4_isGone_27 rfl (by first | rfl | omega | (split <;> omega) | ((repeat' split) <;> omega) | grind) (by first | rfl | rw [if_pos (by omega)] | rw [if_neg (by omega)] | grind)
      · refine kw_iconst dX4_isGone_22 ⟨by decide, by decide⟩ ?_
        refine kw_goto (tgt := 27) dX4_isGone_23 (by decide) ?_
        exact kv_rb dX4_isGone_27 rfl (by first | rfl | omega | (split <;> omega) | ((repeat' split) <;> omega) | grind) (by first | rfl | rw [if_pos (by omega)] | rw [if_neg (by omega)] | grind)
theorem c_pick {E : kEnv} {w : List (Nat × Nat)} {f : Nat → Int → Int} {g : Nat → Int → Option Nat} {a : Nat} {i b v : Int} (ha : kSA a) (hg : kG g) (hr : 0 ≤ f a 2 ∧ f a 2 < 256) (hb : 0 ≤ b ∧ b < 8) (hi : 0 ≤ i ∧ i < 4) (h0 : kbit (f a 2) b = 0) (hv : 0 ≤ v ∧ v ≤ 100) (h1 : -1000 ≤ f (a + 1) (8 + i) ∧ f (a + 1) (8 + i) ≤ 1000) (h2 : -1000 ≤ f (a + 1) (16 + i) ∧ f (a + 1) (16 + i) ≤ 1000) : kF E 0 M_X4_pick [kA (a), kI (i), kI (b), kI (v)] ((kMC ++ w), f, g) (none) ((kMC ++ w), k_u (k_u (k_u f a 2 (f a 2 + 2 ^ b.toNat)) (a + 1) (8 + i) (f (a + 1) (8 + i) + v)) (a + 1) (16 + i) (f (a + 1) (16 + i) + v), g) := by
  refine kF_of (by decide) (by simp [k_one]) (Nat.le_of_ble_eq_true rfl) (L := [some (kA (a)), some (kI (i)), some (kI (b)), some (kI (v))]) rfl ?_
  refine kw_iload_n dX4_pick_0 rfl ?_
  refine kw_if_lt (tgt := 57) dX4_pick_1 (by decide) (fun h1 => ?_) (fun h1 => ?_)
  · exact kv_rv dX4_pick_57 rfl (by first | rfl | rw [if_pos (by omega)] | rw [if_neg (by omega)] | grind)
  · refine kw_iload_n dX4_pick_4 rfl ?_
    refine kw_iconst dX4_pick_5 ⟨by decide, by decide⟩ ?_
    refine kw_icmp_ge (tgt := 57) dX4_pick_6 (by decide) (fun h2 => ?_) (fun h2 => ?_)
    · exact kv_rv dX4_pick_57 rfl (by first | rfl | rw [if_pos (by omega)] | rw [if_neg (by omega)] | grind)
    · refine kw_iload_n dX4_pick_9 rfl ?_
      refine kw_if_lt (tgt := 57) dX4_pick_10 (by decide) (fun h3 => ?_) (fun h3 => ?_)
      · exact kv_rv dX4_pick_57 rfl (by first | rfl | rw [if_pos (by omega)] | rw [if_neg (by omega)] | grind)
      · refine kw_iload_n dX4_pick_13 rfl ?_
        refine kw_bipush dX4_pick_14 (by decide) (by decide) ?_
        refine kw_icmp_ge (tgt := 57) dX4_pick_16 (by decide) (fun h4 => ?_) (fun h4 => ?_)
        · exact kv_rv dX4_pick_57 rfl (by first | rfl | rw [if_pos (by omega)] | rw [if_neg (by omega)] | grind)
        · refine kw_aload_n dX4_pick_19 rfl ?_
          refine kw_dup dX4_pick_20 trivial ?_
          refine kv_getI (kz := 2) dX4_pick_21 kf_X4_19 (kSA_m ha w) rfl rfl rfl ?_
          refine kw_iconst dX4_pick_24 ⟨by decide, by decide⟩ ?_
          refine kw_iload_n dX4_pick_25 rfl ?_
          refine kv_shl1 dX4_pick_26 (by omega) (by omega) ?_
          refine kv_orb (b := b) dX4_pick_27 (by omega) (by omega) (by omega) (by omega) h0 ?_
          refine kv_putI (kz := 2) dX4_pick_28 kp_X4_19 (kSA_m ha w) rfl (fun h => by cases h) rfl ?_
          refine kw_aload_n dX4_pick_31 rfl ?_
          refine kv_getR (b := a + 1) dX4_pick_32 kf_X4_11 (kSA_m ha w) rfl rfl (kSA_g ha hg) ?_
          refine kw_bipush dX4_pick_35 (by decide) (by decide) ?_
          refine kw_iload_n dX4_pick_37 rfl ?_
          refine kw_iadd dX4_pick_38 ⟨by omega, by omega⟩ ?_
          refine kw_dup2 dX4_pick_39 trivial trivial ?_
          refine kv_iald dX4_pick_40 (kSA_c ha w) (by omega) (by omega) (k_u_ne (by omega)) ?_
          refine kw_iload_n dX4_pick_41 rfl ?_
          refine kw_iadd dX4_pick_42 ⟨by omega, by omega⟩ ?_
          refine kv_iast dX4_pick_43 (kSA_c ha w) (by omega) (by omega) ?_
          refine kw_aload_n dX4_pick_44 rfl ?_
          refine kv_getR (b := a + 1) dX4_pick_45 kf_X4_11 (kSA_m ha w) rfl rfl (kSA_g ha hg) ?_
          refine kw_bipush dX4_pick_48 (by decide) (by decide) ?_
          refine kw_iload_n dX4_pick_50 rfl ?_
          refine kw_iadd dX4_pick_51 ⟨by omega, by omega⟩ ?_
          refine kw_dup2 dX4_pick_52 trivial trivial ?_
          refine kv_iald dX4_pick_53 (kSA_c ha w) (by omega) (by omega) ((k_u_ne2 (by omega)).trans (k_u_ne (by omega))) ?_
          refine kw_iload_n dX4_pick_54 rfl ?_
          refine kw_iadd dX4_pick_55 ⟨by omega, by omega⟩ ?_
          refine kv_iast dX4_pick_56 (kSA_c ha w) (by omega) (by omega) ?_
          exact kv_rv dX4_pick_57 rfl (by first | rfl | rw [if_pos (by omega)] | rw [if_neg (by omega)] | grind)
theorem c_goBy {E : kEnv} {w : List (Nat × Nat)} {f : Nat → Int → Int} {g : Nat → Int → Option Nat} {a : Nat} {n : Int} (ha : kSA a) (hg : kG g) (x1 : 0 ≤ n ∧ n ≤ 1000) (x2 : -1000 ≤ f a 1 ∧ f a 1 ≤ 1000) : kF E 0 M_X4_goBy [kA (a), kI (n)] ((kMC ++ w), f, g) (none) ((kMC ++ w), kGoBy f a n, g) := by
  refine kF_of (by decide) (by simp [k_one]) (Nat.le_of_ble_eq_true rfl) (L := [some (kA (a)), some (kI (n)), none]) rfl ?_
  refine kw_aload_n dX4_goBy_0 rfl ?_
  refine kw_dup dX4_goBy_1 trivial ?_
  refine kv_getI (kz := 1) dX4_goBy_2 kf_X4_15 (kSA_m ha w) rfl rfl rfl ?_
  refine kw_iload_n dX4_goBy_5 rfl ?_
  refine kw_iadd dX4_goBy_6 ⟨by omega, by omega⟩ ?_
  refine kv_putI (kz := 1) dX4_goBy_7 kp_X4_15 (kSA_m ha w) rfl (fun h => by cases h) rfl ?_
  refine kw_iconst dX4_goBy_10 ⟨by decide, by decide⟩ ?_
  refine kw_istore_n dX4_goBy_11 (by decide) trivial (L2 := [some (kA (a)), some (kI (n)), some (kI (0))]) rfl ?_
  refine kw_iload_n dX4_goBy_12 rfl ?_
  refine kw_iconst dX4_goBy_13 ⟨by decide, by decide⟩ ?_
  refine kw_icmp_ge (tgt := 33) dX4_goBy_14 (by decide) (kt := fun h => absurd h (by decide)) (kf := fun _ => ?_)
  refine kw_aload_n dX4_goBy_17 rfl ?_
  refine kv_getR (b := a + 1) dX4_goBy_18 kf_X4_11 (kSA_m ha w) rfl rfl (kSA_g ha hg) ?_
  refine kw_bipush dX4_goBy_21 (by decide) (by decide) ?_
  refine kw_iload_n dX4_goBy_23 rfl ?_
  refine kw_iadd dX4_goBy_24 ⟨by omega, by omega⟩ ?_
  refine kw_iconst dX4_goBy_25 ⟨by decide, by decide⟩ ?_
  refine kv_iast dX4_goBy_26 (kSA_c ha w) (by omega) (by omega) ?_
  refine kw_iinc dX4_goBy_27 (by decide) rfl ⟨by omega, by omega⟩ trivial (L2 := [some (kA (a)), some (kI (n)), some (kI (1))]) rfl ?_
  refine kw_goto (tgt := 12) dX4_goBy_30 (by decide) ?_
  refine kw_iload_n dX4_goBy_12 rfl ?_
  refine kw_iconst dX4_goBy_13 ⟨by decide, by decide⟩ ?_
  refine kw_icmp_ge (tgt := 33) dX4_goBy_14 (by decide) (kt := fun h => absurd h (by decide)) (kf := fun _ => ?_)
  refine kw_aload_n dX4_goBy_17 rfl ?_
  refine kv_getR (b := a + 1) dX4_goBy_18 kf_X4_11 (kSA_m ha w) rfl rfl (kSA_g ha hg) ?_
  refine kw_bipush dX4_goBy_21 (by decide) (by decide) ?_
  refine kw_iload_n dX4_goBy_23 rfl ?_
  refine kw_iadd dX4_goBy_24 ⟨by omega, by omega⟩ ?_
  refine kw_iconst dX4_goBy_25 ⟨by decide, by decide⟩ ?_
  refine kv_iast dX4_goBy_26 (kSA_c ha w) (by omega) (by omega) ?_
  refine kw_iinc dX4_goBy_27 (by decide) rfl ⟨by omega, by omega⟩ trivial (L2 := [some (kA (a)), some (kI (n)), some (kI (2))]) rfl ?_
  refine kw_goto (tgt := 12) dX4_goBy_30 (by decide) ?_
  refine kw_iload_n dX4_goBy_12 rfl ?_
  refine kw_iconst dX4_goBy_13 ⟨by decide, by decide⟩ ?_
  refine kw_icmp_ge (tgt := 33) dX4_goBy_14 (by decide) (kt := fun h => absurd h (by decide)) (kf := fun _ => ?_)
  refine kw_aload_n dX4_goBy_17 rfl ?_
  refine kv_getR (b := a + 1) dX4_goBy_18 kf_X4_11 (kSA_m ha w) rfl rfl (kSA_g ha hg) ?_
  refine kw_bipush dX4_goBy_21 (by decide) (by decide) ?_
  refine kw_iload_n dX4_goBy_23 rfl ?_
  refine kw_iadd dX4_goBy_24 ⟨by omega, by omega⟩ ?_
  refine kw_iconst dX4_goBy_25 ⟨by decide, by decide⟩ ?_
  refine kv_iast dX4_goBy_26 (kSA_c ha w) (by omega) (by omega) ?_
  refine kw_iinc dX4_goBy_27 (by decide) rfl ⟨by omega, by omega⟩ trivial (L2 := [some (kA (a)), some (kI (n)), some (kI (3))]) rfl ?_
  refine kw_goto (tgt := 12) dX4_goBy_30 (by decide) ?_
  refine kw_iload_n dX4_goBy_12 rfl ?_
  refine kw_iconst dX4_goBy_13 ⟨by decide, by decide⟩ ?_
  refine kw_icmp_ge (tgt := 33) dX4_goBy_14 (by decide) (kt := fun h => absurd h (by decide)) (kf := fun _ => ?_)
  refine kw_aload_n dX4_goBy_17 rfl ?_
  refine kv_getR (b := a + 1) dX4_goBy_18 kf_X4_11 (kSA_m ha w) rfl rfl (kSA_g ha hg) ?_
  refine kw_bipush dX4_goBy_21 (by decide) (by decide) ?_
  refine kw_iload_n dX4_goBy_23 rfl ?_
  refine kw_iadd dX4_goBy_24 ⟨by omega, by omega⟩ ?_
  refine kw_iconst dX4_goBy_25 ⟨by decide, by decide⟩ ?_
  refine kv_iast dX4_goBy_26 (kSA_c ha w) (by omega) (by omega) ?_
  refine kw_iinc dX4_goBy_27 (by decide) rfl ⟨by omega, by omega⟩ trivial (L2 := [some (kA (a)), some (kI (n)), some (kI (4))]) rfl ?_
  refine kw_goto (tgt := 12) dX4_goBy_30 (by decide) ?_
  refine kw_iload_n dX4_goBy_12 rfl ?_
  refine kw_iconst dX4_goBy_13 ⟨by decide, by decide⟩ ?_
  refine kw_icmp_ge (tgt := 33) dX4_goBy_14 (by decide) (kf := fun h => absurd (by decide) h) (kt := fun _ => ?_)
  exact kv_rv dX4_goBy_33 rfl (by first | rfl | rw [if_pos (by omega)] | rw [if_neg (by omega)] | grind)
theorem c_become {E : kEnv} {w : List (Nat × Nat)} {f : Nat → Int → Int} {g : Nat → Int → Option Nat} {a b : Nat} (ha : kSA a) (hg : kG g) (hb : kSA b) : kF E 1 M_X4_become [kA (a), kA (b)] ((kMC ++ w), f, g) (none) ((kMC ++ w), kBec f a b, g) := by
  refine kF_of (by decide) (by simp [k_one]) (Nat.le_of_ble_eq_true rfl) (L := [some (kA (a)), some (kA (b))]) rfl ?_
  have za := kSA_lt ha
  have zb := kSA_lt hb
  refine kw_aload_n dX4_become_0 rfl ?_
  refine kw_ifnullA (by omega) dX4_become_1 ?_
  refine kw_aload_n dX4_become_4 rfl ?_
  refine kw_aload_n dX4_become_5 rfl ?_
  refine kv_getI (kz := 1) dX4_become_6 kf_X4_15 (kSA_m hb w) rfl rfl rfl ?_
  refine kv_putI (kz := 1) dX4_become_9 kp_X4_15 (kSA_m ha w) rfl (fun h => by cases h) rfl ?_
  refine kw_aload_n dX4_become_12 rfl ?_
  refine kw_aload_n dX4_become_13 rfl ?_
  refine kv_getI (kz := 2) dX4_become_14 kf_X4_19 (kSA_m hb w) rfl rfl (k_u_ne2 (by decide)) ?_
  refine kv_putI (kz := 2) dX4_become_17 kp_X4_19 (kSA_m ha w) rfl (fun h => by cases h) rfl ?_
  refine kw_aload_n dX4_become_20 rfl ?_
  refine kv_getR (b := b + 1) dX4_become_21 kf_X4_11 (kSA_m hb w) rfl rfl (kSA_g hb hg) ?_
  refine kw_iconst dX4_become_24 ⟨by decide, by decide⟩ ?_
  refine kw_aload_n dX4_become_25 rfl ?_
  refine kv_getR (b := a + 1) dX4_become_26 kf_X4_11 (kSA_m ha w) rfl rfl (kSA_g ha hg) ?_
  refine kw_iconst dX4_become_29 ⟨by decide, by decide⟩ ?_
  refine kw_bipush dX4_become_30 (by decide) (by decide) ?_
  refine kv_copy dX4_become_32 ml_X4_22 (kSA_c hb w) (kSA_c ha w) (by omega) (by omega) (by omega) (by omega) (by omega) (Nat.le_of_ble_eq_true rfl) (by omega) ?_
  exact kv_rv dX4_become_35 rfl (by unfold kBec; rfl)
def kClr (f : Nat → Int → Int) (a : Nat) (k : Int) : Nat → Int → Int := fun b j => if b = a ∧ (j = 1 ∨ j = 2) then 0 else if b = a + 1 ∧ 0 ≤ j ∧ j < k then 0 else f b j
theorem kClr_s {f : Nat → Int → Int} {a : Nat} {k : Int} (h : 0 ≤ k) : k_u (kClr f a k) (a + 1) k 0 = kClr f a (k + 1) := by
  funext b j
  unfold k_u kClr
  grind
theorem kClr_0 {f : Nat → Int → Int} {a : Nat} : k_u (k_u f a 1 0) a 2 0 = kClr f a 0 := by
  funext b j
  unfold k_u kClr
  grind
theorem l_clear {E : kEnv} {w : List (Nat × Nat)} {f : Nat → Int → Int} {g : Nat → Int → Option Nat} {a : Nat} (ha : kSA a) (hg : kG g) {d : Nat} : ∀ (n : Nat) (k : Int), 0 ≤ k → k ≤ 20 → (20 - k).toNat < n → kW E d 0 0 M_X4_clear 12 [some (kA a), some (kI k)] [] (kMC ++ w, kClr f a k, g) (fun r h' => r = none ∧ h' = (kMC ++ w, kClr f a 20, g)) := by
  intro n
  induction n with
  | zero => intro k _ _ y; omega
  | succ n ih =>
    intro k y0 y1 y2
    refine kw_iload_n dX4_clear_12 rfl ?_
    refine kw_aload_n dX4_clear_13 rfl ?_
    refine kv_getR (b := a + 1) dX4_clear_14 kf_X4_11 (kSA_m ha w) rfl rfl (kSA_g ha hg) ?_
    refine kv_alen dX4_clear_17 (kSA_c ha w) (by decide) ?_
    refine kw_icmp_ge (tgt := 34) dX4_clear_18 (by decide) (fun h1 => ?_) (fun h1 => ?_)
    · exact kv_rv dX4_clear_34 rfl (by rw [show k = 20 by omega])
    · refine kw_aload_n dX4_clear_21 rfl ?_
      refine kv_getR (b := a + 1) dX4_clear_22 kf_X4_11 (kSA_m ha w) rfl rfl (kSA_g ha hg) ?_
      refine kw_iload_n dX4_clear_25 rfl ?_
      refine kw_iconst dX4_clear_26 ⟨by decide, by decide⟩ ?_
      refine kv_iast dX4_clear_27 (kSA_c ha w) (by omega) (by omega) ?_
      refine kw_iinc dX4_clear_28 (by decide) rfl ⟨by omega, by omega⟩ trivial (L2 := [some (kA (a)), some (kI (k + 1))]) rfl ?_
      refine kw_goto (tgt := 12) dX4_clear_31 (by decide) ?_
      rw [kClr_s y0]
      exact ih (k + 1) (by omega) (by omega) (by omega)
theorem c_clear {E : kEnv} {w : List (Nat × Nat)} {f : Nat → Int → Int} {g : Nat → Int → Option Nat} {a : Nat} (ha : kSA a) (hg : kG g) : kF E 0 M_X4_clear [kA (a)] ((kMC ++ w), f, g) (none) ((kMC ++ w), kClr f a 20, g) := by
  refine kF_of (by decide) (by simp [k_one]) (Nat.le_of_ble_eq_true rfl) (L := [some (kA (a)), none]) rfl ?_
  refine kw_aload_n dX4_clear_0 rfl ?_
  refine kw_iconst dX4_clear_1 ⟨by decide, by decide⟩ ?_
  refine kv_putI (kz := 1) dX4_clear_2 kp_X4_15 (kSA_m ha w) rfl (fun h => by cases h) rfl ?_
  refine kw_aload_n dX4_clear_5 rfl ?_
  refine kw_iconst dX4_clear_6 ⟨by decide, by decide⟩ ?_
  refine kv_putI (kz := 2) dX4_clear_7 kp_X4_19 (kSA_m ha w) rfl (fun h => by cases h) rfl ?_
  refine kw_iconst dX4_clear_10 ⟨by decide, by decide⟩ ?_
  refine kw_istore_n dX4_clear_11 (by decide) trivial (L2 := [some (kA (a)), some (kI (0))]) rfl ?_
  rw [kClr_0]
  exact l_clear ha hg 21 0 (by omega) (by omega) (by decide)
theorem c_kind {E : kEnv} {w : List (Nat × Nat)} {f : Nat → Int → Int} {g : Nat → Int → Option Nat} {b : Int} (hg : kG g) (hb : 0 ≤ b ∧ b < 8) : kF E 0 M_X2_kind [kA (4), kI (b)] ((kMC ++ w), f, g) (some (kI (f 5 b))) ((kMC ++ w), f, g) := by
  refine kF_of (by decide) (by simp [k_one]) (Nat.le_of_ble_eq_true rfl) (L := [some (kA (4)), some (kI (b))]) rfl ?_
  refine kw_iload_n dX2_kind_0 rfl ?_
  refine kw_if_lt (tgt := 22) dX2_kind_1 (by decide) (fun h1 => ?_) (fun h1 => ?_)
  · refine kw_iconst dX2_kind_22 ⟨by decide, by decide⟩ ?_
    exact kv_ri dX2_kind_23 rfl (by first | rfl | omega | (split <;> omega) | ((repeat' split) <;> omega) | grind) (by first | rfl | rw [if_pos (by omega)] | rw [if_neg (by omega)] | grind)
  · refine kw_iload_n dX2_kind_4 rfl ?_
    refine kw_aload_n dX2_kind_5 rfl ?_
    refine kv_getR (b := 5) dX2_kind_6 kf_X2_9 rfl rfl rfl (hg (4, 0, 5) (by decide)) ?_
    refine kv_alen dX2_kind_9 rfl (by decide) ?_
    refine kw_icmp_ge (tgt := 22) dX2_kind_10 (by decide) (fun h2 => ?_) (fun h2 => ?_)
    · refine kw_iconst dX2_kind_22 ⟨by decide, by decide⟩ ?_
      exact kv_ri dX2_kind_23 rfl (by first | rfl | omega | (split <;> omega) | ((repeat' split) <;> omega) | grind) (by first | rfl | rw [if_pos (by omega)] | rw [if_neg (by omega)] | grind)
    · refine kw_aload_n dX2_kind_13 rfl ?_
      refine kv_getR (b := 5) dX2_kind_14 kf_X2_9 rfl rfl rfl (hg (4, 0, 5) (by decide)) ?_
      refine kw_iload_n dX2_kind_17 rfl ?_
      refine kv_iald dX2_kind_18 rfl (by omega) (by omega) rfl ?_
      refine kw_goto (tgt := 23) dX2_kind_19 (by decide) ?_
      exact kv_ri dX2_kind_23 rfl (by first | rfl | omega | (split <;> omega) | ((repeat' split) <;> omega) | grind) (by first | rfl | rw [if_pos (by omega)] | rw [if_neg (by omega)] | grind)
theorem c_height {E : kEnv} {w : List (Nat × Nat)} {f : Nat → Int → Int} {g : Nat → Int → Option Nat} {b : Int} (hg : kG g) (hb : 0 ≤ b ∧ b < 8) : kF E 0 M_X2_height [kA (4), kI (b)] ((kMC ++ w), f, g) (some (kI (f 6 b))) ((kMC ++ w), f, g) := by
  refine kF_of (by decide) (by simp [k_one]) (Nat.le_of_ble_eq_true rfl) (L := [some (kA (4)), some (kI (b))]) rfl ?_
  refine kw_iload_n dX2_height_0 rfl ?_
  refine kw_if_lt (tgt := 22) dX2_height_1 (by decide) (fun h1 => ?_) (fun h1 => ?_)
  · refine kw_iconst dX2_height_22 ⟨by decide, by decide⟩ ?_
    exact kv_ri dX2_height_23 rfl (by first | rfl | omega | (split <;> omega) | ((repeat' split) <;> omega) | grind) (by first | rfl | rw [if_pos (by omega)] | rw [if_neg (by omega)] | grind)
  · refine kw_iload_n dX2_height_4 rfl ?_
    refine kw_aload_n dX2_height_5 rfl ?_
    refine kv_getR (b := 6) dX2_height_6 kf_X2_15 rfl rfl rfl (hg (4, 1, 6) (by decide)) ?_
    refine kv_alen dX2_height_9 rfl (by decide) ?_
    refine kw_icmp_ge (tgt := 22) dX2_height_10 (by decide) (fun h2 => ?_) (fun h2 => ?_)
    · refine kw_iconst dX2_height_22 ⟨by decide, by decide⟩ ?_
      exact kv_ri dX2_height_23 rfl (by first | rfl | omega | (split <;> omega) | ((repeat' split) <;> omega) | grind) (by first | rfl | rw [if_pos (by omega)] | rw [if_neg (by omega)] | grind)
    · refine kw_aload_n dX2_height_13 rfl ?_
      refine kv_getR (b := 6) dX2_height_14 kf_X2_15 rfl rfl rfl (hg (4, 1, 6) (by decide)) ?_
      refine kw_iload_n dX2_height_17 rfl ?_
      refine kv_iald dX2_height_18 rfl (by omega) (by omega) rfl ?_
      refine kw_goto (tgt := 23) dX2_height_19 (by decide) ?_
      exact kv_ri dX2_height_23 rfl (by first | rfl | omega | (split <;> omega) | ((repeat' split) <;> omega) | grind) (by first | rfl | rw [if_pos (by omega)] | rw [if_neg (by omega)] | grind)
theorem c_weight {E : kEnv} {w : List (Nat × Nat)} {f : Nat → Int → Int} {g : Nat → Int → Option Nat} {b : Int} (hg : kG g) (hb : 0 ≤ b ∧ b < 8) : kF E 0 M_X2_weight [kA (4), kI (b)] ((kMC ++ w), f, g) (some (kI (f 7 b))) ((kMC ++ w), f, g) := by
  refine kF_of (by decide) (by simp [k_one]) (Nat.le_of_ble_eq_true rfl) (L := [some (kA (4)), some (kI (b))]) rfl ?_
  refine kw_iload_n dX2_weight_0 rfl ?_
  refine kw_if_lt (tgt := 22) dX2_weight_1 (by decide) (fun h1 => ?_) (fun h1 => ?_)
  · refine kw_iconst dX2_weight_22 ⟨by decide, by decide⟩ ?_
    exact kv_ri dX2_weight_23 rfl (by first | rfl | omega | (split <;> omega) | ((repeat' split) <;> omega) | grind) (by first | rfl | rw [if_pos (by omega)] | rw [if_neg (by omega)] | grind)
  · refine kw_iload_n dX2_weight_4 rfl ?_
    refine kw_aload_n dX2_weight_5 rfl ?_
    refine kv_getR (b := 7) dX2_weight_6 kf_X2_18 rfl rfl rfl (hg (4, 2, 7) (by decide)) ?_
    refine kv_alen dX2_weight_9 rfl (by decide) ?_
    refine kw_icmp_ge (tgt := 22) dX2_weight_10 (by decide) (fun h2 => ?_) (fun h2 => ?_)
    · refine kw_iconst dX2_weight_22 ⟨by decide, by decide⟩ ?_
      exact kv_ri dX2_weight_23 rfl (by first | rfl | omega | (split <;> omega) | ((repeat' split) <;> omega) | grind) (by first | rfl | rw [if_pos (by omega)] | rw [if_neg (by omega)] | grind)
    · refine kw_aload_n dX2_weight_13 rfl ?_
      refine kv_getR (b := 7) dX2_weight_14 kf_X2_18 rfl rfl rfl (hg (4, 2, 7) (by decide)) ?_
      refine kw_iload_n dX2_weight_17 rfl ?_
      refine kv_iald dX2_weight_18 rfl (by omega) (by omega) rfl ?_
      refine kw_goto (tgt := 23) dX2_weight_19 (by decide) ?_
      exact kv_ri dX2_weight_23 rfl (by first | rfl | omega | (split <;> omega) | ((repeat' split) <;> omega) | grind) (by first | rfl | rw [if_pos (by omega)] | rw [if_neg (by omega)] | grind)
theorem c_strength {E : kEnv} {w : List (Nat × Nat)} {f : Nat → Int → Int} {g : Nat → Int → Option Nat} {b : Int} (hg : kG g) (hb : 0 ≤ b ∧ b < 4) : kF E 0 M_X2_strength [kA (4), kI (b)] ((kMC ++ w), f, g) (some (kI (f 8 b))) ((kMC ++ w), f, g) := by
  refine kF_of (by decide) (by simp [k_one]) (Nat.le_of_ble_eq_true rfl) (L := [some (kA (4)), some (kI (b))]) rfl ?_
  refine kw_iload_n dX2_strength_0 rfl ?_
  refine kw_if_lt (tgt := 22) dX2_strength_1 (by decide) (fun h1 => ?_) (fun h1 => ?_)
  · refine kw_iconst dX2_strength_22 ⟨by decide, by decide⟩ ?_
    exact kv_ri dX2_strength_23 rfl (by first | rfl | omega | (split <;> omega) | ((repeat' split) <;> omega) | grind) (by first | rfl | rw [if_pos (by omega)] | rw [if_neg (by omega)] | grind)
  · refine kw_iload_n dX2_strength_4 rfl ?_
    refine kw_aload_n dX2_strength_5 rfl ?_
    refine kv_getR (b := 8) dX2_strength_6 kf_X2_21 rfl rfl rfl (hg (4, 3, 8) (by decide)) ?_
    refine kv_alen dX2_strength_9 rfl (by decide) ?_
    refine kw_icmp_ge (tgt := 22) dX2_strength_10 (by decide) (fun h2 => ?_) (fun h2 => ?_)
    · refine kw_iconst dX2_strength_22 ⟨by decide, by decide⟩ ?_
      exact kv_ri dX2_strength_23 rfl (by first | rfl | omega | (split <;> omega) | ((repeat' split) <;> omega) | grind) (by first | rfl | rw [if_pos (by omega)] | rw [if_neg (by omega)] | grind)
    · refine kw_aload_n dX2_strength_13 rfl ?_
      refine kv_getR (b := 8) dX2_strength_14 kf_X2_21 rfl rfl rfl (hg (4, 3, 8) (by decide)) ?_
      refine kw_iload_n dX2_strength_17 rfl ?_
      refine kv_iald dX2_strength_18 rfl (by omega) (by omega) rfl ?_
      refine kw_goto (tgt := 23) dX2_strength_19 (by decide) ?_
      exact kv_ri dX2_strength_23 rfl (by first | rfl | omega | (split <;> omega) | ((repeat' split) <;> omega) | grind) (by first | rfl | rw [if_pos (by omega)] | rw [if_neg (by omega)] | grind)
theorem c_hearth {E : kEnv} {w : List (Nat × Nat)} {f : Nat → Int → Int} {g : Nat → Int → Option Nat} {b : Int} (hg : kG g) (hb : 0 ≤ b ∧ b < 4) : kF E 0 M_X2_hearth [kA (4), kI (b)] ((kMC ++ w), f, g) (some (kI (f 9 b))) ((kMC ++ w), f, g) := by
  refine kF_of (by decide) (by simp [k_one]) (Nat.le_of_ble_eq_true rfl) (L := [some (kA (4)), some (kI (b))]) rfl ?_
  refine kw_iload_n dX2_hearth_0 rfl ?_
  refine kw_if_lt (tgt := 22) dX2_hearth_1 (by decide) (fun h1 => ?_) (fun h1 => ?_)
  · refine kw_iconst dX2_hearth_22 ⟨by decide, by decide⟩ ?_
    exact kv_ri dX2_hearth_23 rfl (by first | rfl | omega | (split <;> omega) | ((repeat' split) <;> omega) | grind) (by first | rfl | rw [if_pos (by omega)] | rw [if_neg (by omega)] | grind)
  · refine kw_iload_n dX2_hearth_4 rfl ?_
    refine kw_aload_n dX2_hearth_5 rfl ?_
    refine kv_getR (b := 9) dX2_hearth_6 kf_X2_24 rfl rfl rfl (hg (4, 4, 9) (by decide)) ?_
    refine kv_alen dX2_hearth_9 rfl (by decide) ?_
    refine kw_icmp_ge (tgt := 22) dX2_hearth_10 (by decide) (fun h2 => ?_) (fun h2 => ?_)
    · refine kw_iconst dX2_hearth_22 ⟨by decide, by decide⟩ ?_
      exact kv_ri dX2_hearth_23 rfl (by first | rfl | omega | (split <;> omega) | ((repeat' split) <;> omega) | grind) (by first | rfl | rw [if_pos (by omega)] | rw [if_neg (by omega)] | grind)
    · refine kw_aload_n dX2_hearth_13 rfl ?_
      refine kv_getR (b := 9) dX2_hearth_14 kf_X2_24 rfl rfl rfl (hg (4, 4, 9) (by decide)) ?_
      refine kw_iload_n dX2_hearth_17 rfl ?_
      refine kv_iald dX2_hearth_18 rfl (by omega) (by omega) rfl ?_
      refine kw_goto (tgt := 23) dX2_hearth_19 (by decide) ?_
      exact kv_ri dX2_hearth_23 rfl (by first | rfl | omega | (split <;> omega) | ((repeat' split) <;> omega) | grind) (by first | rfl | rw [if_pos (by omega)] | rw [if_neg (by omega)] | grind)
theorem c_hasBough {E : kEnv} {w : List (Nat × Nat)} {f : Nat → Int → Int} {g : Nat → Int → Option Nat} {b : Int} (hg : kG g) : kF E 0 M_X2_hasBough [kA (4), kI (b)] ((kMC ++ w), f, g) (some (kI (if 0 ≤ b ∧ b < f 4 5 ∧ b < 8 then 1 else 0))) ((kMC ++ w), f, g) := by
  refine kF_of (by decide) (by simp [k_one]) (Nat.le_of_ble_eq_true rfl) (L := [some (kA (4)), some (kI (b))]) rfl ?_
  refine kw_iload_n dX2_hasBough_0 rfl ?_
  refine kw_if_lt (tgt := 22) dX2_hasBough_1 (by decide) (fun h1 => ?_) (fun h1 => ?_)
  · refine kw_iconst dX2_hasBough_22 ⟨by decide, by decide⟩ ?_
    exact kv_rb dX2_hasBough_23 rfl (by first | rfl | omega | (split <;> omega) | ((repeat' split) <;> omega) | grind) (by first | rfl | rw [if_pos (by omega)] | rw [if_neg (by omega)] | grind)
  · refine kw_iload_n dX2_hasBough_4 rfl ?_
    refine kw_aload_n dX2_hasBough_5 rfl ?_
    refine kv_getI (kz := 5) dX2_hasBough_6 kf_X2_27 rfl rfl rfl rfl ?_
    refine kw_icmp_ge (tgt := 22) dX2_hasBough_9 (by decide) (fun h2 => ?_) (fun h2 => ?_)
    · refine kw_iconst dX2_hasBough_22 ⟨by decide, by decide⟩ ?_
      exact kv_rb dX2_hasBough_23 rfl (by first | rfl | omega | (split <;> omega) | ((repeat' split) <;> omega) | grind) (by first | rfl | rw [if_pos (by omega)] | rw [if_neg (by omega)] | grind)
    · refine kw_iload_n dX2_hasBough_12 rfl ?_
      refine kw_bipush dX2_hasBough_13 (by decide) (by decide) ?_
      refine kw_icmp_ge (tgt := 22) dX2_hasBough_15 (by decide) (fun h3 => ?_) (fun h3 => ?_)
      · refine kw_iconst dX2_hasBough_22 ⟨by decide, by decide⟩ ?_
        exact kv_rb dX2_hasBough_23 rfl (by first | rfl | omega | (split <;> omega) | ((repeat' split) <;> omega) | grind) (by first | rfl | rw [if_pos (by omega)] | rw [if_neg (by omega)] | grind)
      · refine kw_iconst dX2_hasBough_18 ⟨by decide, by decide⟩ ?_
        refine kw_goto (tgt := 23) dX2_hasBough_19 (by decide) ?_
        exact kv_rb dX2_hasBough_23 rfl (by first | rfl | omega | (split <;> omega) | ((repeat' split) <;> omega) | grind) (by first | rfl | rw [if_pos (by omega)] | rw [if_neg (by omega)] | grind)
theorem c_hasTenant {E : kEnv} {w : List (Nat × Nat)} {f : Nat → Int → Int} {g : Nat → Int → Option Nat} {i : Int} (hg : kG g) : kF E 0 M_X2_hasTenant [kA (4), kI (i)] ((kMC ++ w), f, g) (some (kI (if 0 ≤ i ∧ i < f 4 6 ∧ i < 4 then 1 else 0))) ((kMC ++ w), f, g) := by
  refine kF_of (by decide) (by simp [k_one]) (Nat.le_of_ble_eq_true rfl) (L := [some (kA (4)), some (kI (i))]) rfl ?_
  refine kw_iload_n dX2_hasTenant_0 rfl ?_
  refine kw_if_lt (tgt := 21) dX2_hasTenant_1 (by decide) (fun h1 => ?_) (fun h1 => ?_)
  · refine kw_iconst dX2_hasTenant_21 ⟨by decide, by decide⟩ ?_
    exact kv_rb dX2_hasTenant_22 rfl (by first | rfl | omega | (split <;> omega) | ((repeat' split) <;> omega) | grind) (by first | rfl | rw [if_pos (by omega)] | rw [if_neg (by omega)] | grind)
  · refine kw_iload_n dX2_hasTenant_4 rfl ?_
    refine kw_aload_n dX2_hasTenant_5 rfl ?_
    refine kv_getI (kz := 6) dX2_hasTenant_6 kf_X2_31 rfl rfl rfl rfl ?_
    refine kw_icmp_ge (tgt := 21) dX2_hasTenant_9 (by decide) (fun h2 => ?_) (fun h2 => ?_)
    · refine kw_iconst dX2_hasTenant_21 ⟨by decide, by decide⟩ ?_
      exact kv_rb dX2_hasTenant_22 rfl (by first | rfl | omega | (split <;> omega) | ((repeat' split) <;> omega) | grind) (by first | rfl | rw [if_pos (by omega)] | rw [if_neg (by omega)] | grind)
    · refine kw_iload_n dX2_hasTenant_12 rfl ?_
      refine kw_iconst dX2_hasTenant_13 ⟨by decide, by decide⟩ ?_
      refine kw_icmp_ge (tgt := 21) dX2_hasTenant_14 (by decide) (fun h3 => ?_) (fun h3 => ?_)
      · refine kw_iconst dX2_hasTenant_21 ⟨by decide, by decide⟩ ?_
        exact kv_rb dX2_hasTenant_22 rfl (by first | rfl | omega | (split <;> omega) | ((repeat' split) <;> omega) | grind) (by first | rfl | rw [if_pos (by omega)] | rw [if_neg (by omega)] | grind)
      · refine kw_iconst dX2_hasTenant_17 ⟨by decide, by decide⟩ ?_
        refine kw_goto (tgt := 22) dX2_hasTenant_18 (by decide) ?_
        exact kv_rb dX2_hasTenant_22 rfl (by first | rfl | omega | (split <;> omega) | ((repeat' split) <;> omega) | grind) (by first | rfl | rw [if_pos (by omega)] | rw [if_neg (by omega)] | grind)
theorem c_deadFromR {E : kEnv} {w : List (Nat × Nat)} {f : Nat → Int → Int} {g : Nat → Int → Option Nat} {a : Nat} {b : Int} (ha : kSA a) (hg : kG g) (hb : 0 ≤ b ∧ b < 8) : kF E 0 M_X4_deadFrom [kA (a), kI (b)] ((kMC ++ w), f, g) (some (kI (f (a + 1) b))) ((kMC ++ w), f, g) := by
  refine kF_of (by decide) (by simp [k_one]) (Nat.le_of_ble_eq_true rfl) (L := [some (kA (a)), some (kI (b))]) rfl ?_
  refine kw_iload_n dX4_deadFrom_0 rfl ?_
  refine kw_if_lt (tgt := 19) dX4_deadFrom_1 (by decide) (fun h1 => ?_) (fun h1 => ?_)
  · refine kw_bipush dX4_deadFrom_19 (by decide) (by decide) ?_
    exact kv_ri dX4_deadFrom_21 rfl (by first | rfl | omega | (split <;> omega) | ((repeat' split) <;> omega) | grind) (by first | rfl | rw [if_pos (by omega)] | rw [if_neg (by omega)] | grind)
  · refine kw_iload_n dX4_deadFrom_4 rfl ?_
    refine kw_bipush dX4_deadFrom_5 (by decide) (by decide) ?_
    refine kw_icmp_ge (tgt := 19) dX4_deadFrom_7 (by decide) (fun h2 => ?_) (fun h2 => ?_)
    · refine kw_bipush dX4_deadFrom_19 (by decide) (by decide) ?_
      exact kv_ri dX4_deadFrom_21 rfl (by first | rfl | omega | (split <;> omega) | ((repeat' split) <;> omega) | grind) (by first | rfl | rw [if_pos (by omega)] | rw [if_neg (by omega)] | grind)
    · refine kw_aload_n dX4_deadFrom_10 rfl ?_
      refine kv_getR (b := a + 1) dX4_deadFrom_11 kf_X4_11 (kSA_m ha w) rfl rfl (kSA_g ha hg) ?_
      refine kw_iload_n dX4_deadFrom_14 rfl ?_
      refine kv_iald dX4_deadFrom_15 (kSA_c ha w) (by omega) (by omega) rfl ?_
      refine kw_goto (tgt := 21) dX4_deadFrom_16 (by decide) ?_
      exact kv_ri dX4_deadFrom_21 rfl (by first | rfl | omega | (split <;> omega) | ((repeat' split) <;> omega) | grind) (by first | rfl | rw [if_pos (by omega)] | rw [if_neg (by omega)] | grind)
theorem c_stackR {E : kEnv} {w : List (Nat × Nat)} {f : Nat → Int → Int} {g : Nat → Int → Option Nat} {a : Nat} {i : Int} (ha : kSA a) (hg : kG g) (hi : 0 ≤ i ∧ i < 4) : kF E 0 M_X4_stack [kA (a), kI (i)] ((kMC ++ w), f, g) (some (kI (f (a + 1) (8 + i)))) ((kMC ++ w), f, g) := by
  refine kF_of (by decide) (by simp [k_one]) (Nat.le_of_ble_eq_true rfl) (L := [some (kA (a)), some (kI (i))]) rfl ?_
  refine kw_iload_n dX4_stack_0 rfl ?_
  refine kw_if_lt (tgt := 21) dX4_stack_1 (by decide) (fun h1 => ?_) (fun h1 => ?_)
  · refine kw_iconst dX4_stack_21 ⟨by decide, by decide⟩ ?_
    exact kv_ri dX4_stack_22 rfl (by first | rfl | omega | (split <;> omega) | ((repeat' split) <;> omega) | grind) (by first | rfl | rw [if_pos (by omega)] | rw [if_neg (by omega)] | grind)
  · refine kw_iload_n dX4_stack_4 rfl ?_
    refine kw_iconst dX4_stack_5 ⟨by decide, by decide⟩ ?_
    refine kw_icmp_ge (tgt := 21) dX4_stack_6 (by decide) (fun h2 => ?_) (fun h2 => ?_)
    · refine kw_iconst dX4_stack_21 ⟨by decide, by decide⟩ ?_
      exact kv_ri dX4_stack_22 rfl (by first | rfl | omega | (split <;> omega) | ((repeat' split) <;> omega) | grind) (by first | rfl | rw [if_pos (by omega)] | rw [if_neg (by omega)] | grind)
    · refine kw_aload_n dX4_stack_9 rfl ?_
      refine kv_getR (b := a + 1) dX4_stack_10 kf_X4_11 (kSA_m ha w) rfl rfl (kSA_g ha hg) ?_
      refine kw_bipush dX4_stack_13 (by decide) (by decide) ?_
      refine kw_iload_n dX4_stack_15 rfl ?_
      refine kw_iadd dX4_stack_16 ⟨by omega, by omega⟩ ?_
      refine kv_iald dX4_stack_17 (kSA_c ha w) (by omega) (by omega) rfl ?_
      refine kw_goto (tgt := 22) dX4_stack_18 (by decide) ?_
      exact kv_ri dX4_stack_22 rfl (by first | rfl | omega | (split <;> omega) | ((repeat' split) <;> omega) | grind) (by first | rfl | rw [if_pos (by omega)] | rw [if_neg (by omega)] | grind)
theorem c_reachR {E : kEnv} {w : List (Nat × Nat)} {f : Nat → Int → Int} {g : Nat → Int → Option Nat} {a : Nat} {i : Int} (ha : kSA a) (hg : kG g) (hi : 0 ≤ i ∧ i < 4) : kF E 0 M_X4_reach [kA (a), kI (i)] ((kMC ++ w), f, g) (some (kI (f (a + 1) (12 + i)))) ((kMC ++ w), f, g) := by
  refine kF_of (by decide) (by simp [k_one]) (Nat.le_of_ble_eq_true rfl) (L := [some (kA (a)), some (kI (i))]) rfl ?_
  refine kw_iload_n dX4_reach_0 rfl ?_
  refine kw_if_lt (tgt := 21) dX4_reach_1 (by decide) (fun h1 => ?_) (fun h1 => ?_)
  · refine kw_iconst dX4_reach_21 ⟨by decide, by decide⟩ ?_
    exact kv_ri dX4_reach_22 rfl (by first | rfl | omega | (split <;> omega) | ((repeat' split) <;> omega) | grind) (by first | rfl | rw [if_pos (by omega)] | rw [if_neg (by omega)] | grind)
  · refine kw_iload_n dX4_reach_4 rfl ?_
    refine kw_iconst dX4_reach_5 ⟨by decide, by decide⟩ ?_
    refine kw_icmp_ge (tgt := 21) dX4_reach_6 (by decide) (fun h2 => ?_) (fun h2 => ?_)
    · refine kw_iconst dX4_reach_21 ⟨by decide, by decide⟩ ?_
      exact kv_ri dX4_reach_22 rfl (by first | rfl | omega | (split <;> omega) | ((repeat' split) <;> omega) | grind) (by first | rfl | rw [if_pos (by omega)] | rw [if_neg (by omega)] | grind)
    · refine kw_aload_n dX4_reach_9 rfl ?_
      refine kv_getR (b := a + 1) dX4_reach_10 kf_X4_11 (kSA_m ha w) rfl rfl (kSA_g ha hg) ?_
      refine kw_bipush dX4_reach_13 (by decide) (by decide) ?_
      refine kw_iload_n dX4_reach_15 rfl ?_
      refine kw_iadd dX4_reach_16 ⟨by omega, by omega⟩ ?_
      refine kv_iald dX4_reach_17 (kSA_c ha w) (by omega) (by omega) rfl ?_
      refine kw_goto (tgt := 22) dX4_reach_18 (by decide) ?_
      exact kv_ri dX4_reach_22 rfl (by first | rfl | omega | (split <;> omega) | ((repeat' split) <;> omega) | grind) (by first | rfl | rw [if_pos (by omega)] | rw [if_neg (by omega)] | grind)
theorem c_carriedR {E : kEnv} {w : List (Nat × Nat)} {f : Nat → Int → Int} {g : Nat → Int → Option Nat} {a : Nat} {i : Int} (ha : kSA a) (hg : kG g) (hi : 0 ≤ i ∧ i < 4) : kF E 0 M_X4_carried [kA (a), kI (i)] ((kMC ++ w), f, g) (some (kI (f (a + 1) (16 + i)))) ((kMC ++ w), f, g) := by
  refine kF_of (by decide) (by simp [k_one]) (Nat.le_of_ble_eq_true rfl) (L := [some (kA (a)), some (kI (i))]) rfl ?_
  refine kw_iload_n dX4_carried_0 rfl ?_
  refine kw_if_lt (tgt := 21) dX4_carried_1 (by decide) (fun h1 => ?_) (fun h1 => ?_)
  · refine kw_iconst dX4_carried_21 ⟨by decide, by decide⟩ ?_
    exact kv_ri dX4_carried_22 rfl (by first | rfl | omega | (split <;> omega) | ((repeat' split) <;> omega) | grind) (by first | rfl | rw [if_pos (by omega)] | rw [if_neg (by omega)] | grind)
  · refine kw_iload_n dX4_carried_4 rfl ?_
    refine kw_iconst dX4_carried_5 ⟨by decide, by decide⟩ ?_
    refine kw_icmp_ge (tgt := 21) dX4_carried_6 (by decide) (fun h2 => ?_) (fun h2 => ?_)
    · refine kw_iconst dX4_carried_21 ⟨by decide, by decide⟩ ?_
      exact kv_ri dX4_carried_22 rfl (by first | rfl | omega | (split <;> omega) | ((repeat' split) <;> omega) | grind) (by first | rfl | rw [if_pos (by omega)] | rw [if_neg (by omega)] | grind)
    · refine kw_aload_n dX4_carried_9 rfl ?_
      refine kv_getR (b := a + 1) dX4_carried_10 kf_X4_11 (kSA_m ha w) rfl rfl (kSA_g ha hg) ?_
      refine kw_bipush dX4_carried_13 (by decide) (by decide) ?_
      refine kw_iload_n dX4_carried_15 rfl ?_
      refine kw_iadd dX4_carried_16 ⟨by omega, by omega⟩ ?_
      refine kv_iald dX4_carried_17 (kSA_c ha w) (by omega) (by omega) rfl ?_
      refine kw_goto (tgt := 22) dX4_carried_18 (by decide) ?_
      exact kv_ri dX4_carried_22 rfl (by first | rfl | omega | (split <;> omega) | ((repeat' split) <;> omega) | grind) (by first | rfl | rw [if_pos (by omega)] | rw [if_neg (by omega)] | grind)
end
section
def kFO (f : Nat → Int → Int) : Prop := (1 ≤ f 4 5 ∧ f 4 5 ≤ 8) ∧ (1 ≤ f 4 6 ∧ f 4 6 ≤ 4) ∧ (1 ≤ f 4 7 ∧ f 4 7 ≤ 20) ∧ (1 ≤ f 4 8 ∧ f 4 8 ≤ 9) ∧ (1 ≤ f 4 9 ∧ f 4 9 ≤ 30) ∧ (∀ b, 0 ≤ b → b < f 4 5 → (0 ≤ f 5 b ∧ f 5 b ≤ 3) ∧ (1 ≤ f 6 b ∧ f 6 b ≤ 20) ∧ (1 ≤ f 7 b ∧ f 7 b ≤ 20)) ∧ (∀ i, 0 ≤ i → i < f 4 6 → (1 ≤ f 8 i ∧ f 8 i ≤ 40) ∧ (1 ≤ f 9 i ∧ f 9 i ≤ 60))
def kSO (f : Nat → Int → Int) (a : Nat) : Prop := (0 ≤ f a 1 ∧ f a 1 ≤ 300) ∧ (0 ≤ f a 2 ∧ f a 2 < 256) ∧ (∀ b, 0 ≤ b → b < f 4 5 → -100 ≤ f (a + 1) b ∧ f (a + 1) b ≤ 300) ∧ (∀ i, 0 ≤ i → i < f 4 6 → (0 ≤ f (a + 1) (8 + i) ∧ f (a + 1) (8 + i) ≤ 400) ∧ (0 ≤ f (a + 1) (12 + i) ∧ f (a + 1) (12 + i) ≤ 20) ∧ (0 ≤ f (a + 1) (16 + i) ∧ f (a + 1) (16 + i) ≤ 400))
abbrev rReach (f : Nat → Int → Int) (a : Nat) (i b : Int) : Prop := (f 5 b = 0 ∧ f 6 b ≤ f (a + 1) (12 + i)) ∨ (f 5 b = 2 ∧ f 6 b + 3 ≤ f (a + 1) (12 + i)) ∨ f 5 b = 3
abbrev rFall (f : Nat → Int → Int) (a : Nat) (b d : Int) : Prop := f (a + 1) b + f 4 9 ≤ d
abbrev rCould (f : Nat → Int → Int) (a : Nat) (i b d c : Int) : Prop := f (a + 1) b ≤ d ∧ c + f 7 b ≤ f 8 i ∧ (rFall f a b d ∨ rReach f a i b)
abbrev rCan (f : Nat → Int → Int) (a : Nat) (i b : Int) : Prop := ¬ kbit (f a 2) b = 1 ∧ rCould f a i b (f a 1) (f (a + 1) (16 + i))
abbrev rWarm (f : Nat → Int → Int) (a : Nat) (i : Int) : Prop := f 9 i ≤ f (a + 1) (8 + i)
abbrev rCaught (f : Nat → Int → Int) (a : Nat) (i b : Int) : Prop := f a 1 % f 4 8 = 0 ∧ f 4 7 < f (a + 1) (12 + i) ∧ f 5 b ≠ 3 ∧ ¬ rFall f a b (f a 1)
theorem c_isDead {E : kEnv} {w : List (Nat × Nat)} {f : Nat → Int → Int} {g : Nat → Int → Option Nat} {a : Nat} {b d : Int} (ha : kSA a) (hg : kG g) (hb : 0 ≤ b ∧ b < 8) : kF E 1 M_X2_isDead [kA (4), kA (a), kI (b), kI (d)] ((kMC ++ w), f, g) (some (kI (if f (a + 1) b ≤ d then 1 else 0))) ((kMC ++ w), f, g) := by
  refine kF_of (by decide) (by simp [k_one]) (Nat.le_of_ble_eq_true rfl) (L := [some (kA (4)), some (kA (a)), some (kI (b)), some (kI (d))]) rfl ?_
  refine kw_iload_n dX2_isDead_0 rfl ?_
  refine kw_aload_n dX2_isDead_1 rfl ?_
  refine kw_iload_n dX2_isDead_2 rfl ?_
  refine kv_callV1 (M2 := M_X4_deadFrom) (As := [kI (b)]) dX2_isDead_3 ml_X2_85 q_X4_deadFrom rfl (kSA_m ha w) rfl (Nat.le_of_ble_eq_true rfl) (c_deadFromR ha hg (by omega)) (by omega) ?_
  refine kw_icmp_lt (tgt := 13) dX2_isDead_6 (by decide) (fun h1 => ?_) (fun h1 => ?_)
  · refine kw_iconst dX2_isDead_13 ⟨by decide, by decide⟩ ?_
    exact kv_rb dX2_isDead_14 rfl (by first | rfl | omega | (split <;> omega) | ((repeat' split) <;> omega) | grind) (by first | rfl | rw [if_pos (by omega)] | rw [if_neg (by omega)] | grind)
  · refine kw_iconst dX2_isDead_9 ⟨by decide, by decide⟩ ?_
    refine kw_goto (tgt := 14) dX2_isDead_10 (by decide) ?_
    exact kv_rb dX2_isDead_14 rfl (by first | rfl | omega | (split <;> omega) | ((repeat' split) <;> omega) | grind) (by first | rfl | rw [if_pos (by omega)] | rw [if_neg (by omega)] | grind)
theorem c_hasFallen {E : kEnv} {w : List (Nat × Nat)} {f : Nat → Int → Int} {g : Nat → Int → Option Nat} {a : Nat} {b d : Int} (ha : kSA a) (hg : kG g) (hb : 0 ≤ b ∧ b < 8) (hx : -1000 ≤ f (a + 1) b ∧ f (a + 1) b ≤ 1000 ∧ -1000 ≤ f 4 9 ∧ f 4 9 ≤ 1000) : kF E 1 M_X2_hasFallen [kA (4), kA (a), kI (b), kI (d)] ((kMC ++ w), f, g) (some (kI (if rFall f a b d then 1 else 0))) ((kMC ++ w), f, g) := by
  refine kF_of (by decide) (by simp [k_one]) (Nat.le_of_ble_eq_true rfl) (L := [some (kA (4)), some (kA (a)), some (kI (b)), some (kI (d))]) rfl ?_
  refine kw_iload_n dX2_hasFallen_0 rfl ?_
  refine kw_aload_n dX2_hasFallen_1 rfl ?_
  refine kw_iload_n dX2_hasFallen_2 rfl ?_
  refine kv_callV1 (M2 := M_X4_deadFrom) (As := [kI (b)]) dX2_hasFallen_3 ml_X2_85 q_X4_deadFrom rfl (kSA_m ha w) rfl (Nat.le_of_ble_eq_true rfl) (c_deadFromR ha hg (by omega)) (by omega) ?_
  refine kw_aload_n dX2_hasFallen_6 rfl ?_
  refine kv_getI (kz := 9) dX2_hasFallen_7 kf_X2_40 rfl rfl rfl rfl ?_
  refine kw_iadd dX2_hasFallen_10 ⟨by omega, by omega⟩ ?_
  refine kw_icmp_lt (tgt := 18) dX2_hasFallen_11 (by decide) (fun h1 => ?_) (fun h1 => ?_)
  · refine kw_iconst dX2_hasFallen_18 ⟨by decide, by decide⟩ ?_
    exact kv_rb dX2_hasFallen_19 rfl (by first | rfl | omega | (split <;> omega) | ((repeat' split) <;> omega) | grind) (by first | rfl | rw [if_pos (by omega)] | rw [if_neg (by omega)] | grind)
  · refine kw_iconst dX2_hasFallen_14 ⟨by decide, by decide⟩ ?_
    refine kw_goto (tgt := 19) dX2_hasFallen_15 (by decide) ?_
    exact kv_rb dX2_hasFallen_19 rfl (by first | rfl | omega | (split <;> omega) | ((repeat' split) <;> omega) | grind) (by first | rfl | rw [if_pos (by omega)] | rw [if_neg (by omega)] | grind)
theorem c_isInReach {E : kEnv} {w : List (Nat × Nat)} {f : Nat → Int → Int} {g : Nat → Int → Option Nat} {a : Nat} {i b : Int} (ha : kSA a) (hg : kG g) (hF : kFO f) (hb : 0 ≤ b ∧ b < f 4 5) (hi : 0 ≤ i ∧ i < f 4 6) : kF E 1 M_X2_isInReach [kA (4), kA (a), kI (i), kI (b)] ((kMC ++ w), f, g) (some (kI (if rReach f a i b then 1 else 0))) ((kMC ++ w), f, g) := by
  refine kF_of (by decide) (by simp [k_one]) (Nat.le_of_ble_eq_true rfl) (L := [some (kA (4)), some (kA (a)), some (kI (i)), some (kI (b))]) rfl ?_
  have nb := hF.1
  have nt := hF.2.1
  have fb := hF.2.2.2.2.2.1 b hb.1 hb.2
  have fi := hF.2.2.2.2.2.2 i hi.1 hi.2
  refine kw_aload_n dX2_isInReach_0 rfl ?_
  refine kw_iload_n dX2_isInReach_1 rfl ?_
  refine kv_callV1 (M2 := M_X2_kind) (As := [kI (b)]) dX2_isInReach_2 ml_X2_88 q_X2_kind rfl rfl rfl (Nat.le_of_ble_eq_true rfl) (c_kind hg (by omega)) (by omega) ?_
  rcases (show f 5 b = 0 ∨ f 5 b = 1 ∨ f 5 b = 2 ∨ f 5 b = 3 ∨ (f 5 b < 0 ∨ 3 < f 5 b) by omega) with h1 | h1 | h1 | h1 | h1
  · refine kw_tblIn (off := 31) (tgt := 36) dX2_isInReach_5 (by omega) (by omega) (by rw [h1]; rfl) (by decide) ?_
    refine kw_aload_n dX2_isInReach_36 rfl ?_
    refine kw_iload_n dX2_isInReach_37 rfl ?_
    refine kv_callV1 (M2 := M_X2_height) (As := [kI (b)]) dX2_isInReach_38 ml_X2_91 q_X2_height rfl rfl rfl (Nat.le_of_ble_eq_true rfl) (c_height hg (by omega)) (by omega) ?_
    refine kw_aload_n dX2_isInReach_41 rfl ?_
    refine kw_iload_n dX2_isInReach_42 rfl ?_
    refine kv_callV1 (M2 := M_X4_reach) (As := [kI (i)]) dX2_isInReach_43 ml_X2_94 q_X4_reach rfl (kSA_m ha w) rfl (Nat.le_of_ble_eq_true rfl) (c_reachR ha hg (by omega)) (by omega) ?_
    refine kw_icmp_gt (tgt := 53) dX2_isInReach_46 (by decide) (fun h2 => ?_) (fun h2 => ?_)
    · refine kw_iconst dX2_isInReach_53 ⟨by decide, by decide⟩ ?_
      exact kv_rb dX2_isInReach_54 rfl (by first | rfl | omega | (split <;> omega) | ((repeat' split) <;> omega) | grind) (by first | rfl | rw [if_pos (by omega)] | rw [if_neg (by omega)] | grind)
    · refine kw_iconst dX2_isInReach_49 ⟨by decide, by decide⟩ ?_
      refine kw_goto (tgt := 54) dX2_isInReach_50 (by decide) ?_
      exact kv_rb dX2_isInReach_54 rfl (by first | rfl | omega | (split <;> omega) | ((repeat' split) <;> omega) | grind) (by first | rfl | rw [if_pos (by omega)] | rw [if_neg (by omega)] | grind)
  · refine kw_tblIn (off := 73) (tgt := 78) dX2_isInReach_5 (by omega) (by omega) (by rw [h1]; rfl) (by decide) ?_
    refine kw_iconst dX2_isInReach_78 ⟨by decide, by decide⟩ ?_
    exact kv_rb dX2_isInReach_79 rfl (by first | rfl | omega | (split <;> omega) | ((repeat' split) <;> omega) | grind) (by first | rfl | rw [if_pos (by omega)] | rw [if_neg (by omega)] | grind)
  · refine kw_tblIn (off := 50) (tgt := 55) dX2_isInReach_5 (by omega) (by omega) (by rw [h1]; rfl) (by decide) ?_
    refine kw_aload_n dX2_isInReach_55 rfl ?_
    refine kw_iload_n dX2_isInReach_56 rfl ?_
    refine kv_callV1 (M2 := M_X2_height) (As := [kI (b)]) dX2_isInReach_57 ml_X2_91 q_X2_height rfl rfl rfl (Nat.le_of_ble_eq_true rfl) (c_height hg (by omega)) (by omega) ?_
    refine kw_iconst dX2_isInReach_60 ⟨by decide, by decide⟩ ?_
    refine kw_iadd dX2_isInReach_61 ⟨by omega, by omega⟩ ?_
    refine kw_aload_n dX2_isInReach_62 rfl ?_
    refine kw_iload_n dX2_isInReach_63 rfl ?_
    refine kv_callV1 (M2 := M_X4_reach) (As := [kI (i)]) dX2_isInReach_64 ml_X2_94 q_X4_reach rfl (kSA_m ha w) rfl (Nat.le_of_ble_eq_true rfl) (c_reachR ha hg (by omega)) (by omega) ?_
    refine kw_icmp_gt (tgt := 74) dX2_isInReach_67 (by decide) (fun h3 => ?_) (fun h3 => ?_)
    · refine kw_iconst dX2_isInReach_74 ⟨by decide, by decide⟩ ?_
      exact kv_rb dX2_isInReach_75 rfl (by first | rfl | omega | (split <;> omega) | ((repeat' split) <;> omega) | grind) (by first | rfl | rw [if_pos (by omega)] | rw [if_neg (by omega)] | grind)
    · refine kw_iconst dX2_isInReach_70 ⟨by decide, by decide⟩ ?_
      refine kw_goto (tgt := 75) dX2_isInReach_71 (by decide) ?_
      exact kv_rb dX2_isInReach_75 rfl (by first | rfl | omega | (split <;> omega) | ((repeat' split) <;> omega) | grind) (by first | rfl | rw [if_pos (by omega)] | rw [if_neg (by omega)] | grind)
  · refine kw_tblIn (off := 71) (tgt := 76) dX2_isInReach_5 (by omega) (by omega) (by rw [h1]; rfl) (by decide) ?_
    refine kw_iconst dX2_isInReach_76 ⟨by decide, by decide⟩ ?_
    exact kv_rb dX2_isInReach_77 rfl (by first | rfl | omega | (split <;> omega) | ((repeat' split) <;> omega) | grind) (by first | rfl | rw [if_pos (by omega)] | rw [if_neg (by omega)] | grind)
  · refine kw_tblOut (tgt := 78) dX2_isInReach_5 (by omega) (by decide) ?_
    refine kw_iconst dX2_isInReach_78 ⟨by decide, by decide⟩ ?_
    exact kv_rb dX2_isInReach_79 rfl (by first | rfl | omega | (split <;> omega) | ((repeat' split) <;> omega) | grind) (by first | rfl | rw [if_pos (by omega)] | rw [if_neg (by omega)] | grind)
theorem c_couldTake {E : kEnv} {w : List (Nat × Nat)} {f : Nat → Int → Int} {g : Nat → Int → Option Nat} {a : Nat} {i b d c : Int} (ha : kSA a) (hg : kG g) (hF : kFO f) (hb : 0 ≤ b ∧ b < f 4 5) (hi : 0 ≤ i ∧ i < f 4 6) (hx : -1000 ≤ f (a + 1) b ∧ f (a + 1) b ≤ 1000) (hc : -1000 ≤ c ∧ c ≤ 1000) : kF E 2 M_X2_couldTake [kA (4), kA (a), kI (i), kI (b), kI (d), kI (c)] ((kMC ++ w), f, g) (some (kI (if rCould f a i b d c then 1 else 0))) ((kMC ++ w), f, g) := by
  refine kF_of (by decide) (by simp [k_one]) (Nat.le_of_ble_eq_true rfl) (L := [some (kA (4)), some (kA (a)), some (kI (i)), some (kI (b)), some (kI (d)), some (kI (c))]) rfl ?_
  have nb := hF.1
  have nt := hF.2.1
  have fb := hF.2.2.2.2.2.1 b hb.1 hb.2
  have fi := hF.2.2.2.2.2.2 i hi.1 hi.2
  have ff := hF.2.2.2.2.1
  refine kw_aload_n dX2_couldTake_0 rfl ?_
  refine kw_aload_n dX2_couldTake_1 rfl ?_
  refine kw_iload_n dX2_couldTake_2 rfl ?_
  refine kw_iload dX2_couldTake_3 rfl ?_
  refine kv_callV1 (M2 := M_X2_isDead) (As := [kA (a), kI (b), kI (d)]) dX2_couldTake_5 ml_X2_97 q_X2_isDead rfl rfl rfl (Nat.le_of_ble_eq_true rfl) (c_isDead ha hg (by omega)) (by omega) ?_
  refine kv_ifeqB (tgt := 52) dX2_couldTake_8 (by decide) (fun h1 => ?_) (fun h1 => ?_)
  · refine kw_iconst dX2_couldTake_52 ⟨by decide, by decide⟩ ?_
    exact kv_rb dX2_couldTake_53 rfl (by first | rfl | omega | (split <;> omega) | ((repeat' split) <;> omega) | grind) (by first | rfl | rw [if_pos (by omega)] | rw [if_neg (by omega)] | grind)
  · refine kw_iload dX2_couldTake_11 rfl ?_
    refine kw_aload_n dX2_couldTake_13 rfl ?_
    refine kw_iload_n dX2_couldTake_14 rfl ?_
    refine kv_callV1 (M2 := M_X2_weight) (As := [kI (b)]) dX2_couldTake_15 ml_X2_82 q_X2_weight rfl rfl rfl (Nat.le_of_ble_eq_true rfl) (c_weight hg (by omega)) (by omega) ?_
    refine kw_iadd dX2_couldTake_18 ⟨by omega, by omega⟩ ?_
    refine kw_aload_n dX2_couldTake_19 rfl ?_
    refine kw_iload_n dX2_couldTake_20 rfl ?_
    refine kv_callV1 (M2 := M_X2_strength) (As := [kI (i)]) dX2_couldTake_21 ml_X2_101 q_X2_strength rfl rfl rfl (Nat.le_of_ble_eq_true rfl) (c_strength hg (by omega)) (by omega) ?_
    refine kw_icmp_gt (tgt := 52) dX2_couldTake_24 (by decide) (fun h2 => ?_) (fun h2 => ?_)
    · refine kw_iconst dX2_couldTake_52 ⟨by decide, by decide⟩ ?_
      exact kv_rb dX2_couldTake_53 rfl (by first | rfl | omega | (split <;> omega) | ((repeat' split) <;> omega) | grind) (by first | rfl | rw [if_pos (by omega)] | rw [if_neg (by omega)] | grind)
    · refine kw_aload_n dX2_couldTake_27 rfl ?_
      refine kw_aload_n dX2_couldTake_28 rfl ?_
      refine kw_iload_n dX2_couldTake_29 rfl ?_
      refine kw_iload dX2_couldTake_30 rfl ?_
      refine kv_callV1 (M2 := M_X2_hasFallen) (As := [kA (a), kI (b), kI (d)]) dX2_couldTake_32 ml_X2_104 q_X2_hasFallen rfl rfl rfl (Nat.le_of_ble_eq_true rfl) (c_hasFallen ha hg (by omega) (by omega)) (by omega) ?_
      refine kv_ifneB (tgt := 48) dX2_couldTake_35 (by decide) (fun h3 => ?_) (fun h3 => ?_)
      · refine kw_iconst dX2_couldTake_48 ⟨by decide, by decide⟩ ?_
        refine kw_goto (tgt := 53) dX2_couldTake_49 (by decide) ?_
        exact kv_rb dX2_couldTake_53 rfl (by first | rfl | omega | (split <;> omega) | ((repeat' split) <;> omega) | grind) (by first | rfl | rw [if_pos (by omega)] | rw [if_neg (by omega)] | grind)
      · refine kw_aload_n dX2_couldTake_38 rfl ?_
        refine kw_aload_n dX2_couldTake_39 rfl ?_
        refine kw_iload_n dX2_couldTake_40 rfl ?_
        refine kw_iload_n dX2_couldTake_41 rfl ?_
        refine kv_callV1 (M2 := M_X2_isInReach) (As := [kA (a), kI (i), kI (b)]) dX2_couldTake_42 ml_X2_107 q_X2_isInReach rfl rfl rfl (Nat.le_of_ble_eq_true rfl) (c_isInReach ha hg hF hb hi) (by omega) ?_
        refine kv_ifeqB (tgt := 52) dX2_couldTake_45 (by decide) (fun h4 => ?_) (fun h4 => ?_)
        · refine kw_iconst dX2_couldTake_52 ⟨by decide, by decide⟩ ?_
          exact kv_rb dX2_couldTake_53 rfl (by first | rfl | omega | (split <;> omega) | ((repeat' split) <;> omega) | grind) (by first | rfl | rw [if_pos (by omega)] | rw [if_neg (by omega)] | grind)
        · refine kw_iconst dX2_couldTake_48 ⟨by decide, by decide⟩ ?_
          refine kw_goto (tgt := 53) dX2_couldTake_49 (by decide) ?_
          exact kv_rb dX2_couldTake_53 rfl (by first | rfl | omega | (split <;> omega) | ((repeat' split) <;> omega) | grind) (by first | rfl | rw [if_pos (by omega)] | rw [if_neg (by omega)] | grind)
theorem c_canTake {E : kEnv} {w : List (Nat × Nat)} {f : Nat → Int → Int} {g : Nat → Int → Option Nat} {a : Nat} {i b : Int} (ha : kSA a) (hg : kG g) (hF : kFO f) (hb : 0 ≤ b ∧ b < f 4 5) (hi : 0 ≤ i ∧ i < f 4 6) (hS : kSO f a) : kF E 3 M_X2_canTake [kA (4), kA (a), kI (i), kI (b)] ((kMC ++ w), f, g) (some (kI (if rCan f a i b then 1 else 0))) ((kMC ++ w), f, g) := by
  refine kF_of (by decide) (by simp [k_one]) (Nat.le_of_ble_eq_true rfl) (L := [some (kA (4)), some (kA (a)), some (kI (i)), some (kI (b))]) rfl ?_
  have nb := hF.1
  have nt := hF.2.1
  have fb := hF.2.2.2.2.2.1 b hb.1 hb.2
  have fi := hF.2.2.2.2.2.2 i hi.1 hi.2
  have sd := hS.1
  have sg := hS.2.1
  have sb := hS.2.2.1 b hb.1 hb.2
  have si := hS.2.2.2 i hi.1 hi.2
  refine kw_aload_n dX2_canTake_0 rfl ?_
  refine kw_iload_n dX2_canTake_1 rfl ?_
  refine kv_callV1 (M2 := M_X4_isGone) (As := [kI (b)]) dX2_canTake_2 ml_X2_110 q_X4_isGone rfl (kSA_m ha w) rfl (Nat.le_of_ble_eq_true rfl) (c_isGone ha hg (by omega) (by omega)) (by omega) ?_
  refine kv_ifneB (tgt := 31) dX2_canTake_5 (by decide) (fun h1 => ?_) (fun h1 => ?_)
  · refine kw_iconst dX2_canTake_31 ⟨by decide, by decide⟩ ?_
    exact kv_rb dX2_canTake_32 rfl (by first | rfl | omega | (split <;> omega) | ((repeat' split) <;> omega) | grind) (by first | rfl | rw [if_pos (by omega)] | rw [if_neg (by omega)] | grind)
  · refine kw_aload_n dX2_canTake_8 rfl ?_
    refine kw_aload_n dX2_canTake_9 rfl ?_
    refine kw_iload_n dX2_canTake_10 rfl ?_
    refine kw_iload_n dX2_canTake_11 rfl ?_
    refine kw_aload_n dX2_canTake_12 rfl ?_
    refine kv_getI (kz := 1) dX2_canTake_13 kf_X2_114 (kSA_m ha w) rfl rfl rfl ?_
    refine kw_aload_n dX2_canTake_16 rfl ?_
    refine kw_iload_n dX2_canTake_17 rfl ?_
    refine kv_callV1 (M2 := M_X4_carried) (As := [kI (i)]) dX2_canTake_18 ml_X2_117 q_X4_carried rfl (kSA_m ha w) rfl (Nat.le_of_ble_eq_true rfl) (c_carriedR ha hg (by omega)) (by omega) ?_
    refine kv_callV1 (M2 := M_X2_couldTake) (As := [kA (a), kI (i), kI (b), kI (f a 1), kI (f (a + 1) (16 + i))]) dX2_canTake_21 ml_X2_120 q_X2_couldTake rfl rfl rfl (Nat.le_of_ble_eq_true rfl) (c_couldTake ha hg hF hb hi (by omega) (by omega)) (by omega) ?_
    refine kv_ifeqB (tgt := 31) dX2_canTake_24 (by decide) (fun h2 => ?_) (fun h2 => ?_)
    · refine kw_iconst dX2_canTake_31 ⟨by decide, by decide⟩ ?_
      exact kv_rb dX2_canTake_32 rfl (by first | rfl | omega | (split <;> omega) | ((repeat' split) <;> omega) | grind) (by first | rfl | rw [if_pos (by omega)] | rw [if_neg (by omega)] | grind)
    · refine kw_iconst dX2_canTake_27 ⟨by decide, by decide⟩ ?_
      refine kw_goto (tgt := 32) dX2_canTake_28 (by decide) ?_
      exact kv_rb dX2_canTake_32 rfl (by first | rfl | omega | (split <;> omega) | ((repeat' split) <;> omega) | grind) (by first | rfl | rw [if_pos (by omega)] | rw [if_neg (by omega)] | grind)
theorem c_isCaught {E : kEnv} {w : List (Nat × Nat)} {f : Nat → Int → Int} {g : Nat → Int → Option Nat} {a : Nat} {i b : Int} (ha : kSA a) (hg : kG g) (hF : kFO f) (hb : 0 ≤ b ∧ b < f 4 5) (hi : 0 ≤ i ∧ i < f 4 6) (hS : kSO f a) : kF E 2 M_X2_isCaught [kA (4), kA (a), kI (i), kI (b)] ((kMC ++ w), f, g) (some (kI (if rCaught f a i b then 1 else 0))) ((kMC ++ w), f, g) := by
  refine kF_of (by decide) (by simp [k_one]) (Nat.le_of_ble_eq_true rfl) (L := [some (kA (4)), some (kA (a)), some (kI (i)), some (kI (b))]) rfl ?_
  have nb := hF.1
  have nt := hF.2.1
  have fb := hF.2.2.2.2.2.1 b hb.1 hb.2
  have fi := hF.2.2.2.2.2.2 i hi.1 hi.2
  have sd := hS.1
  have sg := hS.2.1
  have sb := hS.2.2.1 b hb.1 hb.2
  have si := hS.2.2.2 i hi.1 hi.2
  have ff := hF.2.2.2.2.1
  have fk := hF.2.2.2.1
  refine kw_aload_n dX2_isCaught_0 rfl ?_
  refine kv_getI (kz := 8) dX2_isCaught_1 kf_X2_37 rfl rfl rfl rfl ?_
  refine kw_if_le (tgt := 57) dX2_isCaught_4 (by decide) (fun h1 => ?_) (fun h1 => ?_)
  · refine kw_iconst dX2_isCaught_57 ⟨by decide, by decide⟩ ?_
    exact kv_rb dX2_isCaught_58 rfl (by first | rfl | omega | (split <;> omega) | ((repeat' split) <;> omega) | grind) (by first | rfl | rw [if_pos (by omega)] | rw [if_neg (by omega)] | grind)
  · refine kw_aload_n dX2_isCaught_7 rfl ?_
    refine kv_getI (kz := 1) dX2_isCaught_8 kf_X2_114 (kSA_m ha w) rfl rfl rfl ?_
    refine kw_aload_n dX2_isCaught_11 rfl ?_
    refine kv_getI (kz := 8) dX2_isCaught_12 kf_X2_37 rfl rfl rfl rfl ?_
    refine kw_irem dX2_isCaught_15 (by omega) (by omega) ?_
    refine kw_if_ne (tgt := 57) dX2_isCaught_16 (by decide) (fun h2 => ?_) (fun h2 => ?_)
    · refine kw_iconst dX2_isCaught_57 ⟨by decide, by decide⟩ ?_
      exact kv_rb dX2_isCaught_58 rfl (by first | rfl | omega | (split <;> omega) | ((repeat' split) <;> omega) | grind) (by first | rfl | rw [if_pos (by omega)] | rw [if_neg (by omega)] | grind)
    · refine kw_aload_n dX2_isCaught_19 rfl ?_
      refine kw_iload_n dX2_isCaught_20 rfl ?_
      refine kv_callV1 (M2 := M_X4_reach) (As := [kI (i)]) dX2_isCaught_21 ml_X2_94 q_X4_reach rfl (kSA_m ha w) rfl (Nat.le_of_ble_eq_true rfl) (c_reachR ha hg (by omega)) (by omega) ?_
      refine kw_aload_n dX2_isCaught_24 rfl ?_
      refine kv_getI (kz := 7) dX2_isCaught_25 kf_X2_34 rfl rfl rfl rfl ?_
      refine kw_icmp_le (tgt := 57) dX2_isCaught_28 (by decide) (fun h3 => ?_) (fun h3 => ?_)
      · refine kw_iconst dX2_isCaught_57 ⟨by decide, by decide⟩ ?_
        exact kv_rb dX2_isCaught_58 rfl (by first | rfl | omega | (split <;> omega) | ((repeat' split) <;> omega) | grind) (by first | rfl | rw [if_pos (by omega)] | rw [if_neg (by omega)] | grind)
      · refine kw_aload_n dX2_isCaught_31 rfl ?_
        refine kw_iload_n dX2_isCaught_32 rfl ?_
        refine kv_callV1 (M2 := M_X2_kind) (As := [kI (b)]) dX2_isCaught_33 ml_X2_88 q_X2_kind rfl rfl rfl (Nat.le_of_ble_eq_true rfl) (c_kind hg (by omega)) (by omega) ?_
        refine kw_iconst dX2_isCaught_36 ⟨by decide, by decide⟩ ?_
        refine kw_icmp_eq (tgt := 57) dX2_isCaught_37 (by decide) (fun h4 => ?_) (fun h4 => ?_)
        · refine kw_iconst dX2_isCaught_57 ⟨by decide, by decide⟩ ?_
          exact kv_rb dX2_isCaught_58 rfl (by first | rfl | omega | (split <;> omega) | ((repeat' split) <;> omega) | grind) (by first | rfl | rw [if_pos (by omega)] | rw [if_neg (by omega)] | grind)
        · refine kw_aload_n dX2_isCaught_40 rfl ?_
          refine kw_aload_n dX2_isCaught_41 rfl ?_
          refine kw_iload_n dX2_isCaught_42 rfl ?_
          refine kw_aload_n dX2_isCaught_43 rfl ?_
          refine kv_getI (kz := 1) dX2_isCaught_44 kf_X2_114 (kSA_m ha w) rfl rfl rfl ?_
          refine kv_callV1 (M2 := M_X2_hasFallen) (As := [kA (a), kI (b), kI (f a 1)]) dX2_isCaught_47 ml_X2_104 q_X2_hasFallen rfl rfl rfl (Nat.le_of_ble_eq_true rfl) (c_hasFallen ha hg (by omega) (by omega)) (by omega) ?_
          refine kv_ifneB (tgt := 57) dX2_isCaught_50 (by decide) (fun h5 => ?_) (fun h5 => ?_)
          · refine kw_iconst dX2_isCaught_57 ⟨by decide, by decide⟩ ?_
            exact kv_rb dX2_isCaught_58 rfl (by first | rfl | omega | (split <;> omega) | ((repeat' split) <;> omega) | grind) (by first | rfl | rw [if_pos (by omega)] | rw [if_neg (by omega)] | grind)
          · refine kw_iconst dX2_isCaught_53 ⟨by decide, by decide⟩ ?_
            refine kw_goto (tgt := 58) dX2_isCaught_54 (by decide) ?_
            exact kv_rb dX2_isCaught_58 rfl (by first | rfl | omega | (split <;> omega) | ((repeat' split) <;> omega) | grind) (by first | rfl | rw [if_pos (by omega)] | rw [if_neg (by omega)] | grind)
theorem c_isWarm {E : kEnv} {w : List (Nat × Nat)} {f : Nat → Int → Int} {g : Nat → Int → Option Nat} {a : Nat} {i : Int} (ha : kSA a) (hg : kG g) (hi : 0 ≤ i ∧ i < 4) : kF E 1 M_X2_isWarm [kA (4), kA (a), kI (i)] ((kMC ++ w), f, g) (some (kI (if rWarm f a i then 1 else 0))) ((kMC ++ w), f, g) := by
  refine kF_of (by decide) (by simp [k_one]) (Nat.le_of_ble_eq_true rfl) (L := [some (kA (4)), some (kA (a)), some (kI (i))]) rfl ?_
  refine kw_aload_n dX2_isWarm_0 rfl ?_
  refine kw_iload_n dX2_isWarm_1 rfl ?_
  refine kv_callV1 (M2 := M_X4_stack) (As := [kI (i)]) dX2_isWarm_2 ml_X2_124 q_X4_stack rfl (kSA_m ha w) rfl (Nat.le_of_ble_eq_true rfl) (c_stackR ha hg (by omega)) (by omega) ?_
  refine kw_aload_n dX2_isWarm_5 rfl ?_
  refine kw_iload_n dX2_isWarm_6 rfl ?_
  refine kv_callV1 (M2 := M_X2_hearth) (As := [kI (i)]) dX2_isWarm_7 ml_X2_127 q_X2_hearth rfl rfl rfl (Nat.le_of_ble_eq_true rfl) (c_hearth hg (by omega)) (by omega) ?_
  refine kw_icmp_lt (tgt := 17) dX2_isWarm_10 (by decide) (fun h1 => ?_) (fun h1 => ?_)
  · refine kw_iconst dX2_isWarm_17 ⟨by decide, by decide⟩ ?_
    exact kv_rb dX2_isWarm_18 rfl (by first | rfl | omega | (split <;> omega) | ((repeat' split) <;> omega) | grind) (by first | rfl | rw [if_pos (by omega)] | rw [if_neg (by omega)] | grind)
  · refine kw_iconst dX2_isWarm_13 ⟨by decide, by decide⟩ ?_
    refine kw_goto (tgt := 18) dX2_isWarm_14 (by decide) ?_
    exact kv_rb dX2_isWarm_18 rfl (by first | rfl | omega | (split <;> omega) | ((repeat' split) <;> omega) | grind) (by first | rfl | rw [if_pos (by omega)] | rw [if_neg (by omega)] | grind)
end
section
/-! what the model computes, as functions of its two rows: T what was told, s what stands now -/
def upi (s : Int → Int) (i v : Int) : Int → Int := fun j => if j = i then v else s j
theorem upi_self {s : Int → Int} {i v : Int} : upi s i v i = v := if_pos rfl
theorem upi_ne {s : Int → Int} {i j v : Int} (h : j ≠ i) : upi s i v j = s j := if_neg h
/-- the cells f with the row s at a -/
def kst (f : Nat → Int → Int) (a : Nat) (s : Int → Int) : Nat → Int → Int := fun b => if b = a then s else f b
theorem kst_u {f : Nat → Int → Int} {a : Nat} {s : Int → Int} {i v : Int} : k_u (kst f a s) a i v = kst f a (upi s i v) := by
  funext b j
  unfold k_u kst upi
  by_cases h : b = a
  · simp [h]
  · simp [h]
theorem kst_0 {f : Nat → Int → Int} {a : Nat} : kst f a (f a) = f := by
  funext b
  unfold kst
  split
  · rename_i h; rw [h]
  · rfl
theorem kst_self {f : Nat → Int → Int} {a : Nat} {s : Int → Int} : kst f a s a = s := if_pos rfl
theorem kst_ne {f : Nat → Int → Int} {a b : Nat} {s : Int → Int} (h : b ≠ a) : kst f a s b = f b := if_neg h
theorem kst_kst {f : Nat → Int → Int} {a : Nat} {s t : Int → Int} : kst (kst f a s) a t = kst f a t := by
  funext b
  unfold kst
  split <;> rfl
abbrev mCould (T s : Int → Int) (i b d c : Int) : Prop := s b ≤ d ∧ (((T (5 + b) = 0 ∧ T (13 + b) ≤ s (16 + i)) ∨ (T (5 + b) = 2 ∧ T (13 + b) + 3 ≤ s (16 + i)) ∨ T (5 + b) = 3) ∨ s b + T 4 ≤ d) ∧ c + T (21 + b) ≤ T (29 + i)
abbrev mCan (T s : Int → Int) (i b : Int) : Prop := s (8 + b) = 0 ∧ mCould T s i b (s 28) (s (24 + i))
abbrev mWarm (T s : Int → Int) (i : Int) : Prop := T (33 + i) ≤ s (20 + i)
def mTakes (T s : Int → Int) (i b : Int) : Int → Int := upi (upi (upi s (8 + b) 1) (24 + i) (s (24 + i) + T (21 + b))) (20 + i) (s (20 + i) + T (21 + b))
def mPass (s : Int → Int) : Int → Int := upi (upi (upi (upi (upi s 28 (s 28 + 1)) 24 0) 25 0) 26 0) 27 0
def mStep (T s : Int → Int) (i b : Int) : Int → Int := if ¬ mWarm T s i ∧ mCan T s i b then mTakes T s i b else s
def mRow (T : Int → Int) (i : Int) : Nat → (Int → Int) → Int → Int
  | 0, s => s
  | n + 1, s => mStep T (mRow T i n s) i n
def mEachN (T : Int → Int) : Nat → (Int → Int) → Int → Int
  | 0, s => s
  | n + 1, s => mRow T n (T 0).toNat (mEachN T n s)
def mEach (T s : Int → Int) : Int → Int := mEachN T (T 1).toNat s
def mBits (T s : Int → Int) : Nat → Int
  | 0 => 0
  | n + 1 => mBits T s n + (if mWarm T s n then 2 ^ n else 0)
def mBit (T s : Int → Int) : Int := mBits T s (T 1).toNat
/-- after n days -/
def mAt (T : Int → Int) : Nat → (Int → Int) → Int → Int
  | 0, s => s
  | n + 1, s => mPass (mEach T (mAt T n s))
/-- what was told is in order; what stands is in order -/
def mTO (T : Int → Int) : Prop := (1 ≤ T 0 ∧ T 0 ≤ 8) ∧ (1 ≤ T 1 ∧ T 1 ≤ 4) ∧ (1 ≤ T 2 ∧ T 2 ≤ 20) ∧ (1 ≤ T 3 ∧ T 3 ≤ 9) ∧ (1 ≤ T 4 ∧ T 4 ≤ 30) ∧ (∀ b, 0 ≤ b → b < T 0 → (0 ≤ T (5 + b) ∧ T (5 + b) ≤ 3) ∧ (1 ≤ T (13 + b) ∧ T (13 + b) ≤ 20) ∧ (1 ≤ T (21 + b) ∧ T (21 + b) ≤ 20)) ∧ (∀ i, 0 ≤ i → i < T 1 → (1 ≤ T (29 + i) ∧ T (29 + i) ≤ 40) ∧ (1 ≤ T (33 + i) ∧ T (33 + i) ≤ 60))
abbrev mGone (s : Int → Int) : Int := s 8 + s 9 + s 10 + s 11 + s 12 + s 13 + s 14 + s 15
def mSO (T s : Int → Int) : Prop := (∀ b, 0 ≤ b → b < 8 → (s (8 + b) = 0 ∨ s (8 + b) = 1) ∧ (T 0 ≤ b → s (8 + b) = 0)) ∧ (∀ b, 0 ≤ b → b < T 0 → -60 ≤ s b ∧ s b ≤ 200) ∧ (∀ i, 0 ≤ i → i < T 1 → (0 ≤ s (20 + i) ∧ s (20 + i) ≤ 20 * mGone s) ∧ (1 ≤ s (16 + i) ∧ s (16 + i) ≤ 20) ∧ (0 ≤ s (24 + i) ∧ s (24 + i) ≤ 40))
theorem mGone_le {T s : Int → Int} (h : mSO T s) : 0 ≤ mGone s ∧ mGone s ≤ 8 := by
  have a0 := (h.1 0 (by omega) (by omega)).1
  have a1 := (h.1 1 (by omega) (by omega)).1
  have a2 := (h.1 2 (by omega) (by omega)).1
  have a3 := (h.1 3 (by omega) (by omega)).1
  have a4 := (h.1 4 (by omega) (by omega)).1
  have a5 := (h.1 5 (by omega) (by omega)).1
  have a6 := (h.1 6 (by omega) (by omega)).1
  have a7 := (h.1 7 (by omega) (by omega)).1
  simp only [Int.reduceAdd] at a0 a1 a2 a3 a4 a5 a6 a7
  unfold mGone
  omega
theorem mTakes_at {T s : Int → Int} {i b : Int} : (∀ j, j ≠ 8 + b → j ≠ 24 + i → j ≠ 20 + i → mTakes T s i b j = s j) := by
  intro j h1 h2 h3
  unfold mTakes
  rw [upi_ne h3, upi_ne h2, upi_ne h1]
theorem mTakes_b {T s : Int → Int} {i b : Int} (hi : 0 ≤ i ∧ i < 4) (hb : 0 ≤ b ∧ b < 8) : mTakes T s i b (8 + b) = 1 := by
  unfold mTakes
  rw [upi_ne (by omega), upi_ne (by omega), upi_self]
theorem mTakes_gone {T s : Int → Int} {i b : Int} (hi : 0 ≤ i ∧ i < 4) (hb : 0 ≤ b ∧ b < 8) (h0 : s (8 + b) = 0) : mGone (mTakes T s i b) = mGone s + 1 := by
  have key : ∀ k : Int, 0 ≤ k → k < 8 → mTakes T s i b (8 + k) = if k = b then 1 else s (8 + k) := by
    intro k h1 h2
    by_cases e : k = b
    · subst e; rw [mTakes_b hi hb, if_pos rfl]
    · rw [mTakes_at (8 + k) (by omega) (by omega) (by omega), if_neg e]
  have k0 := key 0 (by omega) (by omega)
  have k1 := key 1 (by omega) (by omega)
  have k2 := key 2 (by omega) (by omega)
  have k3 := key 3 (by omega) (by omega)
  have k4 := key 4 (by omega) (by omega)
  have k5 := key 5 (by omega) (by omega)
  have k6 := key 6 (by omega) (by omega)
  have k7 := key 7 (by omega) (by omega)
  simp only [Int.reduceAdd] at k0 k1 k2 k3 k4 k5 k6 k7
  unfold mGone
  rw [k0, k1, k2, k3, k4, k5, k6, k7]
  rcases (show b = 0 ∨ b = 1 ∨ b = 2 ∨ b = 3 ∨ b = 4 ∨ b = 5 ∨ b = 6 ∨ b = 7 by omega) with rfl | rfl | rfl | rfl | rfl | rfl | rfl | rfl <;> simp at h0 ⊢ <;> omega
theorem mTakes_c {T s : Int → Int} {i b : Int} : mTakes T s i b (24 + i) = s (24 + i) + T (21 + b) := by
  unfold mTakes
  rw [upi_ne (by omega), upi_self]
theorem mTakes_s {T s : Int → Int} {i b : Int} : mTakes T s i b (20 + i) = s (20 + i) + T (21 + b) := by
  unfold mTakes
  rw [upi_self]
theorem mSO_takes {T s : Int → Int} {i b : Int} (hT : mTO T) (h : mSO T s) (hi : 0 ≤ i ∧ i < T 1) (hb : 0 ≤ b ∧ b < T 0) (hc : mCan T s i b) : mSO T (mTakes T s i b) := by
  have n0 := hT.1
  have n1 := hT.2.1
  have fb := hT.2.2.2.2.2.1 b hb.1 hb.2
  have fi := hT.2.2.2.2.2.2 i hi.1 hi.2
  have hg := mTakes_gone (T := T) (s := s) (i := i) (b := b) (by omega) (by omega) hc.1
  refine ⟨fun b2 h0 h1 => ?_, fun b2 h0 h1 => ?_, fun i2 h0 h1 => ?_⟩
  · by_cases e : b2 = b
    · subst e
      rw [mTakes_b (by omega) (by omega)]
      exact ⟨Or.inr rfl, fun q => by omega⟩
    · rw [mTakes_at (8 + b2) (by omega) (by omega) (by omega)]
      exact h.1 b2 h0 h1
  · rw [mTakes_at b2 (by omega) (by omega) (by omega)]
    exact h.2.1 b2 h0 h1
  · have q := h.2.2 i2 h0 h1
    rw [hg, mTakes_at (16 + i2) (by omega) (by omega) (by omega)]
    by_cases e : i2 = i
    · subst e
      rw [mTakes_s, mTakes_c]
      have := hc.2.2.2
      exact ⟨by omega, q.2.1, by omega⟩
    · rw [mTakes_at (20 + i2) (by omega) (by omega) (by omega), mTakes_at (24 + i2) (by omega) (by omega) (by omega)]
      exact ⟨by omega, q.2.1, q.2.2⟩
theorem mPass_at {s : Int → Int} {j : Int} (h : j < 24 ∨ 28 < j) : mPass s j = s j := by
  unfold mPass
  rw [upi_ne (by omega), upi_ne (by omega), upi_ne (by omega), upi_ne (by omega), upi_ne (by omega)]
theorem mPass_c {s : Int → Int} {i : Int} (hi : 0 ≤ i ∧ i < 4) : mPass s (24 + i) = 0 := by
  rcases (show i = 0 ∨ i = 1 ∨ i = 2 ∨ i = 3 by omega) with rfl | rfl | rfl | rfl <;> simp [mPass, upi]
theorem mPass_d {s : Int → Int} : mPass s 28 = s 28 + 1 := by simp [mPass, upi]
theorem mSO_pass {T s : Int → Int} (hT : mTO T) (h : mSO T s) : mSO T (mPass s) := by
  have n0 := hT.1
  have n1 := hT.2.1
  have hg : mGone (mPass s) = mGone s := by
    unfold mGone
    simp only [mPass_at (s := s) (j := 8) (by omega), mPass_at (s := s) (j := 9) (by omega), mPass_at (s := s) (j := 10) (by omega), mPass_at (s := s) (j := 11) (by omega), mPass_at (s := s) (j := 12) (by omega), mPass_at (s := s) (j := 13) (by omega), mPass_at (s := s) (j := 14) (by omega), mPass_at (s := s) (j := 15) (by omega)]
  refine ⟨fun b2 h0 h1 => ?_, fun b2 h0 h1 => ?_, fun i2 h0 h1 => ?_⟩
  · rw [mPass_at (by omega)]; exact h.1 b2 h0 h1
  · rw [mPass_at (by omega)]; exact h.2.1 b2 h0 h1
  · rw [hg, mPass_at (j := 20 + i2) (by omega), mPass_at (j := 16 + i2) (by omega), mPass_c (by omega)]
    exact ⟨(h.2.2 i2 h0 h1).1, (h.2.2 i2 h0 h1).2.1, by omega⟩
theorem mStep_cases {T s : Int → Int} {i b : Int} : (¬ mWarm T s i ∧ mCan T s i b ∧ mStep T s i b = mTakes T s i b) ∨ (¬ (¬ mWarm T s i ∧ mCan T s i b) ∧ mStep T s i b = s) := by
  unfold mStep
  by_cases h : ¬ mWarm T s i ∧ mCan T s i b
  · rw [if_pos h]; exact Or.inl ⟨h.1, h.2, rfl⟩
  · rw [if_neg h]; exact Or.inr ⟨h, rfl⟩
theorem mSO_step {T s : Int → Int} {i b : Int} (hT : mTO T) (h : mSO T s) (hi : 0 ≤ i ∧ i < T 1) (hb : 0 ≤ b ∧ b < T 0) : mSO T (mStep T s i b) := by
  rcases mStep_cases (T := T) (s := s) (i := i) (b := b) with ⟨-, h2, e⟩ | ⟨-, e⟩
  · rw [e]; exact mSO_takes hT h hi hb h2
  · rw [e]; exact h
theorem mSO_row {T s : Int → Int} {i : Int} (hT : mTO T) (h : mSO T s) (hi : 0 ≤ i ∧ i < T 1) : ∀ n : Nat, n ≤ (T 0).toNat → mSO T (mRow T i n s)
  | 0, _ => h
  | n + 1, hn => mSO_step hT (mSO_row hT h hi n (by omega)) hi ⟨by omega, by omega⟩
theorem mSO_eachN {T s : Int → Int} (hT : mTO T) (h : mSO T s) : ∀ n : Nat, n ≤ (T 1).toNat → mSO T (mEachN T n s)
  | 0, _ => h
  | n + 1, hn => mSO_row hT (mSO_eachN hT h n (by omega)) ⟨by omega, by omega⟩ _ (Nat.le_refl _)
theorem mSO_each {T s : Int → Int} (hT : mTO T) (h : mSO T s) : mSO T (mEach T s) := mSO_eachN hT h _ (Nat.le_refl _)
theorem mStep_28 {T s : Int → Int} {i b : Int} (hi : 0 ≤ i ∧ i < 4) (hb : 0 ≤ b ∧ b < 8) : mStep T s i b 28 = s 28 := by
  rcases mStep_cases (T := T) (s := s) (i := i) (b := b) with ⟨-, h2, e⟩ | ⟨-, e⟩
  · rw [e, mTakes_at 28 (by omega) (by omega) (by omega)]
  · rw [e]
theorem mRow_28 {T s : Int → Int} {i : Int} (hi : 0 ≤ i ∧ i < 4) : ∀ n : Nat, n ≤ 8 → mRow T i n s 28 = s 28
  | 0, _ => rfl
  | n + 1, hn => by rw [mRow, mStep_28 hi ⟨by omega, by omega⟩, mRow_28 hi n (by omega)]
theorem mEachN_28 {T s : Int → Int} (hT : mTO T) : ∀ n : Nat, n ≤ 4 → mEachN T n s 28 = s 28
  | 0, _ => rfl
  | n + 1, hn => by rw [mEachN, mRow_28 ⟨by omega, by omega⟩ _ (by have := hT.1; omega), mEachN_28 hT n (by omega)]
theorem mEach_28 {T s : Int → Int} (hT : mTO T) : mEach T s 28 = s 28 := mEachN_28 hT _ (by have := hT.2.1; omega)
end
section
/-! the model's methods, the small ones -/
def kGLM : List (Nat × Nat × Nat) := [(45, 0, 46), (45, 2, 47), (45, 3, 48), (45, 4, 49), (45, 5, 50), (45, 6, 51), (45, 8, 52), (45, 11, 53), (45, 12, 54), (45, 13, 55)]
def kGM (g : Nat → Int → Option Nat) : Prop := ∀ q ∈ kGLM, g q.1 (q.2.1 : Int) = some q.2.2
theorem kst_uc {f : Nat → Int → Int} {a b : Nat} {s : Int → Int} {i v : Int} (h : b ≠ a) : k_u (kst f a s) b i v = kst (k_u f b i v) a s := by
  funext c j
  unfold k_u kst
  by_cases h1 : c = a
  · subst h1
    rw [if_neg (fun q => h q.1.symm), if_pos rfl, if_pos rfl]
  · rw [if_neg h1, if_neg h1]
section KW10
variable {E : kEnv} {d mc ms : Nat} {M : kMd} {pc : Nat} {L : kLs} {S : List kV} {h : kH} {Q : Option kV → kH → Prop}
theorem kv_or0 {x : Int} (hd : decode M.2.1 pc = .ok (.ior, 1)) (k : kW E d mc ms M (pc + 1) L (kI x :: S) h Q) : kW E d mc ms M pc L (kI 0 :: kI x :: S) h Q := by
  intro p e R s mm args below meth c H ls locs cells slots QQ cx g1 g2 hl hS hH hR hV kk
  have hx : k_in x := (k_tl (k_tl hS).2).1
  refine kw_iorG hd hx ?_ k p e R s mm args below meth c H ls locs cells slots QQ cx g1 g2 hl hS hH hR hV kk
  show Int32.ofInt x ||| 0 = _
  simp
end KW10
theorem c_min {E : kEnv} {h : kH} {v lo hi : Int} : kF E 0 M_X7_in [kI v, kI lo, kI hi] h (some (kI (if lo ≤ v ∧ v ≤ hi then 1 else 0))) h := by
  refine kF_of (by decide) (by simp [k_one]) (Nat.le_of_ble_eq_true rfl) (L := [some (kI v), some (kI lo), some (kI hi)]) rfl ?_
  refine kw_iload_n dX7_in_0 rfl ?_
  refine kw_iload_n dX7_in_1 rfl ?_
  refine kw_icmp_lt (tgt := 14) dX7_in_2 (by decide) (fun h1 => ?_) (fun h1 => ?_)
  · refine kw_iconst dX7_in_14 ⟨by decide, by decide⟩ ?_
    exact kv_rb dX7_in_15 rfl (by first | rfl | omega | (split <;> omega) | ((repeat' split) <;> omega) | grind) (by first | rfl | rw [if_pos (by omega)] | rw [if_neg (by omega)] | grind)
  · refine kw_iload_n dX7_in_5 rfl ?_
    refine kw_iload_n dX7_in_6 rfl ?_
    refine kw_icmp_gt (tgt := 14) dX7_in_7 (by decide) (fun h2 => ?_) (fun h2 => ?_)
    · refine kw_iconst dX7_in_14 ⟨by decide, by decide⟩ ?_
      exact kv_rb dX7_in_15 rfl (by first | rfl | omega | (split <;> omega) | ((repeat' split) <;> omega) | grind) (by first | rfl | rw [if_pos (by omega)] | rw [if_neg (by omega)] | grind)
    · refine kw_iconst dX7_in_10 ⟨by decide, by decide⟩ ?_
      refine kw_goto (tgt := 15) dX7_in_11 (by decide) ?_
      exact kv_rb dX7_in_15 rfl (by first | rfl | omega | (split <;> omega) | ((repeat' split) <;> omega) | grind) (by first | rfl | rw [if_pos (by omega)] | rw [if_neg (by omega)] | grind)
theorem c_misBough {E : kEnv} {f : Nat → Int → Int} {s : Int → Int} {g : Nat → Int → Option Nat} {b : Int} (hm : kGM g) (hT : mTO (f 47)) : kF E 1 M_X7_isBough [kA (45), kI (b)] ((kMC ++ kMM), kst f 50 s, g) (some (kI (if 0 ≤ b ∧ b ≤ f 47 0 - 1 then 1 else 0))) ((kMC ++ kMM), kst f 50 s, g) := by
  refine kF_of (by decide) (by simp [k_one]) (Nat.le_of_ble_eq_true rfl) (L := [some (kA (45)), some (kI (b))]) rfl ?_
  have n0 := hT.1
  have n1 := hT.2.1
  refine kw_iload_n dX7_isBough_0 rfl ?_
  refine kw_iconst dX7_isBough_1 ⟨by decide, by decide⟩ ?_
  refine kw_aload_n dX7_isBough_2 rfl ?_
  refine kv_getR (b := 47) dX7_isBough_3 kf_X7_13 rfl rfl rfl (hm (45, 2, 47) (by decide)) ?_
  refine kw_iconst dX7_isBough_6 ⟨by decide, by decide⟩ ?_
  refine kv_iald dX7_isBough_7 rfl (by omega) (by omega) (congrFun (kst_ne (by decide)) _) ?_
  refine kw_iconst dX7_isBough_8 ⟨by decide, by decide⟩ ?_
  refine kw_isub dX7_isBough_9 ⟨by omega, by omega⟩ ?_
  refine kv_callS1 (M2 := M_X7_in) (As := [kI (b), kI (0), kI ((f 47 0) - 1)]) dX7_isBough_10 ml_X7_54 q_X7_in rfl (Nat.le_of_ble_eq_true rfl) (c_min) (by omega) ?_
  exact kv_rb dX7_isBough_13 rfl (by first | rfl | omega | (split <;> omega) | ((repeat' split) <;> omega) | grind) (by first | rfl | rw [if_pos (by omega)] | rw [if_neg (by omega)] | grind)
theorem c_misTenant {E : kEnv} {f : Nat → Int → Int} {s : Int → Int} {g : Nat → Int → Option Nat} {i : Int} (hm : kGM g) (hT : mTO (f 47)) : kF E 1 M_X7_isTenant [kA (45), kI (i)] ((kMC ++ kMM), kst f 50 s, g) (some (kI (if 0 ≤ i ∧ i ≤ f 47 1 - 1 then 1 else 0))) ((kMC ++ kMM), kst f 50 s, g) := by
  refine kF_of (by decide) (by simp [k_one]) (Nat.le_of_ble_eq_true rfl) (L := [some (kA (45)), some (kI (i))]) rfl ?_
  have n0 := hT.1
  have n1 := hT.2.1
  refine kw_iload_n dX7_isTenant_0 rfl ?_
  refine kw_iconst dX7_isTenant_1 ⟨by decide, by decide⟩ ?_
  refine kw_aload_n dX7_isTenant_2 rfl ?_
  refine kv_getR (b := 47) dX7_isTenant_3 kf_X7_13 rfl rfl rfl (hm (45, 2, 47) (by decide)) ?_
  refine kw_iconst dX7_isTenant_6 ⟨by decide, by decide⟩ ?_
  refine kv_iald dX7_isTenant_7 rfl (by omega) (by omega) (congrFun (kst_ne (by decide)) _) ?_
  refine kw_iconst dX7_isTenant_8 ⟨by decide, by decide⟩ ?_
  refine kw_isub dX7_isTenant_9 ⟨by omega, by omega⟩ ?_
  refine kv_callS1 (M2 := M_X7_in) (As := [kI (i), kI (0), kI ((f 47 1) - 1)]) dX7_isTenant_10 ml_X7_54 q_X7_in rfl (Nat.le_of_ble_eq_true rfl) (c_min) (by omega) ?_
  exact kv_rb dX7_isTenant_13 rfl (by first | rfl | omega | (split <;> omega) | ((repeat' split) <;> omega) | grind) (by first | rfl | rw [if_pos (by omega)] | rw [if_neg (by omega)] | grind)
theorem c_misDead {E : kEnv} {f : Nat → Int → Int} {s : Int → Int} {g : Nat → Int → Option Nat} {b d : Int} (hm : kGM g) (hb : 0 ≤ b ∧ b < 8) : kF E 0 M_X7_isDead [kA (45), kI (b), kI (d)] ((kMC ++ kMM), kst f 50 s, g) (some (kI (if s b ≤ d then 1 else 0))) ((kMC ++ kMM), kst f 50 s, g) := by
  refine kF_of (by decide) (by simp [k_one]) (Nat.le_of_ble_eq_true rfl) (L := [some (kA (45)), some (kI (b)), some (kI (d))]) rfl ?_
  refine kw_iload_n dX7_isDead_0 rfl ?_
  refine kw_aload_n dX7_isDead_1 rfl ?_
  refine kv_getR (b := 50) dX7_isDead_2 kf_X7_22 rfl rfl rfl (hm (45, 5, 50) (by decide)) ?_
  refine kw_iload_n dX7_isDead_5 rfl ?_
  refine kv_iald dX7_isDead_6 rfl (by omega) (by omega) (congrFun kst_self _) ?_
  refine kw_icmp_lt (tgt := 14) dX7_isDead_7 (by decide) (fun h1 => ?_) (fun h1 => ?_)
  · refine kw_iconst dX7_isDead_14 ⟨by decide, by decide⟩ ?_
    exact kv_rb dX7_isDead_15 rfl (by first | rfl | omega | (split <;> omega) | ((repeat' split) <;> omega) | grind) (by first | rfl | rw [if_pos (by omega)] | rw [if_neg (by omega)] | grind)
  · refine kw_iconst dX7_isDead_10 ⟨by decide, by decide⟩ ?_
    refine kw_goto (tgt := 15) dX7_isDead_11 (by decide) ?_
    exact kv_rb dX7_isDead_15 rfl (by first | rfl | omega | (split <;> omega) | ((repeat' split) <;> omega) | grind) (by first | rfl | rw [if_pos (by omega)] | rw [if_neg (by omega)] | grind)
theorem c_misFallen {E : kEnv} {f : Nat → Int → Int} {s : Int → Int} {g : Nat → Int → Option Nat} {b d : Int} (hm : kGM g) (hT : mTO (f 47)) (hb : 0 ≤ b ∧ b < 8) (hx : -1000 ≤ s b ∧ s b ≤ 1000) : kF E 0 M_X7_isFallen [kA (45), kI (b), kI (d)] ((kMC ++ kMM), kst f 50 s, g) (some (kI (if s b + f 47 4 ≤ d then 1 else 0))) ((kMC ++ kMM), kst f 50 s, g) := by
  refine kF_of (by decide) (by simp [k_one]) (Nat.le_of_ble_eq_true rfl) (L := [some (kA (45)), some (kI (b)), some (kI (d))]) rfl ?_
  have n0 := hT.1
  have n1 := hT.2.1
  have n4 := hT.2.2.2.2.1
  refine kw_iload_n dX7_isFallen_0 rfl ?_
  refine kw_aload_n dX7_isFallen_1 rfl ?_
  refine kv_getR (b := 50) dX7_isFallen_2 kf_X7_22 rfl rfl rfl (hm (45, 5, 50) (by decide)) ?_
  refine kw_iload_n dX7_isFallen_5 rfl ?_
  refine kv_iald dX7_isFallen_6 rfl (by omega) (by omega) (congrFun kst_self _) ?_
  refine kw_aload_n dX7_isFallen_7 rfl ?_
  refine kv_getR (b := 47) dX7_isFallen_8 kf_X7_13 rfl rfl rfl (hm (45, 2, 47) (by decide)) ?_
  refine kw_iconst dX7_isFallen_11 ⟨by decide, by decide⟩ ?_
  refine kv_iald dX7_isFallen_12 rfl (by omega) (by omega) (congrFun (kst_ne (by decide)) _) ?_
  refine kw_iadd dX7_isFallen_13 ⟨by omega, by omega⟩ ?_
  refine kw_icmp_lt (tgt := 21) dX7_isFallen_14 (by decide) (fun h1 => ?_) (fun h1 => ?_)
  · refine kw_iconst dX7_isFallen_21 ⟨by decide, by decide⟩ ?_
    exact kv_rb dX7_isFallen_22 rfl (by first | rfl | omega | (split <;> omega) | ((repeat' split) <;> omega) | grind) (by first | rfl | rw [if_pos (by omega)] | rw [if_neg (by omega)] | grind)
  · refine kw_iconst dX7_isFallen_17 ⟨by decide, by decide⟩ ?_
    refine kw_goto (tgt := 22) dX7_isFallen_18 (by decide) ?_
    exact kv_rb dX7_isFallen_22 rfl (by first | rfl | omega | (split <;> omega) | ((repeat' split) <;> omega) | grind) (by first | rfl | rw [if_pos (by omega)] | rw [if_neg (by omega)] | grind)
theorem c_misWarm {E : kEnv} {f : Nat → Int → Int} {s : Int → Int} {g : Nat → Int → Option Nat} {i : Int} (hm : kGM g) (hi : 0 ≤ i ∧ i < 4) : kF E 0 M_X7_isWarm [kA (45), kI (i)] ((kMC ++ kMM), kst f 50 s, g) (some (kI (if mWarm (f 47) s i then 1 else 0))) ((kMC ++ kMM), kst f 50 s, g) := by
  refine kF_of (by decide) (by simp [k_one]) (Nat.le_of_ble_eq_true rfl) (L := [some (kA (45)), some (kI (i))]) rfl ?_
  refine kw_aload_n dX7_isWarm_0 rfl ?_
  refine kv_getR (b := 50) dX7_isWarm_1 kf_X7_22 rfl rfl rfl (hm (45, 5, 50) (by decide)) ?_
  refine kw_bipush dX7_isWarm_4 (by decide) (by decide) ?_
  refine kw_iload_n dX7_isWarm_6 rfl ?_
  refine kw_iadd dX7_isWarm_7 ⟨by omega, by omega⟩ ?_
  refine kv_iald dX7_isWarm_8 rfl (by omega) (by omega) (congrFun kst_self _) ?_
  refine kw_aload_n dX7_isWarm_9 rfl ?_
  refine kv_getR (b := 47) dX7_isWarm_10 kf_X7_13 rfl rfl rfl (hm (45, 2, 47) (by decide)) ?_
  refine kw_bipush dX7_isWarm_13 (by decide) (by decide) ?_
  refine kw_iload_n dX7_isWarm_15 rfl ?_
  refine kw_iadd dX7_isWarm_16 ⟨by omega, by omega⟩ ?_
  refine kv_iald dX7_isWarm_17 rfl (by omega) (by omega) (congrFun (kst_ne (by decide)) _) ?_
  refine kw_icmp_lt (tgt := 25) dX7_isWarm_18 (by decide) (fun h1 => ?_) (fun h1 => ?_)
  · refine kw_iconst dX7_isWarm_25 ⟨by decide, by decide⟩ ?_
    exact kv_rb dX7_isWarm_26 rfl (by first | rfl | omega | (split <;> omega) | ((repeat' split) <;> omega) | grind) (by first | rfl | rw [if_pos (by omega)] | rw [if_neg (by omega)] | grind)
  · refine kw_iconst dX7_isWarm_21 ⟨by decide, by decide⟩ ?_
    refine kw_goto (tgt := 26) dX7_isWarm_22 (by decide) ?_
    exact kv_rb dX7_isWarm_26 rfl (by first | rfl | omega | (split <;> omega) | ((repeat' split) <;> omega) | grind) (by first | rfl | rw [if_pos (by omega)] | rw [if_neg (by omega)] | grind)
theorem c_mcould {E : kEnv} {f : Nat → Int → Int} {s : Int → Int} {g : Nat → Int → Option Nat} {i b d c : Int} (hm : kGM g) (hT : mTO (f 47)) (hb : 0 ≤ b ∧ b < f 47 0) (hi : 0 ≤ i ∧ i < f 47 1) (hx : -1000 ≤ s b ∧ s b ≤ 1000) (hc : -1000 ≤ c ∧ c ≤ 1000) : kF E 1 M_X7_could [kA (45), kI (i), kI (b), kI (d), kI (c)] ((kMC ++ kMM), kst f 50 s, g) (some (kI (if mCould (f 47) s i b d c then 1 else 0))) ((kMC ++ kMM), kst f 50 s, g) := by
  refine kF_of (by decide) (by simp [k_one]) (Nat.le_of_ble_eq_true rfl) (L := [some (kA (45)), some (kI (i)), some (kI (b)), some (kI (d)), some (kI (c)), none, none, none, none]) rfl ?_
  have n0 := hT.1
  have n1 := hT.2.1
  have fb := hT.2.2.2.2.2.1 b hb.1 hb.2
  have fi := hT.2.2.2.2.2.2 i hi.1 hi.2
  refine kw_aload_n dX7_could_0 rfl ?_
  refine kv_getR (b := 47) dX7_could_1 kf_X7_13 rfl rfl rfl (hm (45, 2, 47) (by decide)) ?_
  refine kw_iconst dX7_could_4 ⟨by decide, by decide⟩ ?_
  refine kw_iload_n dX7_could_5 rfl ?_
  refine kw_iadd dX7_could_6 ⟨by omega, by omega⟩ ?_
  refine kv_iald dX7_could_7 rfl (by omega) (by omega) (congrFun (kst_ne (by decide)) _) ?_
  refine kw_istore dX7_could_8 (by decide) trivial (L2 := [some (kA (45)), some (kI (i)), some (kI (b)), some (kI (d)), some (kI (c)), some (kI (f 47 (5 + b))), none, none, none]) rfl ?_
  refine kw_aload_n dX7_could_10 rfl ?_
  refine kv_getR (b := 50) dX7_could_11 kf_X7_22 rfl rfl rfl (hm (45, 5, 50) (by decide)) ?_
  refine kw_bipush dX7_could_14 (by decide) (by decide) ?_
  refine kw_iload_n dX7_could_16 rfl ?_
  refine kw_iadd dX7_could_17 ⟨by omega, by omega⟩ ?_
  refine kv_iald dX7_could_18 rfl (by omega) (by omega) (congrFun kst_self _) ?_
  refine kw_istore dX7_could_19 (by decide) trivial (L2 := [some (kA (45)), some (kI (i)), some (kI (b)), some (kI (d)), some (kI (c)), some (kI (f 47 (5 + b))), some (kI (s (16 + i))), none, none]) rfl ?_
  refine kw_aload_n dX7_could_21 rfl ?_
  refine kv_getR (b := 47) dX7_could_22 kf_X7_13 rfl rfl rfl (hm (45, 2, 47) (by decide)) ?_
  refine kw_bipush dX7_could_25 (by decide) (by decide) ?_
  refine kw_iload_n dX7_could_27 rfl ?_
  refine kw_iadd dX7_could_28 ⟨by omega, by omega⟩ ?_
  refine kv_iald dX7_could_29 rfl (by omega) (by omega) (congrFun (kst_ne (by decide)) _) ?_
  refine kw_istore dX7_could_30 (by decide) trivial (L2 := [some (kA (45)), some (kI (i)), some (kI (b)), some (kI (d)), some (kI (c)), some (kI (f 47 (5 + b))), some (kI (s (16 + i))), some (kI (f 47 (13 + b))), none]) rfl ?_
  refine kw_iload dX7_could_32 rfl ?_
  refine kw_if_ne (tgt := 52) dX7_could_34 (by decide) (fun h1 => ?_) (fun h1 => ?_)
  · refine kw_iload dX7_could_52 rfl ?_
    refine kw_iconst dX7_could_54 ⟨by decide, by decide⟩ ?_
    refine kw_icmp_ne (tgt := 75) dX7_could_55 (by decide) (fun h2 => ?_) (fun h2 => ?_)
    · refine kw_iload dX7_could_75 rfl ?_
      refine kw_iconst dX7_could_77 ⟨by decide, by decide⟩ ?_
      refine kw_icmp_ne (tgt := 85) dX7_could_78 (by decide) (fun h3 => ?_) (fun h3 => ?_)
      · refine kw_iconst dX7_could_85 ⟨by decide, by decide⟩ ?_
        refine kw_istore dX7_could_86 (by decide) trivial (L2 := [some (kA (45)), some (kI (i)), some (kI (b)), some (kI (d)), some (kI (c)), some (kI (f 47 (5 + b))), some (kI (s (16 + i))), some (kI (f 47 (13 + b))), some (kI (0))]) rfl ?_
        refine kw_aload_n dX7_could_88 rfl ?_
        refine kw_iload_n dX7_could_89 rfl ?_
        refine kw_iload_n dX7_could_90 rfl ?_
        refine kv_callV1 (M2 := M_X7_isDead) (As := [kI (b), kI (d)]) dX7_could_91 ml_X7_93 q_X7_isDead rfl rfl rfl (Nat.le_of_ble_eq_true rfl) (c_misDead hm (by omega)) (by omega) ?_
        refine kv_ifeqB (tgt := 139) dX7_could_94 (by decide) (fun h4 => ?_) (fun h4 => ?_)
        · refine kw_iconst dX7_could_139 ⟨by decide, by decide⟩ ?_
          exact kv_rb dX7_could_140 rfl (by first | rfl | omega | (split <;> omega) | ((repeat' split) <;> omega) | grind) (by first | rfl | rw [if_pos (by omega)] | rw [if_neg (by omega)] | grind)
        · refine kw_iload dX7_could_97 rfl ?_
          refine kw_if_ne (tgt := 111) dX7_could_99 (by decide) (kt := fun h => absurd h (by decide)) (kf := fun _ => ?_)
          refine kw_aload_n dX7_could_102 rfl ?_
          refine kw_iload_n dX7_could_103 rfl ?_
          refine kw_iload_n dX7_could_104 rfl ?_
          refine kv_callV1 (M2 := M_X7_isFallen) (As := [kI (b), kI (d)]) dX7_could_105 ml_X7_97 q_X7_isFallen rfl rfl rfl (Nat.le_of_ble_eq_true rfl) (c_misFallen hm hT (by omega) (by omega)) (by omega) ?_
          refine kv_ifeqB (tgt := 139) dX7_could_108 (by decide) (fun h5 => ?_) (fun h5 => ?_)
          · refine kw_iconst dX7_could_139 ⟨by decide, by decide⟩ ?_
            exact kv_rb dX7_could_140 rfl (by first | rfl | omega | (split <;> omega) | ((repeat' split) <;> omega) | grind) (by first | rfl | rw [if_pos (by omega)] | rw [if_neg (by omega)] | grind)
          · refine kw_iload dX7_could_111 rfl ?_
            refine kw_aload_n dX7_could_113 rfl ?_
            refine kv_getR (b := 47) dX7_could_114 kf_X7_13 rfl rfl rfl (hm (45, 2, 47) (by decide)) ?_
            refine kw_bipush dX7_could_117 (by decide) (by decide) ?_
            refine kw_iload_n dX7_could_119 rfl ?_
            refine kw_iadd dX7_could_120 ⟨by omega, by omega⟩ ?_
            refine kv_iald dX7_could_121 rfl (by omega) (by omega) (congrFun (kst_ne (by decide)) _) ?_
            refine kw_iadd dX7_could_122 ⟨by omega, by omega⟩ ?_
            refine kw_aload_n dX7_could_123 rfl ?_
            refine kv_getR (b := 47) dX7_could_124 kf_X7_13 rfl rfl rfl (hm (45, 2, 47) (by decide)) ?_
            refine kw_bipush dX7_could_127 (by decide) (by decide) ?_
            refine kw_iload_n dX7_could_129 rfl ?_
            refine kw_iadd dX7_could_130 ⟨by omega, by omega⟩ ?_
            refine kv_iald dX7_could_131 rfl (by omega) (by omega) (congrFun (kst_ne (by decide)) _) ?_
            refine kw_icmp_gt (tgt := 139) dX7_could_132 (by decide) (fun h6 => ?_) (fun h6 => ?_)
            · refine kw_iconst dX7_could_139 ⟨by decide, by decide⟩ ?_
              exact kv_rb dX7_could_140 rfl (by first | rfl | omega | (split <;> omega) | ((repeat' split) <;> omega) | grind) (by first | rfl | rw [if_pos (by omega)] | rw [if_neg (by omega)] | grind)
            · refine kw_iconst dX7_could_135 ⟨by decide, by decide⟩ ?_
              refine kw_goto (tgt := 140) dX7_could_136 (by decide) ?_
              exact kv_rb dX7_could_140 rfl (by first | rfl | omega | (split <;> omega) | ((repeat' split) <;> omega) | grind) (by first | rfl | rw [if_pos (by omega)] | rw [if_neg (by omega)] | grind)
      · refine kw_iconst dX7_could_81 ⟨by decide, by decide⟩ ?_
        refine kw_goto (tgt := 86) dX7_could_82 (by decide) ?_
        refine kw_istore dX7_could_86 (by decide) trivial (L2 := [some (kA (45)), some (kI (i)), some (kI (b)), some (kI (d)), some (kI (c)), some (kI (f 47 (5 + b))), some (kI (s (16 + i))), some (kI (f 47 (13 + b))), some (kI (1))]) rfl ?_
        refine kw_aload_n dX7_could_88 rfl ?_
        refine kw_iload_n dX7_could_89 rfl ?_
        refine kw_iload_n dX7_could_90 rfl ?_
        refine kv_callV1 (M2 := M_X7_isDead) (As := [kI (b), kI (d)]) dX7_could_91 ml_X7_93 q_X7_isDead rfl rfl rfl (Nat.le_of_ble_eq_true rfl) (c_misDead hm (by omega)) (by omega) ?_
        refine kv_ifeqB (tgt := 139) dX7_could_94 (by decide) (fun h7 => ?_) (fun h7 => ?_)
        · refine kw_iconst dX7_could_139 ⟨by decide, by decide⟩ ?_
          exact kv_rb dX7_could_140 rfl (by first | rfl | omega | (split <;> omega) | ((repeat' split) <;> omega) | grind) (by first | rfl | rw [if_pos (by omega)] | rw [if_neg (by omega)] | grind)
        · refine kw_iload dX7_could_97 rfl ?_
          refine kw_if_ne (tgt := 111) dX7_could_99 (by decide) (kf := fun h => absurd (by decide) h) (kt := fun _ => ?_)
          refine kw_iload dX7_could_111 rfl ?_
          refine kw_aload_n dX7_could_113 rfl ?_
          refine kv_getR (b := 47) dX7_could_114 kf_X7_13 rfl rfl rfl (hm (45, 2, 47) (by decide)) ?_
          refine kw_bipush dX7_could_117 (by decide) (by decide) ?_
          refine kw_iload_n dX7_could_119 rfl ?_
          refine kw_iadd dX7_could_120 ⟨by omega, by omega⟩ ?_
          refine kv_iald dX7_could_121 rfl (by omega) (by omega) (congrFun (kst_ne (by decide)) _) ?_
          refine kw_iadd dX7_could_122 ⟨by omega, by omega⟩ ?_
          refine kw_aload_n dX7_could_123 rfl ?_
          refine kv_getR (b := 47) dX7_could_124 kf_X7_13 rfl rfl rfl (hm (45, 2, 47) (by decide)) ?_
          refine kw_bipush dX7_could_127 (by decide) (by decide) ?_
          refine kw_iload_n dX7_could_129 rfl ?_
          refine kw_iadd dX7_could_130 ⟨by omega, by omega⟩ ?_
          refine kv_iald dX7_could_131 rfl (by omega) (by omega) (congrFun (kst_ne (by decide)) _) ?_
          refine kw_icmp_gt (tgt := 139) dX7_could_132 (by decide) (fun h8 => ?_) (fun h8 => ?_)
          · refine kw_iconst dX7_could_139 ⟨by decide, by decide⟩ ?_
            exact kv_rb dX7_could_140 rfl (by first | rfl | omega | (split <;> omega) | ((repeat' split) <;> omega) | grind) (by first | rfl | rw [if_pos (by omega)] | rw [if_neg (by omega)] | grind)
          · refine kw_iconst dX7_could_135 ⟨by decide, by decide⟩ ?_
            refine kw_goto (tgt := 140) dX7_could_136 (by decide) ?_
            exact kv_rb dX7_could_140 rfl (by first | rfl | omega | (split <;> omega) | ((repeat' split) <;> omega) | grind) (by first | rfl | rw [if_pos (by omega)] | rw [if_neg (by omega)] | grind)
    · refine kw_iload dX7_could_58 rfl ?_
      refine kw_iconst dX7_could_60 ⟨by decide, by decide⟩ ?_
      refine kw_iadd dX7_could_61 ⟨by omega, by omega⟩ ?_
      refine kw_iload dX7_could_62 rfl ?_
      refine kw_icmp_gt (tgt := 71) dX7_could_64 (by decide) (fun h9 => ?_) (fun h9 => ?_)
      · refine kw_iconst dX7_could_71 ⟨by decide, by decide⟩ ?_
        refine kw_goto (tgt := 86) dX7_could_72 (by decide) ?_
        refine kw_istore dX7_could_86 (by decide) trivial (L2 := [some (kA (45)), some (kI (i)), some (kI (b)), some (kI (d)), some (kI (c)), some (kI (f 47 (5 + b))), some (kI (s (16 + i))), some (kI (f 47 (13 + b))), some (kI (0))]) rfl ?_
        refine kw_aload_n dX7_could_88 rfl ?_
        refine kw_iload_n dX7_could_89 rfl ?_
        refine kw_iload_n dX7_could_90 rfl ?_
        refine kv_callV1 (M2 := M_X7_isDead) (As := [kI (b), kI (d)]) dX7_could_91 ml_X7_93 q_X7_isDead rfl rfl rfl (Nat.le_of_ble_eq_true rfl) (c_misDead hm (by omega)) (by omega) ?_
        refine kv_ifeqB (tgt := 139) dX7_could_94 (by decide) (fun h10 => ?_) (fun h10 => ?_)
        · refine kw_iconst dX7_could_139 ⟨by decide, by decide⟩ ?_
          exact kv_rb dX7_could_140 rfl (by first | rfl | omega | (split <;> omega) | ((repeat' split) <;> omega) | grind) (by first | rfl | rw [if_pos (by omega)] | rw [if_neg (by omega)] | grind)
        · refine kw_iload dX7_could_97 rfl ?_
          refine kw_if_ne (tgt := 111) dX7_could_99 (by decide) (kt := fun h => absurd h (by decide)) (kf := fun _ => ?_)
          refine kw_aload_n dX7_could_102 rfl ?_
          refine kw_iload_n dX7_could_103 rfl ?_
          refine kw_iload_n dX7_could_104 rfl ?_
          refine kv_callV1 (M2 := M_X7_isFallen) (As := [kI (b), kI (d)]) dX7_could_105 ml_X7_97 q_X7_isFallen rfl rfl rfl (Nat.le_of_ble_eq_true rfl) (c_misFallen hm hT (by omega) (by omega)) (by omega) ?_
          refine kv_ifeqB (tgt := 139) dX7_could_108 (by decide) (fun h11 => ?_) (fun h11 => ?_)
          · refine kw_iconst dX7_could_139 ⟨by decide, by decide⟩ ?_
            exact kv_rb dX7_could_140 rfl (by first | rfl | omega | (split <;> omega) | ((repeat' split) <;> omega) | grind) (by first | rfl | rw [if_pos (by omega)] | rw [if_neg (by omega)] | grind)
          · refine kw_iload dX7_could_111 rfl ?_
            refine kw_aload_n dX7_could_113 rfl ?_
            refine kv_getR (b := 47) dX7_could_114 kf_X7_13 rfl rfl rfl (hm (45, 2, 47) (by decide)) ?_
            refine kw_bipush dX7_could_117 (by decide) (by decide) ?_
            refine kw_iload_n dX7_could_119 rfl ?_
            refine kw_iadd dX7_could_120 ⟨by omega, by omega⟩ ?_
            refine kv_iald dX7_could_121 rfl (by omega) (by omega) (congrFun (kst_ne (by decide)) _) ?_
            refine kw_iadd dX7_could_122 ⟨by omega, by omega⟩ ?_
            refine kw_aload_n dX7_could_123 rfl ?_
            refine kv_getR (b := 47) dX7_could_124 kf_X7_13 rfl rfl rfl (hm (45, 2, 47) (by decide)) ?_
            refine kw_bipush dX7_could_127 (by decide) (by decide) ?_
            refine kw_iload_n dX7_could_129 rfl ?_
            refine kw_iadd dX7_could_130 ⟨by omega, by omega⟩ ?_
            refine kv_iald dX7_could_131 rfl (by omega) (by omega) (congrFun (kst_ne (by decide)) _) ?_
            refine kw_icmp_gt (tgt := 139) dX7_could_132 (by decide) (fun h12 => ?_) (fun h12 => ?_)
            · refine kw_iconst dX7_could_139 ⟨by decide, by decide⟩ ?_
              exact kv_rb dX7_could_140 rfl (by first | rfl | omega | (split <;> omega) | ((repeat' split) <;> omega) | grind) (by first | rfl | rw [if_pos (by omega)] | rw [if_neg (by omega)] | grind)
            · refine kw_iconst dX7_could_135 ⟨by decide, by decide⟩ ?_
              refine kw_goto (tgt := 140) dX7_could_136 (by decide) ?_
              exact kv_rb dX7_could_140 rfl (by first | rfl | omega | (split <;> omega) | ((repeat' split) <;> omega) | grind) (by first | rfl | rw [if_pos (by omega)] | rw [if_neg (by omega)] | grind)
      · refine kw_iconst dX7_could_67 ⟨by decide, by decide⟩ ?_
        refine kw_goto (tgt := 86) dX7_could_68 (by decide) ?_
        refine kw_istore dX7_could_86 (by decide) trivial (L2 := [some (kA (45)), some (kI (i)), some (kI (b)), some (kI (d)), some (kI (c)), some (kI (f 47 (5 + b))), some (kI (s (16 + i))), some (kI (f 47 (13 + b))), some (kI (1))]) rfl ?_
        refine kw_aload_n dX7_could_88 rfl ?_
        refine kw_iload_n dX7_could_89 rfl ?_
        refine kw_iload_n dX7_could_90 rfl ?_
        refine kv_callV1 (M2 := M_X7_isDead) (As := [kI (b), kI (d)]) dX7_could_91 ml_X7_93 q_X7_isDead rfl rfl rfl (Nat.le_of_ble_eq_true rfl) (c_misDead hm (by omega)) (by omega) ?_
        refine kv_ifeqB (tgt := 139) dX7_could_94 (by decide) (fun h13 => ?_) (fun h13 => ?_)
        · refine kw_iconst dX7_could_139 ⟨by decide, by decide⟩ ?_
          exact kv_rb dX7_could_140 rfl (by first | rfl | omega | (split <;> omega) | ((repeat' split) <;> omega) | grind) (by first | rfl | rw [if_pos (by omega)] | rw [if_neg (by omega)] | grind)
        · refine kw_iload dX7_could_97 rfl ?_
          refine kw_if_ne (tgt := 111) dX7_could_99 (by decide) (kf := fun h => absurd (by decide) h) (kt := fun _ => ?_)
          refine kw_iload dX7_could_111 rfl ?_
          refine kw_aload_n dX7_could_113 rfl ?_
          refine kv_getR (b := 47) dX7_could_114 kf_X7_13 rfl rfl rfl (hm (45, 2, 47) (by decide)) ?_
          refine kw_bipush dX7_could_117 (by decide) (by decide) ?_
          refine kw_iload_n dX7_could_119 rfl ?_
          refine kw_iadd dX7_could_120 ⟨by omega, by omega⟩ ?_
          refine kv_iald dX7_could_121 rfl (by omega) (by omega) (congrFun (kst_ne (by decide)) _) ?_
          refine kw_iadd dX7_could_122 ⟨by omega, by omega⟩ ?_
          refine kw_aload_n dX7_could_123 rfl ?_
          refine kv_getR (b := 47) dX7_could_124 kf_X7_13 rfl rfl rfl (hm (45, 2, 47) (by decide)) ?_
          refine kw_bipush dX7_could_127 (by decide) (by decide) ?_
          refine kw_iload_n dX7_could_129 rfl ?_
          refine kw_iadd dX7_could_130 ⟨by omega, by omega⟩ ?_
          refine kv_iald dX7_could_131 rfl (by omega) (by omega) (congrFun (kst_ne (by decide)) _) ?_
          refine kw_icmp_gt (tgt := 139) dX7_could_132 (by decide) (fun h14 => ?_) (fun h14 => ?_)
          · refine kw_iconst dX7_could_139 ⟨by decide, by decide⟩ ?_
            exact kv_rb dX7_could_140 rfl (by first | rfl | omega | (split <;> omega) | ((repeat' split) <;> omega) | grind) (by first | rfl | rw [if_pos (by omega)] | rw [if_neg (by omega)] | grind)
          · refine kw_iconst dX7_could_135 ⟨by decide, by decide⟩ ?_
            refine kw_goto (tgt := 140) dX7_could_136 (by decide) ?_
            exact kv_rb dX7_could_140 rfl (by first | rfl | omega | (split <;> omega) | ((repeat' split) <;> omega) | grind) (by first | rfl | rw [if_pos (by omega)] | rw [if_neg (by omega)] | grind)
  · refine kw_iload dX7_could_37 rfl ?_
    refine kw_iload dX7_could_39 rfl ?_
    refine kw_icmp_gt (tgt := 48) dX7_could_41 (by decide) (fun h15 => ?_) (fun h15 => ?_)
    · refine kw_iconst dX7_could_48 ⟨by decide, by decide⟩ ?_
      refine kw_goto (tgt := 86) dX7_could_49 (by decide) ?_
      refine kw_istore dX7_could_86 (by decide) trivial (L2 := [some (kA (45)), some (kI (i)), some (kI (b)), some (kI (d)), some (kI (c)), some (kI (f 47 (5 + b))), some (kI (s (16 + i))), some (kI (f 47 (13 + b))), some (kI (0))]) rfl ?_
      refine kw_aload_n dX7_could_88 rfl ?_
      refine kw_iload_n dX7_could_89 rfl ?_
      refine kw_iload_n dX7_could_90 rfl ?_
      refine kv_callV1 (M2 := M_X7_isDead) (As := [kI (b), kI (d)]) dX7_could_91 ml_X7_93 q_X7_isDead rfl rfl rfl (Nat.le_of_ble_eq_true rfl) (c_misDead hm (by omega)) (by omega) ?_
      refine kv_ifeqB (tgt := 139) dX7_could_94 (by decide) (fun h16 => ?_) (fun h16 => ?_)
      · refine kw_iconst dX7_could_139 ⟨by decide, by decide⟩ ?_
        exact kv_rb dX7_could_140 rfl (by first | rfl | omega | (split <;> omega) | ((repeat' split) <;> omega) | grind) (by first | rfl | rw [if_pos (by omega)] | rw [if_neg (by omega)] | grind)
      · refine kw_iload dX7_could_97 rfl ?_
        refine kw_if_ne (tgt := 111) dX7_could_99 (by decide) (kt := fun h => absurd h (by decide)) (kf := fun _ => ?_)
        refine kw_aload_n dX7_could_102 rfl ?_
        refine kw_iload_n dX7_could_103 rfl ?_
        refine kw_iload_n dX7_could_104 rfl ?_
        refine kv_callV1 (M2 := M_X7_isFallen) (As := [kI (b), kI (d)]) dX7_could_105 ml_X7_97 q_X7_isFallen rfl rfl rfl (Nat.le_of_ble_eq_true rfl) (c_misFallen hm hT (by omega) (by omega)) (by omega) ?_
        refine kv_ifeqB (tgt := 139) dX7_could_108 (by decide) (fun h17 => ?_) (fun h17 => ?_)
        · refine kw_iconst dX7_could_139 ⟨by decide, by decide⟩ ?_
          exact kv_rb dX7_could_140 rfl (by first | rfl | omega | (split <;> omega) | ((repeat' split) <;> omega) | grind) (by first | rfl | rw [if_pos (by omega)] | rw [if_neg (by omega)] | grind)
        · refine kw_iload dX7_could_111 rfl ?_
          refine kw_aload_n dX7_could_113 rfl ?_
          refine kv_getR (b := 47) dX7_could_114 kf_X7_13 rfl rfl rfl (hm (45, 2, 47) (by decide)) ?_
          refine kw_bipush dX7_could_117 (by decide) (by decide) ?_
          refine kw_iload_n dX7_could_119 rfl ?_
          refine kw_iadd dX7_could_120 ⟨by omega, by omega⟩ ?_
          refine kv_iald dX7_could_121 rfl (by omega) (by omega) (congrFun (kst_ne (by decide)) _) ?_
          refine kw_iadd dX7_could_122 ⟨by omega, by omega⟩ ?_
          refine kw_aload_n dX7_could_123 rfl ?_
          refine kv_getR (b := 47) dX7_could_124 kf_X7_13 rfl rfl rfl (hm (45, 2, 47) (by decide)) ?_
          refine kw_bipush dX7_could_127 (by decide) (by decide) ?_
          refine kw_iload_n dX7_could_129 rfl ?_
          refine kw_iadd dX7_could_130 ⟨by omega, by omega⟩ ?_
          refine kv_iald dX7_could_131 rfl (by omega) (by omega) (congrFun (kst_ne (by decide)) _) ?_
          refine kw_icmp_gt (tgt := 139) dX7_could_132 (by decide) (fun h18 => ?_) (fun h18 => ?_)
          · refine kw_iconst dX7_could_139 ⟨by decide, by decide⟩ ?_
            exact kv_rb dX7_could_140 rfl (by first | rfl | omega | (split <;> omega) | ((repeat' split) <;> omega) | grind) (by first | rfl | rw [if_pos (by omega)] | rw [if_neg (by omega)] | grind)
          · refine kw_iconst dX7_could_135 ⟨by decide, by decide⟩ ?_
            refine kw_goto (tgt := 140) dX7_could_136 (by decide) ?_
            exact kv_rb dX7_could_140 rfl (by first | rfl | omega | (split <;> omega) | ((repeat' split) <;> omega) | grind) (by first | rfl | rw [if_pos (by omega)] | rw [if_neg (by omega)] | grind)
    · refine kw_iconst dX7_could_44 ⟨by decide, by decide⟩ ?_
      refine kw_goto (tgt := 86) dX7_could_45 (by decide) ?_
      refine kw_istore dX7_could_86 (by decide) trivial (L2 := [some (kA (45)), some (kI (i)), some (kI (b)), some (kI (d)), some (kI (c)), some (kI (f 47 (5 + b))), some (kI (s (16 + i))), some (kI (f 47 (13 + b))), some (kI (1))]) rfl ?_
      refine kw_aload_n dX7_could_88 rfl ?_
      refine kw_iload_n dX7_could_89 rfl ?_
      refine kw_iload_n dX7_could_90 rfl ?_
      refine kv_callV1 (M2 := M_X7_isDead) (As := [kI (b), kI (d)]) dX7_could_91 ml_X7_93 q_X7_isDead rfl rfl rfl (Nat.le_of_ble_eq_true rfl) (c_misDead hm (by omega)) (by omega) ?_
      refine kv_ifeqB (tgt := 139) dX7_could_94 (by decide) (fun h19 => ?_) (fun h19 => ?_)
      · refine kw_iconst dX7_could_139 ⟨by decide, by decide⟩ ?_
        exact kv_rb dX7_could_140 rfl (by first | rfl | omega | (split <;> omega) | ((repeat' split) <;> omega) | grind) (by first | rfl | rw [if_pos (by omega)] | rw [if_neg (by omega)] | grind)
      · refine kw_iload dX7_could_97 rfl ?_
        refine kw_if_ne (tgt := 111) dX7_could_99 (by decide) (kf := fun h => absurd (by decide) h) (kt := fun _ => ?_)
        refine kw_iload dX7_could_111 rfl ?_
        refine kw_aload_n dX7_could_113 rfl ?_
        refine kv_getR (b := 47) dX7_could_114 kf_X7_13 rfl rfl rfl (hm (45, 2, 47) (by decide)) ?_
        refine kw_bipush dX7_could_117 (by decide) (by decide) ?_
        refine kw_iload_n dX7_could_119 rfl ?_
        refine kw_iadd dX7_could_120 ⟨by omega, by omega⟩ ?_
        refine kv_iald dX7_could_121 rfl (by omega) (by omega) (congrFun (kst_ne (by decide)) _) ?_
        refine kw_iadd dX7_could_122 ⟨by omega, by omega⟩ ?_
        refine kw_aload_n dX7_could_123 rfl ?_
        refine kv_getR (b := 47) dX7_could_124 kf_X7_13 rfl rfl rfl (hm (45, 2, 47) (by decide)) ?_
        refine kw_bipush dX7_could_127 (by decide) (by decide) ?_
        refine kw_iload_n dX7_could_129 rfl ?_
        refine kw_iadd dX7_could_130 ⟨by omega, by omega⟩ ?_
        refine kv_iald dX7_could_131 rfl (by omega) (by omega) (congrFun (kst_ne (by decide)) _) ?_
        refine kw_icmp_gt (tgt := 139) dX7_could_132 (by decide) (fun h20 => ?_) (fun h20 => ?_)
        · refine kw_iconst dX7_could_139 ⟨by decide, by decide⟩ ?_
          exact kv_rb dX7_could_140 rfl (by first | rfl | omega | (split <;> omega) | ((repeat' split) <;> omega) | grind) (by first | rfl | rw [if_pos (by omega)] | rw [if_neg (by omega)] | grind)
        · refine kw_iconst dX7_could_135 ⟨by decide, by decide⟩ ?_
          refine kw_goto (tgt := 140) dX7_could_136 (by decide) ?_
          exact kv_rb dX7_could_140 rfl (by first | rfl | omega | (split <;> omega) | ((repeat' split) <;> omega) | grind) (by first | rfl | rw [if_pos (by omega)] | rw [if_neg (by omega)] | grind)
theorem c_mcanNow {E : kEnv} {f : Nat → Int → Int} {s : Int → Int} {g : Nat → Int → Option Nat} {i b : Int} (hm : kGM g) (hT : mTO (f 47)) (hS : mSO (f 47) s) (hb : 0 ≤ b ∧ b < f 47 0) (hi : 0 ≤ i ∧ i < f 47 1) : kF E 2 M_X7_canNow [kA (45), kI (i), kI (b)] ((kMC ++ kMM), kst f 50 s, g) (some (kI (if mCan (f 47) s i b then 1 else 0))) ((kMC ++ kMM), kst f 50 s, g) := by
  refine kF_of (by decide) (by simp [k_one]) (Nat.le_of_ble_eq_true rfl) (L := [some (kA (45)), some (kI (i)), some (kI (b))]) rfl ?_
  have n0 := hT.1
  have n1 := hT.2.1
  have fb := hT.2.2.2.2.2.1 b hb.1 hb.2
  have sb := hS.2.1 b hb.1 hb.2
  have gb := hS.1 b (by omega) (by omega)
  have fi := hT.2.2.2.2.2.2 i hi.1 hi.2
  have si := hS.2.2 i hi.1 hi.2
  have sg := mGone_le hS
  refine kw_aload_n dX7_canNow_0 rfl ?_
  refine kv_getR (b := 50) dX7_canNow_1 kf_X7_22 rfl rfl rfl (hm (45, 5, 50) (by decide)) ?_
  refine kw_bipush dX7_canNow_4 (by decide) (by decide) ?_
  refine kw_iload_n dX7_canNow_6 rfl ?_
  refine kw_iadd dX7_canNow_7 ⟨by omega, by omega⟩ ?_
  refine kv_iald dX7_canNow_8 rfl (by omega) (by omega) (congrFun kst_self _) ?_
  refine kw_if_ne (tgt := 41) dX7_canNow_9 (by decide) (fun h1 => ?_) (fun h1 => ?_)
  · refine kw_iconst dX7_canNow_41 ⟨by decide, by decide⟩ ?_
    exact kv_rb dX7_canNow_42 rfl (by first | rfl | omega | (split <;> omega) | ((repeat' split) <;> omega) | grind) (by first | rfl | rw [if_pos (by omega)] | rw [if_neg (by omega)] | grind)
  · refine kw_aload_n dX7_canNow_12 rfl ?_
    refine kw_iload_n dX7_canNow_13 rfl ?_
    refine kw_iload_n dX7_canNow_14 rfl ?_
    refine kw_aload_n dX7_canNow_15 rfl ?_
    refine kv_getR (b := 50) dX7_canNow_16 kf_X7_22 rfl rfl rfl (hm (45, 5, 50) (by decide)) ?_
    refine kw_bipush dX7_canNow_19 (by decide) (by decide) ?_
    refine kv_iald dX7_canNow_21 rfl (by omega) (by omega) (congrFun kst_self _) ?_
    refine kw_aload_n dX7_canNow_22 rfl ?_
    refine kv_getR (b := 50) dX7_canNow_23 kf_X7_22 rfl rfl rfl (hm (45, 5, 50) (by decide)) ?_
    refine kw_bipush dX7_canNow_26 (by decide) (by decide) ?_
    refine kw_iload_n dX7_canNow_28 rfl ?_
    refine kw_iadd dX7_canNow_29 ⟨by omega, by omega⟩ ?_
    refine kv_iald dX7_canNow_30 rfl (by omega) (by omega) (congrFun kst_self _) ?_
    refine kv_callV1 (M2 := M_X7_could) (As := [kI (i), kI (b), kI (s 28), kI (s (24 + i))]) dX7_canNow_31 ml_X7_106 q_X7_could rfl rfl rfl (Nat.le_of_ble_eq_true rfl) (c_mcould hm hT hb hi (by omega) (by omega)) (by omega) ?_
    refine kv_ifeqB (tgt := 41) dX7_canNow_34 (by decide) (fun h2 => ?_) (fun h2 => ?_)
    · refine kw_iconst dX7_canNow_41 ⟨by decide, by decide⟩ ?_
      exact kv_rb dX7_canNow_42 rfl (by first | rfl | omega | (split <;> omega) | ((repeat' split) <;> omega) | grind) (by first | rfl | rw [if_pos (by omega)] | rw [if_neg (by omega)] | grind)
    · refine kw_iconst dX7_canNow_37 ⟨by decide, by decide⟩ ?_
      refine kw_goto (tgt := 42) dX7_canNow_38 (by decide) ?_
      exact kv_rb dX7_canNow_42 rfl (by first | rfl | omega | (split <;> omega) | ((repeat' split) <;> omega) | grind) (by first | rfl | rw [if_pos (by omega)] | rw [if_neg (by omega)] | grind)
theorem c_mtakes {E : kEnv} {f : Nat → Int → Int} {s : Int → Int} {g : Nat → Int → Option Nat} {i b : Int} (hm : kGM g) (hT : mTO (f 47)) (hS : mSO (f 47) s) (hb : 0 ≤ b ∧ b < f 47 0) (hi : 0 ≤ i ∧ i < f 47 1) : kF E 0 M_X7_takes [kA (45), kI (i), kI (b)] ((kMC ++ kMM), kst f 50 s, g) (none) ((kMC ++ kMM), kst f 50 (mTakes (f 47) s i b), g) := by
  refine kF_of (by decide) (by simp [k_one]) (Nat.le_of_ble_eq_true rfl) (L := [some (kA (45)), some (kI (i)), some (kI (b))]) rfl ?_
  have n0 := hT.1
  have n1 := hT.2.1
  have fb := hT.2.2.2.2.2.1 b hb.1 hb.2
  have sb := hS.2.1 b hb.1 hb.2
  have gb := hS.1 b (by omega) (by omega)
  have fi := hT.2.2.2.2.2.2 i hi.1 hi.2
  have si := hS.2.2 i hi.1 hi.2
  have sg := mGone_le hS
  refine kw_aload_n dX7_takes_0 rfl ?_
  refine kv_getR (b := 50) dX7_takes_1 kf_X7_22 rfl rfl rfl (hm (45, 5, 50) (by decide)) ?_
  refine kw_bipush dX7_takes_4 (by decide) (by decide) ?_
  refine kw_iload_n dX7_takes_6 rfl ?_
  refine kw_iadd dX7_takes_7 ⟨by omega, by omega⟩ ?_
  refine kw_iconst dX7_takes_8 ⟨by decide, by decide⟩ ?_
  refine kv_iast dX7_takes_9 rfl (by omega) (by omega) ?_
  rw [kst_u]
  refine kw_aload_n dX7_takes_10 rfl ?_
  refine kv_getR (b := 50) dX7_takes_11 kf_X7_22 rfl rfl rfl (hm (45, 5, 50) (by decide)) ?_
  refine kw_bipush dX7_takes_14 (by decide) (by decide) ?_
  refine kw_iload_n dX7_takes_16 rfl ?_
  refine kw_iadd dX7_takes_17 ⟨by omega, by omega⟩ ?_
  refine kw_dup2 dX7_takes_18 trivial trivial ?_
  refine kv_iald dX7_takes_19 rfl (by omega) (by omega) ((congrFun kst_self _).trans (upi_ne (by omega))) ?_
  refine kw_aload_n dX7_takes_20 rfl ?_
  refine kv_getR (b := 47) dX7_takes_21 kf_X7_13 rfl rfl rfl (hm (45, 2, 47) (by decide)) ?_
  refine kw_bipush dX7_takes_24 (by decide) (by decide) ?_
  refine kw_iload_n dX7_takes_26 rfl ?_
  refine kw_iadd dX7_takes_27 ⟨by omega, by omega⟩ ?_
  refine kv_iald dX7_takes_28 rfl (by omega) (by omega) (congrFun (kst_ne (by decide)) _) ?_
  refine kw_iadd dX7_takes_29 ⟨by omega, by omega⟩ ?_
  refine kv_iast dX7_takes_30 rfl (by omega) (by omega) ?_
  rw [kst_u]
  refine kw_aload_n dX7_takes_31 rfl ?_
  refine kv_getR (b := 50) dX7_takes_32 kf_X7_22 rfl rfl rfl (hm (45, 5, 50) (by decide)) ?_
  refine kw_bipush dX7_takes_35 (by decide) (by decide) ?_
  refine kw_iload_n dX7_takes_37 rfl ?_
  refine kw_iadd dX7_takes_38 ⟨by omega, by omega⟩ ?_
  refine kw_dup2 dX7_takes_39 trivial trivial ?_
  refine kv_iald dX7_takes_40 rfl (by omega) (by omega) ((congrFun kst_self _).trans ((upi_ne (by omega)).trans (upi_ne (by omega)))) ?_
  refine kw_aload_n dX7_takes_41 rfl ?_
  refine kv_getR (b := 47) dX7_takes_42 kf_X7_13 rfl rfl rfl (hm (45, 2, 47) (by decide)) ?_
  refine kw_bipush dX7_takes_45 (by decide) (by decide) ?_
  refine kw_iload_n dX7_takes_47 rfl ?_
  refine kw_iadd dX7_takes_48 ⟨by omega, by omega⟩ ?_
  refine kv_iald dX7_takes_49 rfl (by omega) (by omega) (congrFun (kst_ne (by decide)) _) ?_
  refine kw_iadd dX7_takes_50 ⟨by omega, by omega⟩ ?_
  refine kv_iast dX7_takes_51 rfl (by omega) (by omega) ?_
  rw [kst_u]
  exact kv_rv dX7_takes_52 rfl rfl
theorem c_mpasses {E : kEnv} {f : Nat → Int → Int} {s : Int → Int} {g : Nat → Int → Option Nat}  (hm : kGM g) (hx : -1000 ≤ s 28 ∧ s 28 ≤ 1000) : kF E 0 M_X7_passes [kA (45)] ((kMC ++ kMM), kst f 50 s, g) (none) ((kMC ++ kMM), kst f 50 (mPass s), g) := by
  refine kF_of (by decide) (by simp [k_one]) (Nat.le_of_ble_eq_true rfl) (L := [some (kA (45)), none]) rfl ?_
  refine kw_aload_n dX7_passes_0 rfl ?_
  refine kv_getR (b := 50) dX7_passes_1 kf_X7_22 rfl rfl rfl (hm (45, 5, 50) (by decide)) ?_
  refine kw_bipush dX7_passes_4 (by decide) (by decide) ?_
  refine kw_dup2 dX7_passes_6 trivial trivial ?_
  refine kv_iald dX7_passes_7 rfl (by omega) (by omega) (congrFun kst_self _) ?_
  refine kw_iconst dX7_passes_8 ⟨by decide, by decide⟩ ?_
  refine kw_iadd dX7_passes_9 ⟨by omega, by omega⟩ ?_
  refine kv_iast dX7_passes_10 rfl (by omega) (by omega) ?_
  rw [kst_u]
  refine kw_iconst dX7_passes_11 ⟨by decide, by decide⟩ ?_
  refine kw_istore_n dX7_passes_12 (by decide) trivial (L2 := [some (kA (45)), some (kI (0))]) rfl ?_
  refine kw_iload_n dX7_passes_13 rfl ?_
  refine kw_iconst dX7_passes_14 ⟨by decide, by decide⟩ ?_
  refine kw_icmp_ge (tgt := 34) dX7_passes_15 (by decide) (kt := fun h => absurd h (by decide)) (kf := fun _ => ?_)
  refine kw_aload_n dX7_passes_18 rfl ?_
  refine kv_getR (b := 50) dX7_passes_19 kf_X7_22 rfl rfl rfl (hm (45, 5, 50) (by decide)) ?_
  refine kw_bipush dX7_passes_22 (by decide) (by decide) ?_
  refine kw_iload_n dX7_passes_24 rfl ?_
  refine kw_iadd dX7_passes_25 ⟨by omega, by omega⟩ ?_
  refine kw_iconst dX7_passes_26 ⟨by decide, by decide⟩ ?_
  refine kv_iast dX7_passes_27 rfl (by omega) (by omega) ?_
  rw [kst_u]
  refine kw_iinc dX7_passes_28 (by decide) rfl ⟨by omega, by omega⟩ trivial (L2 := [some (kA (45)), some (kI (1))]) rfl ?_
  refine kw_goto (tgt := 13) dX7_passes_31 (by decide) ?_
  refine kw_iload_n dX7_passes_13 rfl ?_
  refine kw_iconst dX7_passes_14 ⟨by decide, by decide⟩ ?_
  refine kw_icmp_ge (tgt := 34) dX7_passes_15 (by decide) (kt := fun h => absurd h (by decide)) (kf := fun _ => ?_)
  refine kw_aload_n dX7_passes_18 rfl ?_
  refine kv_getR (b := 50) dX7_passes_19 kf_X7_22 rfl rfl rfl (hm (45, 5, 50) (by decide)) ?_
  refine kw_bipush dX7_passes_22 (by decide) (by decide) ?_
  refine kw_iload_n dX7_passes_24 rfl ?_
  refine kw_iadd dX7_passes_25 ⟨by omega, by omega⟩ ?_
  refine kw_iconst dX7_passes_26 ⟨by decide, by decide⟩ ?_
  refine kv_iast dX7_passes_27 rfl (by omega) (by omega) ?_
  rw [kst_u]
  refine kw_iinc dX7_passes_28 (by decide) rfl ⟨by omega, by omega⟩ trivial (L2 := [some (kA (45)), some (kI (2))]) rfl ?_
  refine kw_goto (tgt := 13) dX7_passes_31 (by decide) ?_
  refine kw_iload_n dX7_passes_13 rfl ?_
  refine kw_iconst dX7_passes_14 ⟨by decide, by decide⟩ ?_
  refine kw_icmp_ge (tgt := 34) dX7_passes_15 (by decide) (kt := fun h => absurd h (by decide)) (kf := fun _ => ?_)
  refine kw_aload_n dX7_passes_18 rfl ?_
  refine kv_getR (b := 50) dX7_passes_19 kf_X7_22 rfl rfl rfl (hm (45, 5, 50) (by decide)) ?_
  refine kw_bipush dX7_passes_22 (by decide) (by decide) ?_
  refine kw_iload_n dX7_passes_24 rfl ?_
  refine kw_iadd dX7_passes_25 ⟨by omega, by omega⟩ ?_
  refine kw_iconst dX7_passes_26 ⟨by decide, by decide⟩ ?_
  refine kv_iast dX7_passes_27 rfl (by omega) (by omega) ?_
  rw [kst_u]
  refine kw_iinc dX7_passes_28 (by decide) rfl ⟨by omega, by omega⟩ trivial (L2 := [some (kA (45)), some (kI (3))]) rfl ?_
  refine kw_goto (tgt := 13) dX7_passes_31 (by decide) ?_
  refine kw_iload_n dX7_passes_13 rfl ?_
  refine kw_iconst dX7_passes_14 ⟨by decide, by decide⟩ ?_
  refine kw_icmp_ge (tgt := 34) dX7_passes_15 (by decide) (kt := fun h => absurd h (by decide)) (kf := fun _ => ?_)
  refine kw_aload_n dX7_passes_18 rfl ?_
  refine kv_getR (b := 50) dX7_passes_19 kf_X7_22 rfl rfl rfl (hm (45, 5, 50) (by decide)) ?_
  refine kw_bipush dX7_passes_22 (by decide) (by decide) ?_
  refine kw_iload_n dX7_passes_24 rfl ?_
  refine kw_iadd dX7_passes_25 ⟨by omega, by omega⟩ ?_
  refine kw_iconst dX7_passes_26 ⟨by decide, by decide⟩ ?_
  refine kv_iast dX7_passes_27 rfl (by omega) (by omega) ?_
  rw [kst_u]
  refine kw_iinc dX7_passes_28 (by decide) rfl ⟨by omega, by omega⟩ trivial (L2 := [some (kA (45)), some (kI (4))]) rfl ?_
  refine kw_goto (tgt := 13) dX7_passes_31 (by decide) ?_
  refine kw_iload_n dX7_passes_13 rfl ?_
  refine kw_iconst dX7_passes_14 ⟨by decide, by decide⟩ ?_
  refine kw_icmp_ge (tgt := 34) dX7_passes_15 (by decide) (kf := fun h => absurd (by decide) h) (kt := fun _ => ?_)
  exact kv_rv dX7_passes_34 rfl rfl
end
section
/-! the model's loops: each for himself, warm -/
theorem mRow_s {T s : Int → Int} {i b : Int} (h : 0 ≤ b) : mRow T i (b + 1).toNat s = mStep T (mRow T i b.toNat s) i b := by
  rw [show (b + 1).toNat = b.toNat + 1 by omega, mRow, k_nat h]
theorem mEachN_s {T s : Int → Int} {i : Int} (h : 0 ≤ i) : mEachN T (i + 1).toNat s = mRow T i (T 0).toNat (mEachN T i.toNat s) := by
  rw [show (i + 1).toNat = i.toNat + 1 by omega, mEachN, k_nat h]
theorem mBits_s {T s : Int → Int} {i : Int} (h : 0 ≤ i) : mBits T s (i + 1).toNat = mBits T s i.toNat + (if mWarm T s i then 2 ^ i.toNat else 0) := by
  rw [show (i + 1).toNat = i.toNat + 1 by omega, mBits, k_nat h]
theorem mStep_t {T s : Int → Int} {i b : Int} (h1 : ¬ mWarm T s i) (h2 : mCan T s i b) : mStep T s i b = mTakes T s i b := if_pos ⟨h1, h2⟩
theorem mStep_f {T s : Int → Int} {i b : Int} (h : ¬ (¬ mWarm T s i ∧ mCan T s i b)) : mStep T s i b = s := if_neg h
theorem mBits_lt {T s : Int → Int} : ∀ n : Nat, 0 ≤ mBits T s n ∧ mBits T s n < 2 ^ n
  | 0 => by simp [mBits]
  | n + 1 => by
    have ih := mBits_lt (T := T) (s := s) n
    have h2 : (2 : Int) ^ (n + 1) = 2 ^ n + 2 ^ n := by rw [Int.pow_succ]; omega
    rw [mBits, h2]
    split <;> omega
theorem mBits_bit {T s : Int → Int} {n : Nat} : kbit (mBits T s n) n = 0 := by
  have h := mBits_lt (T := T) (s := s) n
  unfold kbit
  rw [Int.toNat_natCast, Int.ediv_eq_zero_of_lt h.1 h.2]
  rfl
theorem k_pow4 : ∀ n : Nat, n ≤ 4 → (2 : Int) ^ n ≤ 16 := by decide
theorem l_meach1 {E : kEnv} {f : Nat → Int → Int} {s : Int → Int} {g : Nat → Int → Option Nat} {d : Nat} {i : Int} {Q : Option kV → kH → Prop} (hd : 3 ≤ d) (hm : kGM g) (hT : mTO (f 47)) (hS0 : mSO (f 47) s) (hi : 0 ≤ i ∧ i < f 47 1) (hx : kW E d 0 0 M_X7_eachTakes 53 [some (kA 45), some (kI i), some (kI (f 47 0))] [] ((kMC ++ kMM), kst f 50 (mRow (f 47) i (f 47 0).toNat s), g) Q) : ∀ (n : Nat) (b : Int), (0 ≤ b ∧ b ≤ f 47 0) → (f 47 0 - b).toNat < n → kW E d 0 0 M_X7_eachTakes 14 [some (kA 45), some (kI i), some (kI b)] [] ((kMC ++ kMM), kst f 50 (mRow (f 47) i b.toNat s), g) Q := by
  intro n
  induction n with
  | zero => intro b _ y; omega
  | succ n ih =>
    intro b y0 y1
    have n0 := hT.1
    have n1 := hT.2.1
    have hS := mSO_row hT hS0 hi b.toNat (by omega)
    refine kw_iload_n dX7_eachTakes_14 rfl ?_
    refine kw_aload_n dX7_eachTakes_15 rfl ?_
    refine kv_getR (b := 47) dX7_eachTakes_16 kf_X7_13 rfl rfl rfl (hm (45, 2, 47) (by decide)) ?_
    refine kw_iconst dX7_eachTakes_19 ⟨by decide, by decide⟩ ?_
    refine kv_iald dX7_eachTakes_20 rfl (by omega) (by omega) (congrFun (kst_ne (by decide)) _) ?_
    refine kw_icmp_ge (tgt := 53) dX7_eachTakes_21 (by decide) (fun h1 => ?_) (fun h1 => ?_)
    · have e1 : b = f 47 0 := by omega
      subst e1
      exact hx
    · refine kw_aload_n dX7_eachTakes_24 rfl ?_
      refine kw_iload_n dX7_eachTakes_25 rfl ?_
      refine kv_callV1 (M2 := M_X7_isWarm) (As := [kI (i)]) dX7_eachTakes_26 ml_X7_103 q_X7_isWarm rfl rfl rfl (Nat.le_of_ble_eq_true rfl) (c_misWarm hm (by omega)) (by omega) ?_
      refine kv_ifneB (tgt := 47) dX7_eachTakes_29 (by decide) (fun h2 => ?_) (fun h2 => ?_)
      · refine kw_iinc dX7_eachTakes_47 (by decide) rfl ⟨by omega, by omega⟩ trivial (L2 := [some (kA (45)), some (kI (i)), some (kI (b + 1))]) rfl ?_
        refine kw_goto (tgt := 14) dX7_eachTakes_50 (by decide) ?_
        have e1 : mRow (f 47) i (b + 1).toNat s = mRow (f 47) i b.toNat s := by
          rw [mRow_s y0.1]
          first | exact mStep_t h2 h3 | exact mStep_f (fun z => z.1 h2) | exact mStep_f (fun z => h3 z.2)
        rw [← e1]
        exact ih (b + 1) ⟨by omega, by omega⟩ (by omega)
      · refine kw_aload_n dX7_eachTakes_32 rfl ?_
        refine kw_iload_n dX7_eachTakes_33 rfl ?_
        refine kw_iload_n dX7_eachTakes_34 rfl ?_
        refine kv_callV1 (M2 := M_X7_canNow) (As := [kI (i), kI (b)]) dX7_eachTakes_35 ml_X7_110 q_X7_canNow rfl rfl rfl (Nat.le_of_ble_eq_true rfl) (c_mcanNow hm hT hS ⟨by omega, by omega⟩ ⟨by omega, by omega⟩) (by omega) ?_
        refine kv_ifeqB (tgt := 47) dX7_eachTakes_38 (by decide) (fun h3 => ?_) (fun h3 => ?_)
        · refine kw_iinc dX7_eachTakes_47 (by decide) rfl ⟨by omega, by omega⟩ trivial (L2 := [some (kA (45)), some (kI (i)), some (kI (b + 1))]) rfl ?_
          refine kw_goto (tgt := 14) dX7_eachTakes_50 (by decide) ?_
          have e1 : mRow (f 47) i (b + 1).toNat s = mRow (f 47) i b.toNat s := by
            rw [mRow_s y0.1]
            first | exact mStep_t h2 h3 | exact mStep_f (fun z => z.1 h2) | exact mStep_f (fun z => h3 z.2)
          rw [← e1]
          exact ih (b + 1) ⟨by omega, by omega⟩ (by omega)
        · refine kw_aload_n dX7_eachTakes_41 rfl ?_
          refine kw_iload_n dX7_eachTakes_42 rfl ?_
          refine kw_iload_n dX7_eachTakes_43 rfl ?_
          refine kv_callV0 (M2 := M_X7_takes) (As := [kI (i), kI (b)]) dX7_eachTakes_44 ml_X7_116 q_X7_takes rfl rfl rfl (Nat.le_of_ble_eq_true rfl) (c_mtakes hm hT hS ⟨by omega, by omega⟩ ⟨by omega, by omega⟩) (by omega) ?_
          refine kw_iinc dX7_eachTakes_47 (by decide) rfl ⟨by omega, by omega⟩ trivial (L2 := [some (kA (45)), some (kI (i)), some (kI (b + 1))]) rfl ?_
          refine kw_goto (tgt := 14) dX7_eachTakes_50 (by decide) ?_
          have e1 : mRow (f 47) i (b + 1).toNat s = mTakes (f 47) (mRow (f 47) i b.toNat s) i b := by
            rw [mRow_s y0.1]
            first | exact mStep_t h2 h3 | exact mStep_f (fun z => z.1 h2) | exact mStep_f (fun z => h3 z.2)
          rw [← e1]
          exact ih (b + 1) ⟨by omega, by omega⟩ (by omega)
theorem l_meach2 {E : kEnv} {f : Nat → Int → Int} {s : Int → Int} {g : Nat → Int → Option Nat} (hm : kGM g) (hT : mTO (f 47)) (hS0 : mSO (f 47) s) : ∀ (n : Nat) (i : Int) (o : Option kV), (0 ≤ i ∧ i ≤ f 47 1) → (f 47 1 - i).toNat < n → kW E 3 0 0 M_X7_eachTakes 2 [some (kA 45), some (kI i), o] [] ((kMC ++ kMM), kst f 50 (mEachN (f 47) i.toNat s), g) (fun r h' => r = none ∧ h' = ((kMC ++ kMM), kst f 50 (mEach (f 47) s), g)) := by
  intro n
  induction n with
  | zero => intro i o _ y; omega
  | succ n ih =>
    intro i o y0 y1
    have n0 := hT.1
    have n1 := hT.2.1
    have hS := mSO_eachN hT hS0 i.toNat (by omega)
    refine kw_iload_n dX7_eachTakes_2 rfl ?_
    refine kw_aload_n dX7_eachTakes_3 rfl ?_
    refine kv_getR (b := 47) dX7_eachTakes_4 kf_X7_13 rfl rfl rfl (hm (45, 2, 47) (by decide)) ?_
    refine kw_iconst dX7_eachTakes_7 ⟨by decide, by decide⟩ ?_
    refine kv_iald dX7_eachTakes_8 rfl (by omega) (by omega) (congrFun (kst_ne (by decide)) _) ?_
    refine kw_icmp_ge (tgt := 59) dX7_eachTakes_9 (by decide) (fun h1 => ?_) (fun h1 => ?_)
    · exact kv_rv dX7_eachTakes_59 rfl (by rw [show i = f 47 1 by omega]; rfl)
    · refine kw_iconst dX7_eachTakes_12 ⟨by decide, by decide⟩ ?_
      refine kw_istore_n dX7_eachTakes_13 (by decide) trivial (L2 := [some (kA (45)), some (kI (i)), some (kI (0))]) rfl ?_
      refine l_meach1 (by omega) hm hT hS ⟨by omega, by omega⟩ ?_ _ 0 ⟨by omega, by omega⟩ (Nat.lt_succ_self _)
      refine kw_iinc dX7_eachTakes_53 (by decide) rfl ⟨by omega, by omega⟩ trivial (L2 := [some (kA 45), some (kI (i + 1)), some (kI (f 47 0))]) rfl ?_
      refine kw_goto (tgt := 2) dX7_eachTakes_56 (by decide) ?_
      rw [← mEachN_s y0.1]
      exact ih (i + 1) _ ⟨by omega, by omega⟩ (by omega)
theorem c_meach {E : kEnv} {f : Nat → Int → Int} {s : Int → Int} {g : Nat → Int → Option Nat}  (hm : kGM g) (hT : mTO (f 47)) (hS : mSO (f 47) s) : kF E 3 M_X7_eachTakes [kA (45)] ((kMC ++ kMM), kst f 50 s, g) (none) ((kMC ++ kMM), kst f 50 (mEach (f 47) s), g) := by
  refine kF_of (by decide) (by simp [k_one]) (Nat.le_of_ble_eq_true rfl) (L := [some (kA (45)), none, none]) rfl ?_
  have n0 := hT.1
  have n1 := hT.2.1
  refine kw_iconst dX7_eachTakes_0 ⟨by decide, by decide⟩ ?_
  refine kw_istore_n dX7_eachTakes_1 (by decide) trivial (L2 := [some (kA (45)), some (kI (0)), none]) rfl ?_
  exact l_meach2 hm hT hS _ 0 none ⟨by omega, by omega⟩ (Nat.lt_succ_self _)
theorem l_mwarm {E : kEnv} {f : Nat → Int → Int} {s : Int → Int} {g : Nat → Int → Option Nat} (hm : kGM g) (hT : mTO (f 47)) : ∀ (n : Nat) (i : Int), (0 ≤ i ∧ i ≤ f 47 1) → (f 47 1 - i).toNat < n → kW E 1 0 0 M_X7_warm 4 [some (kA 45), some (kI (mBits (f 47) s i.toNat)), some (kI i)] [] ((kMC ++ kMM), kst f 50 s, g) (fun r h' => r = some (kI (mBit (f 47) s)) ∧ h' = ((kMC ++ kMM), kst f 50 s, g)) := by
  intro n
  induction n with
  | zero => intro i _ y; omega
  | succ n ih =>
    intro i y0 y1
    have n0 := hT.1
    have n1 := hT.2.1
    have hl := mBits_lt (T := f 47) (s := s) i.toNat
    have hp := k_pow4 i.toNat (by omega)
    refine kw_iload_n dX7_warm_4 rfl ?_
    refine kw_aload_n dX7_warm_5 rfl ?_
    refine kv_getR (b := 47) dX7_warm_6 kf_X7_13 rfl rfl rfl (hm (45, 2, 47) (by decide)) ?_
    refine kw_iconst dX7_warm_9 ⟨by decide, by decide⟩ ?_
    refine kv_iald dX7_warm_10 rfl (by omega) (by omega) (congrFun (kst_ne (by decide)) _) ?_
    refine kw_icmp_ge (tgt := 38) dX7_warm_11 (by decide) (fun h1 => ?_) (fun h1 => ?_)
    · refine kw_iload_n dX7_warm_38 rfl ?_
      exact kv_ri dX7_warm_39 rfl (by rw [show i = f 47 1 by omega]; rfl) rfl
    · refine kw_iload_n dX7_warm_14 rfl ?_
      refine kw_aload_n dX7_warm_15 rfl ?_
      refine kw_iload_n dX7_warm_16 rfl ?_
      refine kv_callV1 (M2 := M_X7_isWarm) (As := [kI (i)]) dX7_warm_17 ml_X7_103 q_X7_isWarm rfl rfl rfl (Nat.le_of_ble_eq_true rfl) (c_misWarm hm (by omega)) (by omega) ?_
      refine kv_ifeqB (tgt := 29) dX7_warm_20 (by decide) (fun h2 => ?_) (fun h2 => ?_)
      · refine kw_iconst dX7_warm_29 ⟨by decide, by decide⟩ ?_
        refine kv_or0 dX7_warm_30 ?_
        refine kw_istore_n dX7_warm_31 (by decide) trivial (L2 := [some (kA (45)), some (kI (mBits (f 47) s i.toNat)), some (kI (i))]) rfl ?_
        refine kw_iinc dX7_warm_32 (by decide) rfl ⟨by omega, by omega⟩ trivial (L2 := [some (kA (45)), some (kI (mBits (f 47) s i.toNat)), some (kI (i + 1))]) rfl ?_
        refine kw_goto (tgt := 4) dX7_warm_35 (by decide) ?_
        have e1 := mBits_s (T := f 47) (s := s) y0.1
        first | rw [if_pos h2] at e1 | rw [if_neg h2, Int.add_zero] at e1
        rw [← e1]
        exact ih (i + 1) ⟨by omega, by omega⟩ (by omega)
      · refine kw_iconst dX7_warm_23 ⟨by decide, by decide⟩ ?_
        refine kw_iload_n dX7_warm_24 rfl ?_
        refine kv_shl1 dX7_warm_25 (by omega) (by omega) ?_
        refine kw_goto (tgt := 30) dX7_warm_26 (by decide) ?_
        refine kv_orb (b := i) dX7_warm_30 (by omega) (by omega) (by omega) (by omega) (by rw [← k_nat y0.1]; simp only [Int.toNat_natCast]; exact mBits_bit) ?_
        refine kw_istore_n dX7_warm_31 (by decide) trivial (L2 := [some (kA (45)), some (kI ((mBits (f 47) s i.toNat) + 2 ^ i.toNat)), some (kI (i))]) rfl ?_
        refine kw_iinc dX7_warm_32 (by decide) rfl ⟨by omega, by omega⟩ trivial (L2 := [some (kA (45)), some (kI ((mBits (f 47) s i.toNat) + 2 ^ i.toNat)), some (kI (i + 1))]) rfl ?_
        refine kw_goto (tgt := 4) dX7_warm_35 (by decide) ?_
        have e1 := mBits_s (T := f 47) (s := s) y0.1
        first | rw [if_pos h2] at e1 | rw [if_neg h2, Int.add_zero] at e1
        rw [← e1]
        exact ih (i + 1) ⟨by omega, by omega⟩ (by omega)
theorem c_mwarm {E : kEnv} {f : Nat → Int → Int} {s : Int → Int} {g : Nat → Int → Option Nat}  (hm : kGM g) (hT : mTO (f 47)) : kF E 1 M_X7_warm [kA (45)] ((kMC ++ kMM), kst f 50 s, g) (some (kI (mBit (f 47) s))) ((kMC ++ kMM), kst f 50 s, g) := by
  refine kF_of (by decide) (by simp [k_one]) (Nat.le_of_ble_eq_true rfl) (L := [some (kA (45)), none, none]) rfl ?_
  have n0 := hT.1
  have n1 := hT.2.1
  refine kw_iconst dX7_warm_0 ⟨by decide, by decide⟩ ?_
  refine kw_istore_n dX7_warm_1 (by decide) trivial (L2 := [some (kA (45)), some (kI (0)), none]) rfl ?_
  refine kw_iconst dX7_warm_2 ⟨by decide, by decide⟩ ?_
  refine kw_istore_n dX7_warm_3 (by decide) trivial (L2 := [some (kA (45)), some (kI (0)), some (kI (0))]) rfl ?_
  exact l_mwarm hm hT _ 0 ⟨by omega, by omega⟩ (Nat.lt_succ_self _)
theorem mSO_at {T s : Int → Int} (hT : mTO T) (h : mSO T s) : ∀ n : Nat, mSO T (mAt T n s)
  | 0 => h
  | n + 1 => mSO_pass hT (mSO_each hT (mSO_at hT h n))
theorem mAt_28 {T s : Int → Int} (hT : mTO T) : ∀ n : Nat, mAt T n s 28 = s 28 + n
  | 0 => by simp [mAt]
  | n + 1 => by rw [mAt, mPass_d, mEach_28 hT, mAt_28 hT n]; omega
theorem l_mwarmAt {E : kEnv} {f : Nat → Int → Int} {s : Int → Int} {g : Nat → Int → Option Nat} {d : Int} (hm : kGM g) (hT : mTO (f 47)) (hS0 : mSO (f 47) s) (hd : 0 ≤ s 28 ∧ s 28 ≤ d ∧ d ≤ 99) : ∀ (n k : Nat), (k : Int) ≤ d - s 28 → (d - s 28).toNat - k < n → kW E 4 0 0 M_X7_warmAt 0 [some (kA 45), some (kI d)] [] ((kMC ++ kMM), kst f 50 (mAt (f 47) k s), g) (fun r h' => r = some (kI (mBit (f 47) (mEach (f 47) (mAt (f 47) (d - s 28).toNat s)))) ∧ h' = ((kMC ++ kMM), kst f 50 (mEach (f 47) (mAt (f 47) (d - s 28).toNat s)), g)) := by
  intro n
  induction n with
  | zero => intro k _ y; omega
  | succ n ih =>
    intro k y0 y1
    have n0 := hT.1
    have n1 := hT.2.1
    have hS := mSO_at hT hS0 k
    have e28 := mAt_28 (s := s) hT k
    have e29 := mEach_28 (s := mAt (f 47) k s) hT
    refine kw_aload_n dX7_warmAt_0 rfl ?_
    refine kv_getR (b := 50) dX7_warmAt_1 kf_X7_22 rfl rfl rfl (hm (45, 5, 50) (by decide)) ?_
    refine kw_bipush dX7_warmAt_4 (by decide) (by decide) ?_
    refine kv_iald dX7_warmAt_6 rfl (by omega) (by omega) (congrFun kst_self _) ?_
    refine kw_iload_n dX7_warmAt_7 rfl ?_
    refine kw_icmp_ge (tgt := 22) dX7_warmAt_8 (by decide) (fun h1 => ?_) (fun h1 => ?_)
    · refine kw_aload_n dX7_warmAt_22 rfl ?_
      refine kv_callV0 (M2 := M_X7_eachTakes) (As := []) dX7_warmAt_23 ml_X7_123 q_X7_eachTakes rfl rfl rfl (Nat.le_of_ble_eq_true rfl) (c_meach hm hT hS) (by omega) ?_
      refine kw_aload_n dX7_warmAt_26 rfl ?_
      refine kv_callV1 (M2 := M_X7_warm) (As := []) dX7_warmAt_27 ml_X7_126 q_X7_warm rfl rfl rfl (Nat.le_of_ble_eq_true rfl) (c_mwarm hm hT) (by omega) ?_
      exact kv_ri dX7_warmAt_30 rfl (by rw [show (d - s 28).toNat = k by omega]) (by rw [show (d - s 28).toNat = k by omega])
    · refine kw_aload_n dX7_warmAt_11 rfl ?_
      refine kv_callV0 (M2 := M_X7_eachTakes) (As := []) dX7_warmAt_12 ml_X7_123 q_X7_eachTakes rfl rfl rfl (Nat.le_of_ble_eq_true rfl) (c_meach hm hT hS) (by omega) ?_
      refine kw_aload_n dX7_warmAt_15 rfl ?_
      refine kv_callV0 (M2 := M_X7_passes) (As := []) dX7_warmAt_16 ml_X7_120 q_X7_passes rfl rfl rfl (Nat.le_of_ble_eq_true rfl) (c_mpasses hm (by omega)) (by omega) ?_
      refine kw_goto (tgt := 0) dX7_warmAt_19 (by decide) ?_
      exact ih (k + 1) (by omega) (by omega)
theorem c_mwarmAt {E : kEnv} {f : Nat → Int → Int} {s : Int → Int} {g : Nat → Int → Option Nat} {d : Int} (hm : kGM g) (hT : mTO (f 47)) (hS : mSO (f 47) s) (hd : 0 ≤ s 28 ∧ s 28 ≤ d ∧ d ≤ 99) : kF E 4 M_X7_warmAt [kA (45), kI (d)] ((kMC ++ kMM), kst f 50 s, g) (some (kI (mBit (f 47) (mEach (f 47) (mAt (f 47) (d - s 28).toNat s))))) ((kMC ++ kMM), kst f 50 (mEach (f 47) (mAt (f 47) (d - s 28).toNat s)), g) := by
  refine kF_of (by decide) (by simp [k_one]) (Nat.le_of_ble_eq_true rfl) (L := [some (kA (45)), some (kI (d))]) rfl ?_
  exact l_mwarmAt hm hT hS hd _ 0 (by omega) (Nat.lt_succ_self _)
end
section
theorem zz_look : True := trivial
end
