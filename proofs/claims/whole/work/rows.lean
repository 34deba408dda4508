section
-- ===== PART A: goes FIRST, ahead of the names: the tables' words, and 'selects' of the private methods out of them =====
/-- a private method of a class that the tables say can be made, by its rows of tables_1 -/
def lw_okq (q : MethodName × Nat) : Prop := (q.1.cls ≠ "java/lang/invoke/MethodHandle" ∧ q.1.cls ≠ "java/lang/invoke/VarHandle") ∧ Cond.instantiable q.1.cls q.2 ∈ tables_1 ∧ Cond.privateMethod q.1 ∈ tables_1 ∧ Cond.instanceMethod q.1 ∈ tables_1
theorem lw_p0 : lw_okq (⟨"RosterSolve$Plan", "firstFault", "([I)I"⟩, 12) := ⟨⟨by decide +kernel, by decide +kernel⟩, List.mem_of_getElem? (i := 23) (by decide +kernel), List.mem_of_getElem? (i := 158) (by decide +kernel), List.mem_of_getElem? (i := 159) (by decide +kernel)⟩
theorem lw_p1 : lw_okq (⟨"RosterSolve$Plan", "firstNeedFault", "([I)I"⟩, 12) := ⟨⟨by decide +kernel, by decide +kernel⟩, List.mem_of_getElem? (i := 23) (by decide +kernel), List.mem_of_getElem? (i := 162) (by decide +kernel), List.mem_of_getElem? (i := 163) (by decide +kernel)⟩
theorem lw_p2 : lw_okq (⟨"RosterSolve$Plan", "firstNeedUnmet", "([II)I"⟩, 12) := ⟨⟨by decide +kernel, by decide +kernel⟩, List.mem_of_getElem? (i := 23) (by decide +kernel), List.mem_of_getElem? (i := 166) (by decide +kernel), List.mem_of_getElem? (i := 167) (by decide +kernel)⟩
theorem lw_p3 : lw_okq (⟨"RosterSolve$Plan", "meetsNeed", "([III)Z"⟩, 12) := ⟨⟨by decide +kernel, by decide +kernel⟩, List.mem_of_getElem? (i := 23) (by decide +kernel), List.mem_of_getElem? (i := 170) (by decide +kernel), List.mem_of_getElem? (i := 171) (by decide +kernel)⟩
theorem lw_p4 : lw_okq (⟨"RosterSolve$Plan", "firstRestFault", "([I)I"⟩, 12) := ⟨⟨by decide +kernel, by decide +kernel⟩, List.mem_of_getElem? (i := 23) (by decide +kernel), List.mem_of_getElem? (i := 183) (by decide +kernel), List.mem_of_getElem? (i := 184) (by decide +kernel)⟩
theorem lw_p5 : lw_okq (⟨"RosterSolve$Plan", "breaksRest", "(II)Z"⟩, 12) := ⟨⟨by decide +kernel, by decide +kernel⟩, List.mem_of_getElem? (i := 23) (by decide +kernel), List.mem_of_getElem? (i := 187) (by decide +kernel), List.mem_of_getElem? (i := 188) (by decide +kernel)⟩
theorem lw_p6 : lw_okq (⟨"RosterSolve$Plan", "firstMostFault", "([I)I"⟩, 12) := ⟨⟨by decide +kernel, by decide +kernel⟩, List.mem_of_getElem? (i := 23) (by decide +kernel), List.mem_of_getElem? (i := 194) (by decide +kernel), List.mem_of_getElem? (i := 195) (by decide +kernel)⟩
theorem lw_p7 : lw_okq (⟨"RosterSolve$Plan", "firstNightsFault", "([I)I"⟩, 12) := ⟨⟨by decide +kernel, by decide +kernel⟩, List.mem_of_getElem? (i := 23) (by decide +kernel), List.mem_of_getElem? (i := 198) (by decide +kernel), List.mem_of_getElem? (i := 199) (by decide +kernel)⟩
theorem lw_p8 : lw_okq (⟨"RosterSolve$Plan", "firstBarFault", "([I)I"⟩, 12) := ⟨⟨by decide +kernel, by decide +kernel⟩, List.mem_of_getElem? (i := 23) (by decide +kernel), List.mem_of_getElem? (i := 202) (by decide +kernel), List.mem_of_getElem? (i := 203) (by decide +kernel)⟩
theorem lw_p9 : lw_okq (⟨"RosterSolve$Plan", "unmetSum", "([I)I"⟩, 12) := ⟨⟨by decide +kernel, by decide +kernel⟩, List.mem_of_getElem? (i := 23) (by decide +kernel), List.mem_of_getElem? (i := 214) (by decide +kernel), List.mem_of_getElem? (i := 215) (by decide +kernel)⟩
theorem lw_p10 : lw_okq (⟨"RosterSolve$Plan", "costOfAll", "([I)I"⟩, 12) := ⟨⟨by decide +kernel, by decide +kernel⟩, List.mem_of_getElem? (i := 23) (by decide +kernel), List.mem_of_getElem? (i := 222) (by decide +kernel), List.mem_of_getElem? (i := 223) (by decide +kernel)⟩
theorem lw_p11 : lw_okq (⟨"RosterSolve$Plan", "costOfOne", "([II)I"⟩, 12) := ⟨⟨by decide +kernel, by decide +kernel⟩, List.mem_of_getElem? (i := 23) (by decide +kernel), List.mem_of_getElem? (i := 226) (by decide +kernel), List.mem_of_getElem? (i := 227) (by decide +kernel)⟩
theorem lw_p12 : lw_okq (⟨"java/lang/Throwable", "fillInStackTrace", "(I)Ljava/lang/Throwable;"⟩, 6) := ⟨⟨by decide +kernel, by decide +kernel⟩, List.mem_of_getElem? (i := 288) (by decide +kernel), List.mem_of_getElem? (i := 286) (by decide +kernel), List.mem_of_getElem? (i := 287) (by decide +kernel)⟩
theorem lw_p13 : lw_okq (⟨"RosterSolve$Plan", "startDays", "(I)V"⟩, 12) := ⟨⟨by decide +kernel, by decide +kernel⟩, List.mem_of_getElem? (i := 23) (by decide +kernel), List.mem_of_getElem? (i := 318) (by decide +kernel), List.mem_of_getElem? (i := 319) (by decide +kernel)⟩
theorem lw_p14 : lw_okq (⟨"RosterSolve$Plan", "addPerson", "(II)I"⟩, 12) := ⟨⟨by decide +kernel, by decide +kernel⟩, List.mem_of_getElem? (i := 23) (by decide +kernel), List.mem_of_getElem? (i := 353) (by decide +kernel), List.mem_of_getElem? (i := 354) (by decide +kernel)⟩
theorem lw_p15 : lw_okq (⟨"RosterSolve", "refuseUnknownDay", "(I)V"⟩, 6) := ⟨⟨by decide +kernel, by decide +kernel⟩, List.mem_of_getElem? (i := 15) (by decide +kernel), List.mem_of_getElem? (i := 365) (by decide +kernel), List.mem_of_getElem? (i := 366) (by decide +kernel)⟩
def lw_privs_1 : List (MethodName × Nat) := [(⟨"RosterSolve$Plan", "firstFault", "([I)I"⟩, 12), (⟨"RosterSolve$Plan", "firstNeedFault", "([I)I"⟩, 12), (⟨"RosterSolve$Plan", "firstNeedUnmet", "([II)I"⟩, 12), (⟨"RosterSolve$Plan", "meetsNeed", "([III)Z"⟩, 12), (⟨"RosterSolve$Plan", "firstRestFault", "([I)I"⟩, 12), (⟨"RosterSolve$Plan", "breaksRest", "(II)Z"⟩, 12), (⟨"RosterSolve$Plan", "firstMostFault", "([I)I"⟩, 12), (⟨"RosterSolve$Plan", "firstNightsFault", "([I)I"⟩, 12), (⟨"RosterSolve$Plan", "firstBarFault", "([I)I"⟩, 12), (⟨"RosterSolve$Plan", "unmetSum", "([I)I"⟩, 12), (⟨"RosterSolve$Plan", "costOfAll", "([I)I"⟩, 12), (⟨"RosterSolve$Plan", "costOfOne", "([II)I"⟩, 12), (⟨"java/lang/Throwable", "fillInStackTrace", "(I)Ljava/lang/Throwable;"⟩, 6), (⟨"RosterSolve$Plan", "startDays", "(I)V"⟩, 12), (⟨"RosterSolve$Plan", "addPerson", "(II)I"⟩, 12), (⟨"RosterSolve", "refuseUnknownDay", "(I)V"⟩, 6)]
theorem lw_r1 : ∀ q ∈ lw_privs_1, lw_okq q := List.forall_mem_cons.mpr ⟨lw_p0, List.forall_mem_cons.mpr ⟨lw_p1, List.forall_mem_cons.mpr ⟨lw_p2, List.forall_mem_cons.mpr ⟨lw_p3, List.forall_mem_cons.mpr ⟨lw_p4, List.forall_mem_cons.mpr ⟨lw_p5, List.forall_mem_cons.mpr ⟨lw_p6, List.forall_mem_cons.mpr ⟨lw_p7, List.forall_mem_cons.mpr ⟨lw_p8, List.forall_mem_cons.mpr ⟨lw_p9, List.forall_mem_cons.mpr ⟨lw_p10, List.forall_mem_cons.mpr ⟨lw_p11, List.forall_mem_cons.mpr ⟨lw_p12, List.forall_mem_cons.mpr ⟨lw_p13, List.forall_mem_cons.mpr ⟨lw_p14, List.forall_mem_cons.mpr ⟨lw_p15, fun _ h => absurd h List.not_mem_nil⟩⟩⟩⟩⟩⟩⟩⟩⟩⟩⟩⟩⟩⟩⟩⟩
theorem lw_p16 : lw_okq (⟨"RosterSolve$Plan", "putNeed", "(IIII)V"⟩, 12) := ⟨⟨by decide +kernel, by decide +kernel⟩, List.mem_of_getElem? (i := 23) (by decide +kernel), List.mem_of_getElem? (i := 388) (by decide +kernel), List.mem_of_getElem? (i := 389) (by decide +kernel)⟩
theorem lw_p17 : lw_okq (⟨"RosterSolve$Plan", "putRules", "(III)V"⟩, 12) := ⟨⟨by decide +kernel, by decide +kernel⟩, List.mem_of_getElem? (i := 23) (by decide +kernel), List.mem_of_getElem? (i := 399) (by decide +kernel), List.mem_of_getElem? (i := 400) (by decide +kernel)⟩
theorem lw_p18 : lw_okq (⟨"RosterSolve", "refuseUnknownPerson", "(I)V"⟩, 6) := ⟨⟨by decide +kernel, by decide +kernel⟩, List.mem_of_getElem? (i := 15) (by decide +kernel), List.mem_of_getElem? (i := 410) (by decide +kernel), List.mem_of_getElem? (i := 411) (by decide +kernel)⟩
theorem lw_p19 : lw_okq (⟨"RosterSolve", "refuseFrozen", "(I)V"⟩, 6) := ⟨⟨by decide +kernel, by decide +kernel⟩, List.mem_of_getElem? (i := 15) (by decide +kernel), List.mem_of_getElem? (i := 423) (by decide +kernel), List.mem_of_getElem? (i := 424) (by decide +kernel)⟩
theorem lw_p20 : lw_okq (⟨"RosterSolve$Plan", "addWish", "(IIZI)I"⟩, 12) := ⟨⟨by decide +kernel, by decide +kernel⟩, List.mem_of_getElem? (i := 23) (by decide +kernel), List.mem_of_getElem? (i := 443) (by decide +kernel), List.mem_of_getElem? (i := 444) (by decide +kernel)⟩
theorem lw_p21 : lw_okq (⟨"RosterSolve$Search", "run", "([III)V"⟩, 15) := ⟨⟨by decide +kernel, by decide +kernel⟩, List.mem_of_getElem? (i := 78) (by decide +kernel), List.mem_of_getElem? (i := 468) (by decide +kernel), List.mem_of_getElem? (i := 469) (by decide +kernel)⟩
theorem lw_p22 : lw_okq (⟨"RosterSolve$Search", "takeOnlyRoster", "()V"⟩, 15) := ⟨⟨by decide +kernel, by decide +kernel⟩, List.mem_of_getElem? (i := 78) (by decide +kernel), List.mem_of_getElem? (i := 473) (by decide +kernel), List.mem_of_getElem? (i := 474) (by decide +kernel)⟩
theorem lw_p23 : lw_okq (⟨"RosterSolve$Search", "keepTrial", "(I)V"⟩, 15) := ⟨⟨by decide +kernel, by decide +kernel⟩, List.mem_of_getElem? (i := 78) (by decide +kernel), List.mem_of_getElem? (i := 478) (by decide +kernel), List.mem_of_getElem? (i := 479) (by decide +kernel)⟩
theorem lw_p24 : lw_okq (⟨"RosterSolve$Search", "goThrough", "([I)V"⟩, 15) := ⟨⟨by decide +kernel, by decide +kernel⟩, List.mem_of_getElem? (i := 78) (by decide +kernel), List.mem_of_getElem? (i := 482) (by decide +kernel), List.mem_of_getElem? (i := 483) (by decide +kernel)⟩
theorem lw_p25 : lw_okq (⟨"RosterSolve$Search", "open", "([III)V"⟩, 15) := ⟨⟨by decide +kernel, by decide +kernel⟩, List.mem_of_getElem? (i := 78) (by decide +kernel), List.mem_of_getElem? (i := 486) (by decide +kernel), List.mem_of_getElem? (i := 487) (by decide +kernel)⟩
theorem lw_p26 : lw_okq (⟨"RosterSolve$Search", "standsNext", "(II)Z"⟩, 15) := ⟨⟨by decide +kernel, by decide +kernel⟩, List.mem_of_getElem? (i := 78) (by decide +kernel), List.mem_of_getElem? (i := 492) (by decide +kernel), List.mem_of_getElem? (i := 493) (by decide +kernel)⟩
theorem lw_p27 : lw_okq (⟨"RosterSolve$Search", "keepsRules", "(III)Z"⟩, 15) := ⟨⟨by decide +kernel, by decide +kernel⟩, List.mem_of_getElem? (i := 78) (by decide +kernel), List.mem_of_getElem? (i := 496) (by decide +kernel), List.mem_of_getElem? (i := 497) (by decide +kernel)⟩
theorem lw_p28 : lw_okq (⟨"RosterSolve$Search", "staysBelowBest", "(III)Z"⟩, 15) := ⟨⟨by decide +kernel, by decide +kernel⟩, List.mem_of_getElem? (i := 78) (by decide +kernel), List.mem_of_getElem? (i := 502) (by decide +kernel), List.mem_of_getElem? (i := 503) (by decide +kernel)⟩
theorem lw_p29 : lw_okq (⟨"RosterSolve$Search", "unmetBefore", "(II)I"⟩, 15) := ⟨⟨by decide +kernel, by decide +kernel⟩, List.mem_of_getElem? (i := 78) (by decide +kernel), List.mem_of_getElem? (i := 506) (by decide +kernel), List.mem_of_getElem? (i := 507) (by decide +kernel)⟩
theorem lw_p30 : lw_okq (⟨"RosterSolve", "exchange", "(II)V"⟩, 6) := ⟨⟨by decide +kernel, by decide +kernel⟩, List.mem_of_getElem? (i := 15) (by decide +kernel), List.mem_of_getElem? (i := 529) (by decide +kernel), List.mem_of_getElem? (i := 530) (by decide +kernel)⟩
theorem lw_p31 : lw_okq (⟨"RosterSolveModel", "throwing", "(ZZZZ)Z"⟩, 26) := ⟨⟨by decide +kernel, by decide +kernel⟩, List.mem_of_getElem? (i := 574) (by decide +kernel), List.mem_of_getElem? (i := 670) (by decide +kernel), List.mem_of_getElem? (i := 671) (by decide +kernel)⟩
def lw_privs_2 : List (MethodName × Nat) := [(⟨"RosterSolve$Plan", "putNeed", "(IIII)V"⟩, 12), (⟨"RosterSolve$Plan", "putRules", "(III)V"⟩, 12), (⟨"RosterSolve", "refuseUnknownPerson", "(I)V"⟩, 6), (⟨"RosterSolve", "refuseFrozen", "(I)V"⟩, 6), (⟨"RosterSolve$Plan", "addWish", "(IIZI)I"⟩, 12), (⟨"RosterSolve$Search", "run", "([III)V"⟩, 15), (⟨"RosterSolve$Search", "takeOnlyRoster", "()V"⟩, 15), (⟨"RosterSolve$Search", "keepTrial", "(I)V"⟩, 15), (⟨"RosterSolve$Search", "goThrough", "([I)V"⟩, 15), (⟨"RosterSolve$Search", "open", "([III)V"⟩, 15), (⟨"RosterSolve$Search", "standsNext", "(II)Z"⟩, 15), (⟨"RosterSolve$Search", "keepsRules", "(III)Z"⟩, 15), (⟨"RosterSolve$Search", "staysBelowBest", "(III)Z"⟩, 15), (⟨"RosterSolve$Search", "unmetBefore", "(II)I"⟩, 15), (⟨"RosterSolve", "exchange", "(II)V"⟩, 6), (⟨"RosterSolveModel", "throwing", "(ZZZZ)Z"⟩, 26)]
theorem lw_r2 : ∀ q ∈ lw_privs_2, lw_okq q := List.forall_mem_cons.mpr ⟨lw_p16, List.forall_mem_cons.mpr ⟨lw_p17, List.forall_mem_cons.mpr ⟨lw_p18, List.forall_mem_cons.mpr ⟨lw_p19, List.forall_mem_cons.mpr ⟨lw_p20, List.forall_mem_cons.mpr ⟨lw_p21, List.forall_mem_cons.mpr ⟨lw_p22, List.forall_mem_cons.mpr ⟨lw_p23, List.forall_mem_cons.mpr ⟨lw_p24, List.forall_mem_cons.mpr ⟨lw_p25, List.forall_mem_cons.mpr ⟨lw_p26, List.forall_mem_cons.mpr ⟨lw_p27, List.forall_mem_cons.mpr ⟨lw_p28, List.forall_mem_cons.mpr ⟨lw_p29, List.forall_mem_cons.mpr ⟨lw_p30, List.forall_mem_cons.mpr ⟨lw_p31, fun _ h => absurd h List.not_mem_nil⟩⟩⟩⟩⟩⟩⟩⟩⟩⟩⟩⟩⟩⟩⟩⟩
theorem lw_p32 : lw_okq (⟨"RosterSolveModel", "isDay", "(I)Z"⟩, 26) := ⟨⟨by decide +kernel, by decide +kernel⟩, List.mem_of_getElem? (i := 574) (by decide +kernel), List.mem_of_getElem? (i := 682) (by decide +kernel), List.mem_of_getElem? (i := 683) (by decide +kernel)⟩
theorem lw_p33 : lw_okq (⟨"RosterSolveModel", "isPerson", "(I)Z"⟩, 26) := ⟨⟨by decide +kernel, by decide +kernel⟩, List.mem_of_getElem? (i := 574) (by decide +kernel), List.mem_of_getElem? (i := 694) (by decide +kernel), List.mem_of_getElem? (i := 695) (by decide +kernel)⟩
theorem lw_p34 : lw_okq (⟨"RosterSolveModel", "areMet", "([II)Z"⟩, 26) := ⟨⟨by decide +kernel, by decide +kernel⟩, List.mem_of_getElem? (i := 574) (by decide +kernel), List.mem_of_getElem? (i := 714) (by decide +kernel), List.mem_of_getElem? (i := 715) (by decide +kernel)⟩
theorem lw_p35 : lw_okq (⟨"RosterSolveModel", "isMet", "([III)Z"⟩, 26) := ⟨⟨by decide +kernel, by decide +kernel⟩, List.mem_of_getElem? (i := 574) (by decide +kernel), List.mem_of_getElem? (i := 718) (by decide +kernel), List.mem_of_getElem? (i := 719) (by decide +kernel)⟩
theorem lw_p36 : lw_okq (⟨"RosterSolveModel", "search", "(I)I"⟩, 26) := ⟨⟨by decide +kernel, by decide +kernel⟩, List.mem_of_getElem? (i := 574) (by decide +kernel), List.mem_of_getElem? (i := 722) (by decide +kernel), List.mem_of_getElem? (i := 723) (by decide +kernel)⟩
theorem lw_p37 : lw_okq (⟨"RosterSolveModel", "givesUp", "(II)Z"⟩, 26) := ⟨⟨by decide +kernel, by decide +kernel⟩, List.mem_of_getElem? (i := 574) (by decide +kernel), List.mem_of_getElem? (i := 726) (by decide +kernel), List.mem_of_getElem? (i := 727) (by decide +kernel)⟩
theorem lw_p38 : lw_okq (⟨"RosterSolveModel", "isTired", "([III)Z"⟩, 26) := ⟨⟨by decide +kernel, by decide +kernel⟩, List.mem_of_getElem? (i := 574) (by decide +kernel), List.mem_of_getElem? (i := 730) (by decide +kernel), List.mem_of_getElem? (i := 731) (by decide +kernel)⟩
theorem lw_p39 : lw_okq (⟨"RosterSolveModel", "unmetTo", "([II)I"⟩, 26) := ⟨⟨by decide +kernel, by decide +kernel⟩, List.mem_of_getElem? (i := 574) (by decide +kernel), List.mem_of_getElem? (i := 743) (by decide +kernel), List.mem_of_getElem? (i := 744) (by decide +kernel)⟩
theorem lw_p40 : lw_okq (⟨"RosterSolveModel", "wrongWith", "([I)I"⟩, 26) := ⟨⟨by decide +kernel, by decide +kernel⟩, List.mem_of_getElem? (i := 574) (by decide +kernel), List.mem_of_getElem? (i := 755) (by decide +kernel), List.mem_of_getElem? (i := 756) (by decide +kernel)⟩
theorem lw_p41 : lw_okq (⟨"RosterSolveModel", "costOf", "(I)I"⟩, 26) := ⟨⟨by decide +kernel, by decide +kernel⟩, List.mem_of_getElem? (i := 574) (by decide +kernel), List.mem_of_getElem? (i := 775) (by decide +kernel), List.mem_of_getElem? (i := 776) (by decide +kernel)⟩
def lw_privs_3 : List (MethodName × Nat) := [(⟨"RosterSolveModel", "isDay", "(I)Z"⟩, 26), (⟨"RosterSolveModel", "isPerson", "(I)Z"⟩, 26), (⟨"RosterSolveModel", "areMet", "([II)Z"⟩, 26), (⟨"RosterSolveModel", "isMet", "([III)Z"⟩, 26), (⟨"RosterSolveModel", "search", "(I)I"⟩, 26), (⟨"RosterSolveModel", "givesUp", "(II)Z"⟩, 26), (⟨"RosterSolveModel", "isTired", "([III)Z"⟩, 26), (⟨"RosterSolveModel", "unmetTo", "([II)I"⟩, 26), (⟨"RosterSolveModel", "wrongWith", "([I)I"⟩, 26), (⟨"RosterSolveModel", "costOf", "(I)I"⟩, 26)]
theorem lw_r3 : ∀ q ∈ lw_privs_3, lw_okq q := List.forall_mem_cons.mpr ⟨lw_p32, List.forall_mem_cons.mpr ⟨lw_p33, List.forall_mem_cons.mpr ⟨lw_p34, List.forall_mem_cons.mpr ⟨lw_p35, List.forall_mem_cons.mpr ⟨lw_p36, List.forall_mem_cons.mpr ⟨lw_p37, List.forall_mem_cons.mpr ⟨lw_p38, List.forall_mem_cons.mpr ⟨lw_p39, List.forall_mem_cons.mpr ⟨lw_p40, List.forall_mem_cons.mpr ⟨lw_p41, fun _ h => absurd h List.not_mem_nil⟩⟩⟩⟩⟩⟩⟩⟩⟩⟩
def lw_privs : List (MethodName × Nat) := lw_privs_1 ++ (lw_privs_2 ++ (lw_privs_3))
def lw_tbl : List Cond := k2_sels lw_privs ++ tables_1
theorem lw_privs_ok : ∀ q ∈ lw_privs, lw_okq q := by
  show ∀ q ∈ lw_privs_1 ++ (lw_privs_2 ++ (lw_privs_3)), lw_okq q
  exact List.forall_mem_append.mpr ⟨lw_r1, List.forall_mem_append.mpr ⟨lw_r2, lw_r3⟩⟩
-- ===== end of PART A; then your names; then what follows =====
end
section
/-- the tables' good words; the nest mates' links -/
def TBG : List Cond := lw_tbl.filter goodWord
def isNest : Cond → Bool
  | .fieldLinkNest _ _ _ _ _ _ => true
  | .methodLinkNest _ _ _ _ => true
  | _ => false
theorem tbg_good {w : Cond} (h : w ∈ TBG) : goodWord w = true := (List.mem_filter.mp h).2
theorem tbg_in {w : Cond} (h : w ∈ TBG) : w ∈ lw_tbl := (List.mem_filter.mp h).1
theorem tbm (i : Nat) {w : Cond} (h : tables_1[i]? = some w) (g : goodWord w = true) : w ∈ TBG := List.mem_filter.mpr ⟨List.mem_append_right _ (List.mem_of_getElem? h), g⟩
theorem tbs {q : MethodName × Nat} (i : Nat) (h : lw_privs[i]? = some q) : Cond.selects q.1.cls q.1 q.1 ∈ TBG := List.mem_filter.mpr ⟨List.mem_append_left _ (List.mem_map.mpr ⟨q, List.mem_of_getElem? h, rfl⟩), rfl⟩
theorem gTB {c c' : Cond} (h : c' ∈ TBG) : GoodIn (c :: TBG) (c' :: TBG) := fun w hw => (List.mem_cons.mp hw).elim (fun e => by subst e; exact ⟨List.mem_cons_of_mem _ h, good_of_word (tbg_good h)⟩) (fun h2 => ⟨List.mem_cons_of_mem _ h2, good_of_word (tbg_good h2)⟩)
def R_P : String := "RosterSolve$Plan"
def F_P : u_T := fun k => match k with
  | 0 => ("RosterSolve$Plan", "persons", "I", false)
  | 1 => ("RosterSolve$Plan", "days", "I", false)
  | 2 => ("RosterSolve$Plan", "rest", "I", false)
  | 3 => ("RosterSolve$Plan", "most", "I", false)
  | 4 => ("RosterSolve$Plan", "nights", "I", false)
  | 5 => ("RosterSolve$Plan", "wishes", "I", false)
  | 6 => ("RosterSolve$Plan", "skills", "[I", true)
  | 7 => ("RosterSolve$Plan", "rates", "[I", true)
  | 8 => ("RosterSolve$Plan", "needPersons", "[I", true)
  | 9 => ("RosterSolve$Plan", "needSkills", "[I", true)
  | 10 => ("RosterSolve$Plan", "barred", "[Z", true)
  | _ => ("RosterSolve$Plan", "missed", "[I", true)
def t_P : Nat → FieldType := fun k => match k with
  | 0 => .int
  | 1 => .int
  | 2 => .int
  | 3 => .int
  | 4 => .int
  | 5 => .int
  | 6 => .array .int
  | 7 => .array .int
  | 8 => .array .int
  | 9 => .array .int
  | 10 => .array .boolean
  | _ => .array .int
theorem n_P : ∀ a, a < 12 → ∀ b, b < 12 → a ≠ b → (F_P a).2.1 ≠ (F_P b).2.1 := by decide +kernel
theorem t_P_ok : ∀ k, k < 12 → parseFieldDescriptor (F_P k).2.2.1 = some (t_P k) := by decide +kernel
theorem u_P : ∀ w ∈ u_ws R_P F_P 12, w ∈ TBG := by
  have e : u_ws R_P F_P 12 = ([50, 52, 54, 56, 58, 60, 62, 64, 66, 68, 70, 72] : List Nat).filterMap (fun i => tables_1[i]?) := by decide +kernel
  intro w hw
  have g : goodWord w = true := List.all_eq_true.mp (show (u_ws R_P F_P 12).all goodWord = true by decide +kernel) w hw
  rw [e] at hw
  obtain ⟨i, -, hi⟩ := List.mem_filterMap.mp hw
  exact tbm i hi g
def R_S : String := "RosterSolve$Search"
def F_S : u_T := fun k => match k with
  | 0 => ("RosterSolve$Search", "plan", "LRosterSolve$Plan;", true)
  | 1 => ("RosterSolve$Search", "best", "[I", true)
  | 2 => ("RosterSolve$Search", "trial", "[I", true)
  | 3 => ("RosterSolve$Search", "nextShift", "[I", true)
  | 4 => ("RosterSolve$Search", "lastShift", "[I", true)
  | 5 => ("RosterSolve$Search", "shiftsHad", "[I", true)
  | 6 => ("RosterSolve$Search", "nightsHad", "[I", true)
  | 7 => ("RosterSolve$Search", "unmetHad", "[I", true)
  | 8 => ("RosterSolve$Search", "limit", "I", false)
  | 9 => ("RosterSolve$Search", "frozenDays", "I", false)
  | 10 => ("RosterSolve$Search", "steps", "I", false)
  | 11 => ("RosterSolve$Search", "rightOnes", "I", false)
  | 12 => ("RosterSolve$Search", "bestUnmet", "I", false)
  | 13 => ("RosterSolve$Search", "stopped", "Z", false)
  | _ => ("RosterSolve$Search", "exact", "Z", false)
def t_S : Nat → FieldType := fun k => match k with
  | 0 => .object "RosterSolve$Plan"
  | 1 => .array .int
  | 2 => .array .int
  | 3 => .array .int
  | 4 => .array .int
  | 5 => .array .int
  | 6 => .array .int
  | 7 => .array .int
  | 8 => .int
  | 9 => .int
  | 10 => .int
  | 11 => .int
  | 12 => .int
  | 13 => .boolean
  | _ => .boolean
theorem n_S : ∀ a, a < 15 → ∀ b, b < 15 → a ≠ b → (F_S a).2.1 ≠ (F_S b).2.1 := by decide +kernel
theorem t_S_ok : ∀ k, k < 15 → parseFieldDescriptor (F_S k).2.2.1 = some (t_S k) := by decide +kernel
theorem u_S : ∀ w ∈ u_ws R_S F_S 15, w ∈ TBG := by
  have e : u_ws R_S F_S 15 = ([103, 105, 107, 109, 111, 113, 115, 117, 119, 121, 123, 125, 127, 129, 131] : List Nat).filterMap (fun i => tables_1[i]?) := by decide +kernel
  intro w hw
  have g : goodWord w = true := List.all_eq_true.mp (show (u_ws R_S F_S 15).all goodWord = true by decide +kernel) w hw
  rw [e] at hw
  obtain ⟨i, -, hi⟩ := List.mem_filterMap.mp hw
  exact tbm i hi g
def R_R : String := "RosterSolve"
def F_R : u_T := fun k => match k with
  | 0 => ("RosterSolve", "plan", "LRosterSolve$Plan;", true)
  | 1 => ("RosterSolve", "search", "LRosterSolve$Search;", true)
  | 2 => ("RosterSolve", "roster", "[I", true)
  | 3 => ("RosterSolve", "published", "[I", true)
  | 4 => ("RosterSolve", "frozen", "I", false)
  | _ => ("RosterSolve", "editions", "I", false)
def t_R : Nat → FieldType := fun k => match k with
  | 0 => .object "RosterSolve$Plan"
  | 1 => .object "RosterSolve$Search"
  | 2 => .array .int
  | 3 => .array .int
  | 4 => .int
  | _ => .int
theorem n_R : ∀ a, a < 6 → ∀ b, b < 6 → a ≠ b → (F_R a).2.1 ≠ (F_R b).2.1 := by decide +kernel
theorem t_R_ok : ∀ k, k < 6 → parseFieldDescriptor (F_R k).2.2.1 = some (t_R k) := by decide +kernel
theorem u_R : ∀ w ∈ u_ws R_R F_R 6, w ∈ TBG := by
  have e : u_ws R_R F_R 6 = ([140, 142, 144, 146, 148, 150] : List Nat).filterMap (fun i => tables_1[i]?) := by decide +kernel
  intro w hw
  have g : goodWord w = true := List.all_eq_true.mp (show (u_ws R_R F_R 6).all goodWord = true by decide +kernel) w hw
  rw [e] at hw
  obtain ⟨i, -, hi⟩ := List.mem_filterMap.mp hw
  exact tbm i hi g
def R_M : String := "RosterSolveModel"
def F_M : u_T := fun k => match k with
  | 0 => ("RosterSolveModel", "thrown", "I", false)
  | 1 => ("RosterSolveModel", "persons", "I", false)
  | 2 => ("RosterSolveModel", "days", "I", false)
  | 3 => ("RosterSolveModel", "frozen", "I", false)
  | 4 => ("RosterSolveModel", "skills", "[I", true)
  | 5 => ("RosterSolveModel", "rate", "[I", true)
  | 6 => ("RosterSolveModel", "roster", "[I", true)
  | 7 => ("RosterSolveModel", "tried", "[I", true)
  | 8 => ("RosterSolveModel", "best", "[I", true)
  | 9 => ("RosterSolveModel", "published", "[I", true)
  | 10 => ("RosterSolveModel", "editions", "I", false)
  | 11 => ("RosterSolveModel", "needs", "[I", true)
  | 12 => ("RosterSolveModel", "needSkills", "[I", true)
  | 13 => ("RosterSolveModel", "bars", "[Z", true)
  | 14 => ("RosterSolveModel", "rest", "I", false)
  | 15 => ("RosterSolveModel", "most", "I", false)
  | 16 => ("RosterSolveModel", "nights", "I", false)
  | 17 => ("RosterSolveModel", "wishes", "I", false)
  | 18 => ("RosterSolveModel", "wishPerson", "[I", true)
  | 19 => ("RosterSolveModel", "wishDay", "[I", true)
  | 20 => ("RosterSolveModel", "wishShift", "[I", true)
  | 21 => ("RosterSolveModel", "wishWants", "[Z", true)
  | 22 => ("RosterSolveModel", "weight", "[I", true)
  | 23 => ("RosterSolveModel", "exact", "Z", false)
  | 24 => ("RosterSolveModel", "steps", "I", false)
  | _ => ("RosterSolveModel", "rights", "I", false)
def t_M : Nat → FieldType := fun k => match k with
  | 0 => .int
  | 1 => .int
  | 2 => .int
  | 3 => .int
  | 4 => .array .int
  | 5 => .array .int
  | 6 => .array .int
  | 7 => .array .int
  | 8 => .array .int
  | 9 => .array .int
  | 10 => .int
  | 11 => .array .int
  | 12 => .array .int
  | 13 => .array .boolean
  | 14 => .int
  | 15 => .int
  | 16 => .int
  | 17 => .int
  | 18 => .array .int
  | 19 => .array .int
  | 20 => .array .int
  | 21 => .array .boolean
  | 22 => .array .int
  | 23 => .boolean
  | 24 => .int
  | _ => .int
theorem n_M : ∀ a, a < 26 → ∀ b, b < 26 → a ≠ b → (F_M a).2.1 ≠ (F_M b).2.1 := by decide +kernel
theorem t_M_ok : ∀ k, k < 26 → parseFieldDescriptor (F_M k).2.2.1 = some (t_M k) := by decide +kernel
theorem u_M : ∀ w ∈ u_ws R_M F_M 26, w ∈ TBG := by
  have e : u_ws R_M F_M 26 = ([605, 607, 609, 611, 613, 615, 617, 619, 621, 623, 625, 627, 629, 631, 633, 635, 637, 639, 641, 643, 645, 647, 649, 651, 653, 655] : List Nat).filterMap (fun i => tables_1[i]?) := by decide +kernel
  intro w hw
  have g : goodWord w = true := List.all_eq_true.mp (show (u_ws R_M F_M 26).all goodWord = true by decide +kernel) w hw
  rw [e] at hw
  obtain ⟨i, -, hi⟩ := List.mem_filterMap.mp hw
  exact tbm i hi g
def R_L : String := "RosterSolveLaw"
abbrev cls : List vw_C := [(R_P, F_P, 12), (R_S, F_S, 15), (R_R, F_R, 6), (R_M, F_M, 26)]
abbrev b_R_init : ByteArray := prog_1_method_1_code
def y_R_init : MethodName := ⟨R_R, "<init>", "()V"⟩
set_option maxRecDepth 100000 in
theorem q_R_init : (Cond.code y_R_init b_R_init 1 none) ∈ TBG := tbm 18 rfl rfl
def w_R_init : List Cond := .code y_R_init b_R_init 1 none :: TBG
abbrev b_P_init : ByteArray := prog_2_method_1_code
def y_P_init : MethodName := ⟨R_P, "<init>", "()V"⟩
set_option maxRecDepth 100000 in
theorem q_P_init : (Cond.code y_P_init b_P_init 1 none) ∈ TBG := tbm 26 rfl rfl
def w_P_init : List Cond := .code y_P_init b_P_init 1 none :: TBG
abbrev b_S_init : ByteArray := prog_3_method_1_code
def y_S_init : MethodName := ⟨R_S, "<init>", "(LRosterSolve$Plan;)V"⟩
set_option maxRecDepth 100000 in
theorem q_S_init : (Cond.code y_S_init b_S_init 2 none) ∈ TBG := tbm 81 rfl rfl
def w_S_init : List Cond := .code y_S_init b_S_init 2 none :: TBG
abbrev b_R_wrong : ByteArray := prog_1_method_14_code
def y_R_wrong : MethodName := ⟨R_R, "wrong", "()I"⟩
set_option maxRecDepth 100000 in
theorem q_R_wrong : (Cond.code y_R_wrong b_R_wrong 1 (some .int)) ∈ TBG := tbm 156 rfl rfl
def w_R_wrong : List Cond := .code y_R_wrong b_R_wrong 1 (some .int) :: TBG
abbrev b_P_firstFault : ByteArray := prog_2_method_7_code
def y_P_firstFault : MethodName := ⟨R_P, "firstFault", "([I)I"⟩
set_option maxRecDepth 100000 in
theorem q_P_firstFault : (Cond.code y_P_firstFault b_P_firstFault 3 (some .int)) ∈ TBG := tbm 160 rfl rfl
def w_P_firstFault : List Cond := .code y_P_firstFault b_P_firstFault 3 (some .int) :: TBG
abbrev b_P_firstNeedFault : ByteArray := prog_2_method_8_code
def y_P_firstNeedFault : MethodName := ⟨R_P, "firstNeedFault", "([I)I"⟩
set_option maxRecDepth 100000 in
theorem q_P_firstNeedFault : (Cond.code y_P_firstNeedFault b_P_firstNeedFault 4 (some .int)) ∈ TBG := tbm 164 rfl rfl
def w_P_firstNeedFault : List Cond := .code y_P_firstNeedFault b_P_firstNeedFault 4 (some .int) :: TBG
abbrev b_P_firstNeedUnmet : ByteArray := prog_2_method_9_code
def y_P_firstNeedUnmet : MethodName := ⟨R_P, "firstNeedUnmet", "([II)I"⟩
set_option maxRecDepth 100000 in
theorem q_P_firstNeedUnmet : (Cond.code y_P_firstNeedUnmet b_P_firstNeedUnmet 4 (some .int)) ∈ TBG := tbm 168 rfl rfl
def w_P_firstNeedUnmet : List Cond := .code y_P_firstNeedUnmet b_P_firstNeedUnmet 4 (some .int) :: TBG
abbrev b_P_meetsNeed : ByteArray := prog_2_method_10_code
def y_P_meetsNeed : MethodName := ⟨R_P, "meetsNeed", "([III)Z"⟩
set_option maxRecDepth 100000 in
theorem q_P_meetsNeed : (Cond.code y_P_meetsNeed b_P_meetsNeed 7 (some .boolean)) ∈ TBG := tbm 172 rfl rfl
def w_P_meetsNeed : List Cond := .code y_P_meetsNeed b_P_meetsNeed 7 (some .boolean) :: TBG
abbrev b_R_cell : ByteArray := prog_1_method_28_code
def y_R_cell : MethodName := ⟨R_R, "cell", "(II)I"⟩
set_option maxRecDepth 100000 in
theorem q_R_cell : (Cond.code y_R_cell b_R_cell 2 (some .int)) ∈ TBG := tbm 175 rfl rfl
def w_R_cell : List Cond := .code y_R_cell b_R_cell 2 (some .int) :: TBG
abbrev b_R_slot : ByteArray := prog_1_method_30_code
def y_R_slot : MethodName := ⟨R_R, "slot", "(II)I"⟩
set_option maxRecDepth 100000 in
theorem q_R_slot : (Cond.code y_R_slot b_R_slot 2 (some .int)) ∈ TBG := tbm 178 rfl rfl
def w_R_slot : List Cond := .code y_R_slot b_R_slot 2 (some .int) :: TBG
abbrev b_P_faultNumber : ByteArray := prog_2_method_17_code
def y_P_faultNumber : MethodName := ⟨R_P, "faultNumber", "(III)I"⟩
set_option maxRecDepth 100000 in
theorem q_P_faultNumber : (Cond.code y_P_faultNumber b_P_faultNumber 3 (some .int)) ∈ TBG := tbm 181 rfl rfl
def w_P_faultNumber : List Cond := .code y_P_faultNumber b_P_faultNumber 3 (some .int) :: TBG
abbrev b_P_firstRestFault : ByteArray := prog_2_method_11_code
def y_P_firstRestFault : MethodName := ⟨R_P, "firstRestFault", "([I)I"⟩
set_option maxRecDepth 100000 in
theorem q_P_firstRestFault : (Cond.code y_P_firstRestFault b_P_firstRestFault 4 (some .int)) ∈ TBG := tbm 185 rfl rfl
def w_P_firstRestFault : List Cond := .code y_P_firstRestFault b_P_firstRestFault 4 (some .int) :: TBG
abbrev b_P_breaksRest : ByteArray := prog_2_method_12_code
def y_P_breaksRest : MethodName := ⟨R_P, "breaksRest", "(II)Z"⟩
set_option maxRecDepth 100000 in
theorem q_P_breaksRest : (Cond.code y_P_breaksRest b_P_breaksRest 3 (some .boolean)) ∈ TBG := tbm 189 rfl rfl
def w_P_breaksRest : List Cond := .code y_P_breaksRest b_P_breaksRest 3 (some .boolean) :: TBG
abbrev b_P_hoursBetween : ByteArray := prog_2_method_13_code
def y_P_hoursBetween : MethodName := ⟨R_P, "hoursBetween", "(II)I"⟩
set_option maxRecDepth 100000 in
theorem q_P_hoursBetween : (Cond.code y_P_hoursBetween b_P_hoursBetween 2 (some .int)) ∈ TBG := tbm 192 rfl rfl
def w_P_hoursBetween : List Cond := .code y_P_hoursBetween b_P_hoursBetween 2 (some .int) :: TBG
abbrev b_P_firstMostFault : ByteArray := prog_2_method_14_code
def y_P_firstMostFault : MethodName := ⟨R_P, "firstMostFault", "([I)I"⟩
set_option maxRecDepth 100000 in
theorem q_P_firstMostFault : (Cond.code y_P_firstMostFault b_P_firstMostFault 6 (some .int)) ∈ TBG := tbm 196 rfl rfl
def w_P_firstMostFault : List Cond := .code y_P_firstMostFault b_P_firstMostFault 6 (some .int) :: TBG
abbrev b_P_firstNightsFault : ByteArray := prog_2_method_15_code
def y_P_firstNightsFault : MethodName := ⟨R_P, "firstNightsFault", "([I)I"⟩
set_option maxRecDepth 100000 in
theorem q_P_firstNightsFault : (Cond.code y_P_firstNightsFault b_P_firstNightsFault 5 (some .int)) ∈ TBG := tbm 200 rfl rfl
def w_P_firstNightsFault : List Cond := .code y_P_firstNightsFault b_P_firstNightsFault 5 (some .int) :: TBG
abbrev b_P_firstBarFault : ByteArray := prog_2_method_16_code
def y_P_firstBarFault : MethodName := ⟨R_P, "firstBarFault", "([I)I"⟩
set_option maxRecDepth 100000 in
theorem q_P_firstBarFault : (Cond.code y_P_firstBarFault b_P_firstBarFault 4 (some .int)) ∈ TBG := tbm 204 rfl rfl
def w_P_firstBarFault : List Cond := .code y_P_firstBarFault b_P_firstBarFault 4 (some .int) :: TBG
abbrev b_R_choice : ByteArray := prog_1_method_29_code
def y_R_choice : MethodName := ⟨R_R, "choice", "(III)I"⟩
set_option maxRecDepth 100000 in
theorem q_R_choice : (Cond.code y_R_choice b_R_choice 3 (some .int)) ∈ TBG := tbm 207 rfl rfl
def w_R_choice : List Cond := .code y_R_choice b_R_choice 3 (some .int) :: TBG
abbrev b_R_unmet : ByteArray := prog_1_method_15_code
def y_R_unmet : MethodName := ⟨R_R, "unmet", "()I"⟩
set_option maxRecDepth 100000 in
theorem q_R_unmet : (Cond.code y_R_unmet b_R_unmet 1 (some .int)) ∈ TBG := tbm 212 rfl rfl
def w_R_unmet : List Cond := .code y_R_unmet b_R_unmet 1 (some .int) :: TBG
abbrev b_P_unmetSum : ByteArray := prog_2_method_18_code
def y_P_unmetSum : MethodName := ⟨R_P, "unmetSum", "([I)I"⟩
set_option maxRecDepth 100000 in
theorem q_P_unmetSum : (Cond.code y_P_unmetSum b_P_unmetSum 5 (some .int)) ∈ TBG := tbm 216 rfl rfl
def w_P_unmetSum : List Cond := .code y_P_unmetSum b_P_unmetSum 5 (some .int) :: TBG
abbrev b_R_cost : ByteArray := prog_1_method_16_code
def y_R_cost : MethodName := ⟨R_R, "cost", "()I"⟩
set_option maxRecDepth 100000 in
theorem q_R_cost : (Cond.code y_R_cost b_R_cost 1 (some .int)) ∈ TBG := tbm 220 rfl rfl
def w_R_cost : List Cond := .code y_R_cost b_R_cost 1 (some .int) :: TBG
abbrev b_P_costOfAll : ByteArray := prog_2_method_19_code
def y_P_costOfAll : MethodName := ⟨R_P, "costOfAll", "([I)I"⟩
set_option maxRecDepth 100000 in
theorem q_P_costOfAll : (Cond.code y_P_costOfAll b_P_costOfAll 4 (some .int)) ∈ TBG := tbm 224 rfl rfl
def w_P_costOfAll : List Cond := .code y_P_costOfAll b_P_costOfAll 4 (some .int) :: TBG
abbrev b_P_costOfOne : ByteArray := prog_2_method_20_code
def y_P_costOfOne : MethodName := ⟨R_P, "costOfOne", "([II)I"⟩
set_option maxRecDepth 100000 in
theorem q_P_costOfOne : (Cond.code y_P_costOfOne b_P_costOfOne 5 (some .int)) ∈ TBG := tbm 228 rfl rfl
def w_P_costOfOne : List Cond := .code y_P_costOfOne b_P_costOfOne 5 (some .int) :: TBG
abbrev b_R_publish : ByteArray := prog_1_method_18_code
def y_R_publish : MethodName := ⟨R_R, "publish", "()I"⟩
set_option maxRecDepth 100000 in
theorem q_R_publish : (Cond.code y_R_publish b_R_publish 5 (some .int)) ∈ TBG := tbm 232 rfl rfl
def w_R_publish : List Cond := .code y_R_publish b_R_publish 5 (some .int) :: TBG
abbrev b_L_days : ByteArray := method_3_code
def y_L_days : MethodName := ⟨R_L, "days", "(LRosterSolve;I)I"⟩
set_option maxRecDepth 100000 in
theorem q_L_days : (Cond.codeWith y_L_days b_L_days 3 (some .int) [(0, 5, 8, 13)]) ∈ TBG := tbm 238 rfl rfl
def w_L_days : List Cond := .codeWith y_L_days b_L_days 3 (some .int) [(0, 5, 8, 13)] :: TBG
abbrev b_R_days : ByteArray := prog_1_method_2_code
def y_R_days : MethodName := ⟨R_R, "days", "(I)V"⟩
set_option maxRecDepth 100000 in
theorem q_R_days : (Cond.code y_R_days b_R_days 2 none) ∈ TBG := tbm 243 rfl rfl
def w_R_days : List Cond := .code y_R_days b_R_days 2 none :: TBG
abbrev b_R_refuseOutside : ByteArray := prog_1_method_26_code
def y_R_refuseOutside : MethodName := ⟨R_R, "refuseOutside", "(III)V"⟩
set_option maxRecDepth 100000 in
theorem q_R_refuseOutside : (Cond.code y_R_refuseOutside b_R_refuseOutside 3 none) ∈ TBG := tbm 246 rfl rfl
def w_R_refuseOutside : List Cond := .code y_R_refuseOutside b_R_refuseOutside 3 none :: TBG
abbrev b_P_startDays : ByteArray := prog_2_method_2_code
def y_P_startDays : MethodName := ⟨R_P, "startDays", "(I)V"⟩
set_option maxRecDepth 100000 in
theorem q_P_startDays : (Cond.code y_P_startDays b_P_startDays 3 none) ∈ TBG := tbm 320 rfl rfl
def w_P_startDays : List Cond := .code y_P_startDays b_P_startDays 3 none :: TBG
abbrev b_R_clearRow : ByteArray := prog_1_method_31_code
def y_R_clearRow : MethodName := ⟨R_R, "clearRow", "([I)V"⟩
set_option maxRecDepth 100000 in
theorem q_R_clearRow : (Cond.code y_R_clearRow b_R_clearRow 2 none) ∈ TBG := tbm 323 rfl rfl
def w_R_clearRow : List Cond := .code y_R_clearRow b_R_clearRow 2 none :: TBG
abbrev b_L_person : ByteArray := method_4_code
def y_L_person : MethodName := ⟨R_L, "person", "(LRosterSolve;II[J)I"⟩
set_option maxRecDepth 100000 in
theorem q_L_person : (Cond.codeWith y_L_person b_L_person 5 (some .int) [(0, 10, 13, 13), (0, 10, 17, 19)]) ∈ TBG := tbm 327 rfl rfl
def w_L_person : List Cond := .codeWith y_L_person b_L_person 5 (some .int) [(0, 10, 13, 13), (0, 10, 17, 19)] :: TBG
abbrev b_R_person : ByteArray := prog_1_method_3_code
def y_R_person : MethodName := ⟨R_R, "person", "(II)I"⟩
set_option maxRecDepth 100000 in
theorem q_R_person : (Cond.code y_R_person b_R_person 3 (some .int)) ∈ TBG := tbm 332 rfl rfl
def w_R_person : List Cond := .code y_R_person b_R_person 3 (some .int) :: TBG
abbrev b_R_refuseFull : ByteArray := prog_1_method_27_code
def y_R_refuseFull : MethodName := ⟨R_R, "refuseFull", "(II)V"⟩
set_option maxRecDepth 100000 in
theorem q_R_refuseFull : (Cond.code y_R_refuseFull b_R_refuseFull 2 none) ∈ TBG := tbm 335 rfl rfl
def w_R_refuseFull : List Cond := .code y_R_refuseFull b_R_refuseFull 2 none :: TBG
abbrev b_P_addPerson : ByteArray := prog_2_method_3_code
def y_P_addPerson : MethodName := ⟨R_P, "addPerson", "(II)I"⟩
set_option maxRecDepth 100000 in
theorem q_P_addPerson : (Cond.code y_P_addPerson b_P_addPerson 4 (some .int)) ∈ TBG := tbm 355 rfl rfl
def w_P_addPerson : List Cond := .code y_P_addPerson b_P_addPerson 4 (some .int) :: TBG
abbrev b_L_need : ByteArray := method_5_code
def y_L_need : MethodName := ⟨R_L, "need", "(LRosterSolve;IIII)I"⟩
set_option maxRecDepth 100000 in
theorem q_L_need : (Cond.codeWith y_L_need b_L_need 6 (some .int) [(0, 9, 12, 25), (0, 9, 16, 13)]) ∈ TBG := tbm 358 rfl rfl
def w_L_need : List Cond := .codeWith y_L_need b_L_need 6 (some .int) [(0, 9, 12, 25), (0, 9, 16, 13)] :: TBG
abbrev b_R_need : ByteArray := prog_1_method_4_code
def y_R_need : MethodName := ⟨R_R, "need", "(IIII)V"⟩
set_option maxRecDepth 100000 in
theorem q_R_need : (Cond.code y_R_need b_R_need 5 none) ∈ TBG := tbm 363 rfl rfl
def w_R_need : List Cond := .code y_R_need b_R_need 5 none :: TBG
abbrev b_R_refuseUnknownDay : ByteArray := prog_1_method_22_code
def y_R_refuseUnknownDay : MethodName := ⟨R_R, "refuseUnknownDay", "(I)V"⟩
set_option maxRecDepth 100000 in
theorem q_R_refuseUnknownDay : (Cond.code y_R_refuseUnknownDay b_R_refuseUnknownDay 2 none) ∈ TBG := tbm 367 rfl rfl
def w_R_refuseUnknownDay : List Cond := .code y_R_refuseUnknownDay b_R_refuseUnknownDay 2 none :: TBG
abbrev b_R_refuseUnknown : ByteArray := prog_1_method_24_code
def y_R_refuseUnknown : MethodName := ⟨R_R, "refuseUnknown", "(III)V"⟩
set_option maxRecDepth 100000 in
theorem q_R_refuseUnknown : (Cond.code y_R_refuseUnknown b_R_refuseUnknown 3 none) ∈ TBG := tbm 370 rfl rfl
def w_R_refuseUnknown : List Cond := .code y_R_refuseUnknown b_R_refuseUnknown 3 none :: TBG
abbrev b_P_putNeed : ByteArray := prog_2_method_4_code
def y_P_putNeed : MethodName := ⟨R_P, "putNeed", "(IIII)V"⟩
set_option maxRecDepth 100000 in
theorem q_P_putNeed : (Cond.code y_P_putNeed b_P_putNeed 5 none) ∈ TBG := tbm 390 rfl rfl
def w_P_putNeed : List Cond := .code y_P_putNeed b_P_putNeed 5 none :: TBG
abbrev b_L_rules : ByteArray := method_6_code
def y_L_rules : MethodName := ⟨R_L, "rules", "(LRosterSolve;III)I"⟩
set_option maxRecDepth 100000 in
theorem q_L_rules : (Cond.codeWith y_L_rules b_L_rules 5 (some .int) [(0, 7, 10, 13)]) ∈ TBG := tbm 393 rfl rfl
def w_L_rules : List Cond := .codeWith y_L_rules b_L_rules 5 (some .int) [(0, 7, 10, 13)] :: TBG
abbrev b_R_rules : ByteArray := prog_1_method_5_code
def y_R_rules : MethodName := ⟨R_R, "rules", "(III)V"⟩
set_option maxRecDepth 100000 in
theorem q_R_rules : (Cond.code y_R_rules b_R_rules 4 none) ∈ TBG := tbm 397 rfl rfl
def w_R_rules : List Cond := .code y_R_rules b_R_rules 4 none :: TBG
abbrev b_P_putRules : ByteArray := prog_2_method_5_code
def y_P_putRules : MethodName := ⟨R_P, "putRules", "(III)V"⟩
set_option maxRecDepth 100000 in
theorem q_P_putRules : (Cond.code y_P_putRules b_P_putRules 4 none) ∈ TBG := tbm 401 rfl rfl
def w_P_putRules : List Cond := .code y_P_putRules b_P_putRules 4 none :: TBG
abbrev b_L_bar : ByteArray := method_7_code
def y_L_bar : MethodName := ⟨R_L, "bar", "(LRosterSolve;IIIZ)I"⟩
set_option maxRecDepth 100000 in
theorem q_L_bar : (Cond.codeWith y_L_bar b_L_bar 6 (some .int) [(0, 9, 12, 25)]) ∈ TBG := tbm 404 rfl rfl
def w_L_bar : List Cond := .codeWith y_L_bar b_L_bar 6 (some .int) [(0, 9, 12, 25)] :: TBG
abbrev b_R_bar : ByteArray := prog_1_method_6_code
def y_R_bar : MethodName := ⟨R_R, "bar", "(IIIZ)V"⟩
set_option maxRecDepth 100000 in
theorem q_R_bar : (Cond.code y_R_bar b_R_bar 5 none) ∈ TBG := tbm 408 rfl rfl
def w_R_bar : List Cond := .code y_R_bar b_R_bar 5 none :: TBG
abbrev b_R_refuseUnknownPerson : ByteArray := prog_1_method_21_code
def y_R_refuseUnknownPerson : MethodName := ⟨R_R, "refuseUnknownPerson", "(I)V"⟩
set_option maxRecDepth 100000 in
theorem q_R_refuseUnknownPerson : (Cond.code y_R_refuseUnknownPerson b_R_refuseUnknownPerson 2 none) ∈ TBG := tbm 412 rfl rfl
def w_R_refuseUnknownPerson : List Cond := .code y_R_refuseUnknownPerson b_R_refuseUnknownPerson 2 none :: TBG
abbrev b_L_wish : ByteArray := method_8_code
def y_L_wish : MethodName := ⟨R_L, "wish", "(LRosterSolve;IIIZI[J)I"⟩
set_option maxRecDepth 100000 in
theorem q_L_wish : (Cond.codeWith y_L_wish b_L_wish 8 (some .int) [(0, 16, 19, 25), (0, 16, 23, 13), (0, 16, 27, 39), (0, 16, 31, 19)]) ∈ TBG := tbm 416 rfl rfl
def w_L_wish : List Cond := .codeWith y_L_wish b_L_wish 8 (some .int) [(0, 16, 19, 25), (0, 16, 23, 13), (0, 16, 27, 39), (0, 16, 31, 19)] :: TBG
abbrev b_R_wish : ByteArray := prog_1_method_7_code
def y_R_wish : MethodName := ⟨R_R, "wish", "(IIIZI)I"⟩
set_option maxRecDepth 100000 in
theorem q_R_wish : (Cond.code y_R_wish b_R_wish 6 (some .int)) ∈ TBG := tbm 421 rfl rfl
def w_R_wish : List Cond := .code y_R_wish b_R_wish 6 (some .int) :: TBG
abbrev b_R_refuseFrozen : ByteArray := prog_1_method_23_code
def y_R_refuseFrozen : MethodName := ⟨R_R, "refuseFrozen", "(I)V"⟩
set_option maxRecDepth 100000 in
theorem q_R_refuseFrozen : (Cond.code y_R_refuseFrozen b_R_refuseFrozen 2 none) ∈ TBG := tbm 425 rfl rfl
def w_R_refuseFrozen : List Cond := .code y_R_refuseFrozen b_R_refuseFrozen 2 none :: TBG
abbrev b_P_addWish : ByteArray := prog_2_method_6_code
def y_P_addWish : MethodName := ⟨R_P, "addWish", "(IIZI)I"⟩
set_option maxRecDepth 100000 in
theorem q_P_addWish : (Cond.code y_P_addWish b_P_addWish 7 (some .int)) ∈ TBG := tbm 445 rfl rfl
def w_P_addWish : List Cond := .code y_P_addWish b_P_addWish 7 (some .int) :: TBG
abbrev b_L_freeze : ByteArray := method_9_code
def y_L_freeze : MethodName := ⟨R_L, "freeze", "(LRosterSolve;I)I"⟩
set_option maxRecDepth 100000 in
theorem q_L_freeze : (Cond.codeWith y_L_freeze b_L_freeze 3 (some .int) [(0, 5, 8, 13)]) ∈ TBG := tbm 448 rfl rfl
def w_L_freeze : List Cond := .codeWith y_L_freeze b_L_freeze 3 (some .int) [(0, 5, 8, 13)] :: TBG
abbrev b_R_freeze : ByteArray := prog_1_method_8_code
def y_R_freeze : MethodName := ⟨R_R, "freeze", "(I)V"⟩
set_option maxRecDepth 100000 in
theorem q_R_freeze : (Cond.code y_R_freeze b_R_freeze 2 none) ∈ TBG := tbm 452 rfl rfl
def w_R_freeze : List Cond := .code y_R_freeze b_R_freeze 2 none :: TBG
abbrev b_L_set : ByteArray := method_10_code
def y_L_set : MethodName := ⟨R_L, "set", "(LRosterSolve;III)I"⟩
set_option maxRecDepth 100000 in
theorem q_L_set : (Cond.codeWith y_L_set b_L_set 5 (some .int) [(0, 7, 10, 25), (0, 7, 14, 39)]) ∈ TBG := tbm 455 rfl rfl
def w_L_set : List Cond := .codeWith y_L_set b_L_set 5 (some .int) [(0, 7, 10, 25), (0, 7, 14, 39)] :: TBG
abbrev b_R_set : ByteArray := prog_1_method_9_code
def y_R_set : MethodName := ⟨R_R, "set", "(III)V"⟩
set_option maxRecDepth 100000 in
theorem q_R_set : (Cond.code y_R_set b_R_set 4 none) ∈ TBG := tbm 459 rfl rfl
def w_R_set : List Cond := .code y_R_set b_R_set 4 none :: TBG
abbrev b_L_solve : ByteArray := method_11_code
def y_L_solve : MethodName := ⟨R_L, "solve", "(LRosterSolve;I[J)I"⟩
set_option maxRecDepth 100000 in
theorem q_L_solve : (Cond.codeWith y_L_solve b_L_solve 4 (some .int) [(0, 9, 12, 13)]) ∈ TBG := tbm 462 rfl rfl
def w_L_solve : List Cond := .codeWith y_L_solve b_L_solve 4 (some .int) [(0, 9, 12, 13)] :: TBG
abbrev b_R_solve : ByteArray := prog_1_method_10_code
def y_R_solve : MethodName := ⟨R_R, "solve", "(I)I"⟩
set_option maxRecDepth 100000 in
theorem q_R_solve : (Cond.code y_R_solve b_R_solve 2 (some .int)) ∈ TBG := tbm 466 rfl rfl
def w_R_solve : List Cond := .code y_R_solve b_R_solve 2 (some .int) :: TBG
abbrev b_S_run : ByteArray := prog_3_method_2_code
def y_S_run : MethodName := ⟨R_S, "run", "([III)V"⟩
set_option maxRecDepth 100000 in
theorem q_S_run : (Cond.code y_S_run b_S_run 4 none) ∈ TBG := tbm 470 rfl rfl
def w_S_run : List Cond := .code y_S_run b_S_run 4 none :: TBG
abbrev b_S_takeOnlyRoster : ByteArray := prog_3_method_3_code
def y_S_takeOnlyRoster : MethodName := ⟨R_S, "takeOnlyRoster", "()V"⟩
set_option maxRecDepth 100000 in
theorem q_S_takeOnlyRoster : (Cond.code y_S_takeOnlyRoster b_S_takeOnlyRoster 1 none) ∈ TBG := tbm 475 rfl rfl
def w_S_takeOnlyRoster : List Cond := .code y_S_takeOnlyRoster b_S_takeOnlyRoster 1 none :: TBG
abbrev b_S_keepTrial : ByteArray := prog_3_method_10_code
def y_S_keepTrial : MethodName := ⟨R_S, "keepTrial", "(I)V"⟩
set_option maxRecDepth 100000 in
theorem q_S_keepTrial : (Cond.code y_S_keepTrial b_S_keepTrial 2 none) ∈ TBG := tbm 480 rfl rfl
def w_S_keepTrial : List Cond := .code y_S_keepTrial b_S_keepTrial 2 none :: TBG
abbrev b_S_goThrough : ByteArray := prog_3_method_4_code
def y_S_goThrough : MethodName := ⟨R_S, "goThrough", "([I)V"⟩
set_option maxRecDepth 100000 in
theorem q_S_goThrough : (Cond.code y_S_goThrough b_S_goThrough 7 none) ∈ TBG := tbm 484 rfl rfl
def w_S_goThrough : List Cond := .code y_S_goThrough b_S_goThrough 7 none :: TBG
abbrev b_S_open : ByteArray := prog_3_method_5_code
def y_S_open : MethodName := ⟨R_S, "open", "([III)V"⟩
set_option maxRecDepth 100000 in
theorem q_S_open : (Cond.code y_S_open b_S_open 6 none) ∈ TBG := tbm 488 rfl rfl
def w_S_open : List Cond := .code y_S_open b_S_open 6 none :: TBG
abbrev b_S_standsNext : ByteArray := prog_3_method_6_code
def y_S_standsNext : MethodName := ⟨R_S, "standsNext", "(II)Z"⟩
set_option maxRecDepth 100000 in
theorem q_S_standsNext : (Cond.code y_S_standsNext b_S_standsNext 5 (some .boolean)) ∈ TBG := tbm 494 rfl rfl
def w_S_standsNext : List Cond := .code y_S_standsNext b_S_standsNext 5 (some .boolean) :: TBG
abbrev b_S_keepsRules : ByteArray := prog_3_method_7_code
def y_S_keepsRules : MethodName := ⟨R_S, "keepsRules", "(III)Z"⟩
set_option maxRecDepth 100000 in
theorem q_S_keepsRules : (Cond.code y_S_keepsRules b_S_keepsRules 9 (some .boolean)) ∈ TBG := tbm 498 rfl rfl
def w_S_keepsRules : List Cond := .code y_S_keepsRules b_S_keepsRules 9 (some .boolean) :: TBG
abbrev b_S_staysBelowBest : ByteArray := prog_3_method_8_code
def y_S_staysBelowBest : MethodName := ⟨R_S, "staysBelowBest", "(III)Z"⟩
set_option maxRecDepth 100000 in
theorem q_S_staysBelowBest : (Cond.code y_S_staysBelowBest b_S_staysBelowBest 5 (some .boolean)) ∈ TBG := tbm 504 rfl rfl
def w_S_staysBelowBest : List Cond := .code y_S_staysBelowBest b_S_staysBelowBest 5 (some .boolean) :: TBG
abbrev b_S_unmetBefore : ByteArray := prog_3_method_9_code
def y_S_unmetBefore : MethodName := ⟨R_S, "unmetBefore", "(II)I"⟩
set_option maxRecDepth 100000 in
theorem q_S_unmetBefore : (Cond.code y_S_unmetBefore b_S_unmetBefore 3 (some .int)) ∈ TBG := tbm 508 rfl rfl
def w_S_unmetBefore : List Cond := .code y_S_unmetBefore b_S_unmetBefore 3 (some .int) :: TBG
abbrev b_L_solved : ByteArray := method_12_code
def y_L_solved : MethodName := ⟨R_L, "solved", "(LRosterSolve;I[J)I"⟩
set_option maxRecDepth 100000 in
theorem q_L_solved : (Cond.codeWith y_L_solved b_L_solved 4 (some .int) [(0, 9, 12, 25)]) ∈ TBG := tbm 512 rfl rfl
def w_L_solved : List Cond := .codeWith y_L_solved b_L_solved 4 (some .int) [(0, 9, 12, 25)] :: TBG
abbrev b_R_solved : ByteArray := prog_1_method_11_code
def y_R_solved : MethodName := ⟨R_R, "solved", "(I)I"⟩
set_option maxRecDepth 100000 in
theorem q_R_solved : (Cond.code y_R_solved b_R_solved 2 (some .int)) ∈ TBG := tbm 516 rfl rfl
def w_R_solved : List Cond := .code y_R_solved b_R_solved 2 (some .int) :: TBG
abbrev b_L_swap : ByteArray := method_13_code
def y_L_swap : MethodName := ⟨R_L, "swap", "(LRosterSolve;III)I"⟩
set_option maxRecDepth 100000 in
theorem q_L_swap : (Cond.codeWith y_L_swap b_L_swap 5 (some .int) [(0, 7, 10, 25), (0, 7, 14, 39)]) ∈ TBG := tbm 519 rfl rfl
def w_L_swap : List Cond := .codeWith y_L_swap b_L_swap 5 (some .int) [(0, 7, 10, 25), (0, 7, 14, 39)] :: TBG
abbrev b_R_swap : ByteArray := prog_1_method_12_code
def y_R_swap : MethodName := ⟨R_R, "swap", "(III)V"⟩
set_option maxRecDepth 100000 in
theorem q_R_swap : (Cond.code y_R_swap b_R_swap 4 none) ∈ TBG := tbm 523 rfl rfl
def w_R_swap : List Cond := .code y_R_swap b_R_swap 4 none :: TBG
abbrev b_R_refuseSame : ByteArray := prog_1_method_25_code
def y_R_refuseSame : MethodName := ⟨R_R, "refuseSame", "(II)V"⟩
set_option maxRecDepth 100000 in
theorem q_R_refuseSame : (Cond.code y_R_refuseSame b_R_refuseSame 2 none) ∈ TBG := tbm 526 rfl rfl
def w_R_refuseSame : List Cond := .code y_R_refuseSame b_R_refuseSame 2 none :: TBG
abbrev b_R_exchange : ByteArray := prog_1_method_20_code
def y_R_exchange : MethodName := ⟨R_R, "exchange", "(II)V"⟩
set_option maxRecDepth 100000 in
theorem q_R_exchange : (Cond.code y_R_exchange b_R_exchange 4 none) ∈ TBG := tbm 531 rfl rfl
def w_R_exchange : List Cond := .code y_R_exchange b_R_exchange 4 none :: TBG
abbrev b_L_shift : ByteArray := method_14_code
def y_L_shift : MethodName := ⟨R_L, "shift", "(LRosterSolve;II[J)I"⟩
set_option maxRecDepth 100000 in
theorem q_L_shift : (Cond.codeWith y_L_shift b_L_shift 5 (some .int) [(0, 10, 13, 25)]) ∈ TBG := tbm 535 rfl rfl
def w_L_shift : List Cond := .codeWith y_L_shift b_L_shift 5 (some .int) [(0, 10, 13, 25)] :: TBG
abbrev b_R_shift : ByteArray := prog_1_method_13_code
def y_R_shift : MethodName := ⟨R_R, "shift", "(II)I"⟩
set_option maxRecDepth 100000 in
theorem q_R_shift : (Cond.code y_R_shift b_R_shift 3 (some .int)) ∈ TBG := tbm 539 rfl rfl
def w_R_shift : List Cond := .code y_R_shift b_R_shift 3 (some .int) :: TBG
abbrev b_L_share : ByteArray := method_15_code
def y_L_share : MethodName := ⟨R_L, "share", "(LRosterSolve;I[J)I"⟩
set_option maxRecDepth 100000 in
theorem q_L_share : (Cond.codeWith y_L_share b_L_share 4 (some .int) [(0, 9, 12, 25), (0, 9, 15, 63)]) ∈ TBG := tbm 542 rfl rfl
def w_L_share : List Cond := .codeWith y_L_share b_L_share 4 (some .int) [(0, 9, 12, 25), (0, 9, 15, 63)] :: TBG
abbrev b_R_share : ByteArray := prog_1_method_17_code
def y_R_share : MethodName := ⟨R_R, "share", "(I)I"⟩
set_option maxRecDepth 100000 in
theorem q_R_share : (Cond.code y_R_share b_R_share 3 (some .int)) ∈ TBG := tbm 547 rfl rfl
def w_R_share : List Cond := .code y_R_share b_R_share 3 (some .int) :: TBG
abbrev b_L_count : ByteArray := method_16_code
def y_L_count : MethodName := ⟨R_L, "count", "(LRosterSolve;I[J)I"⟩
set_option maxRecDepth 100000 in
theorem q_L_count : (Cond.codeWith y_L_count b_L_count 4 (some .int) [(0, 9, 12, 25)]) ∈ TBG := tbm 568 rfl rfl
def w_L_count : List Cond := .codeWith y_L_count b_L_count 4 (some .int) [(0, 9, 12, 25)] :: TBG
abbrev b_R_count : ByteArray := prog_1_method_19_code
def y_R_count : MethodName := ⟨R_R, "count", "(I)I"⟩
set_option maxRecDepth 100000 in
theorem q_R_count : (Cond.code y_R_count b_R_count 2 (some .int)) ∈ TBG := tbm 572 rfl rfl
def w_R_count : List Cond := .code y_R_count b_R_count 2 (some .int) :: TBG
abbrev b_M_init : ByteArray := prog_5_method_1_code
def y_M_init : MethodName := ⟨R_M, "<init>", "()V"⟩
set_option maxRecDepth 100000 in
theorem q_M_init : (Cond.code y_M_init b_M_init 1 none) ∈ TBG := tbm 577 rfl rfl
def w_M_init : List Cond := .code y_M_init b_M_init 1 none :: TBG
abbrev b_M_thrown : ByteArray := prog_5_method_2_code
def y_M_thrown : MethodName := ⟨R_M, "thrown", "()I"⟩
set_option maxRecDepth 100000 in
theorem q_M_thrown : (Cond.code y_M_thrown b_M_thrown 1 (some .int)) ∈ TBG := tbm 661 rfl rfl
def w_M_thrown : List Cond := .code y_M_thrown b_M_thrown 1 (some .int) :: TBG
abbrev b_M_days : ByteArray := prog_5_method_7_code
def y_M_days : MethodName := ⟨R_M, "days", "(I)V"⟩
set_option maxRecDepth 100000 in
theorem q_M_days : (Cond.code y_M_days b_M_days 3 none) ∈ TBG := tbm 665 rfl rfl
def w_M_days : List Cond := .code y_M_days b_M_days 3 none :: TBG
abbrev b_M_in : ByteArray := prog_5_method_4_code
def y_M_in : MethodName := ⟨R_M, "in", "(III)Z"⟩
set_option maxRecDepth 100000 in
theorem q_M_in : (Cond.code y_M_in b_M_in 3 (some .boolean)) ∈ TBG := tbm 668 rfl rfl
def w_M_in : List Cond := .code y_M_in b_M_in 3 (some .boolean) :: TBG
abbrev b_M_throwing : ByteArray := prog_5_method_3_code
def y_M_throwing : MethodName := ⟨R_M, "throwing", "(ZZZZ)Z"⟩
set_option maxRecDepth 100000 in
theorem q_M_throwing : (Cond.code y_M_throwing b_M_throwing 5 (some .boolean)) ∈ TBG := tbm 672 rfl rfl
def w_M_throwing : List Cond := .code y_M_throwing b_M_throwing 5 (some .boolean) :: TBG
abbrev b_M_person : ByteArray := prog_5_method_8_code
def y_M_person : MethodName := ⟨R_M, "person", "(II)I"⟩
set_option maxRecDepth 100000 in
theorem q_M_person : (Cond.code y_M_person b_M_person 3 (some .int)) ∈ TBG := tbm 676 rfl rfl
def w_M_person : List Cond := .code y_M_person b_M_person 3 (some .int) :: TBG
abbrev b_M_need : ByteArray := prog_5_method_9_code
def y_M_need : MethodName := ⟨R_M, "need", "(IIII)V"⟩
set_option maxRecDepth 100000 in
theorem q_M_need : (Cond.code y_M_need b_M_need 5 none) ∈ TBG := tbm 680 rfl rfl
def w_M_need : List Cond := .code y_M_need b_M_need 5 none :: TBG
abbrev b_M_isDay : ByteArray := prog_5_method_6_code
def y_M_isDay : MethodName := ⟨R_M, "isDay", "(I)Z"⟩
set_option maxRecDepth 100000 in
theorem q_M_isDay : (Cond.code y_M_isDay b_M_isDay 2 (some .boolean)) ∈ TBG := tbm 684 rfl rfl
def w_M_isDay : List Cond := .code y_M_isDay b_M_isDay 2 (some .boolean) :: TBG
abbrev b_M_rules : ByteArray := prog_5_method_10_code
def y_M_rules : MethodName := ⟨R_M, "rules", "(III)V"⟩
set_option maxRecDepth 100000 in
theorem q_M_rules : (Cond.code y_M_rules b_M_rules 4 none) ∈ TBG := tbm 688 rfl rfl
def w_M_rules : List Cond := .code y_M_rules b_M_rules 4 none :: TBG
abbrev b_M_bar : ByteArray := prog_5_method_11_code
def y_M_bar : MethodName := ⟨R_M, "bar", "(IIIZ)V"⟩
set_option maxRecDepth 100000 in
theorem q_M_bar : (Cond.code y_M_bar b_M_bar 5 none) ∈ TBG := tbm 692 rfl rfl
def w_M_bar : List Cond := .code y_M_bar b_M_bar 5 none :: TBG
abbrev b_M_isPerson : ByteArray := prog_5_method_5_code
def y_M_isPerson : MethodName := ⟨R_M, "isPerson", "(I)Z"⟩
set_option maxRecDepth 100000 in
theorem q_M_isPerson : (Cond.code y_M_isPerson b_M_isPerson 2 (some .boolean)) ∈ TBG := tbm 696 rfl rfl
def w_M_isPerson : List Cond := .code y_M_isPerson b_M_isPerson 2 (some .boolean) :: TBG
abbrev b_M_wish : ByteArray := prog_5_method_12_code
def y_M_wish : MethodName := ⟨R_M, "wish", "(IIIZI)I"⟩
set_option maxRecDepth 100000 in
theorem q_M_wish : (Cond.code y_M_wish b_M_wish 7 (some .int)) ∈ TBG := tbm 700 rfl rfl
def w_M_wish : List Cond := .code y_M_wish b_M_wish 7 (some .int) :: TBG
abbrev b_M_freeze : ByteArray := prog_5_method_13_code
def y_M_freeze : MethodName := ⟨R_M, "freeze", "(I)V"⟩
set_option maxRecDepth 100000 in
theorem q_M_freeze : (Cond.code y_M_freeze b_M_freeze 2 none) ∈ TBG := tbm 704 rfl rfl
def w_M_freeze : List Cond := .code y_M_freeze b_M_freeze 2 none :: TBG
abbrev b_M_set : ByteArray := prog_5_method_14_code
def y_M_set : MethodName := ⟨R_M, "set", "(III)V"⟩
set_option maxRecDepth 100000 in
theorem q_M_set : (Cond.code y_M_set b_M_set 5 none) ∈ TBG := tbm 708 rfl rfl
def w_M_set : List Cond := .code y_M_set b_M_set 5 none :: TBG
abbrev b_M_solve : ByteArray := prog_5_method_25_code
def y_M_solve : MethodName := ⟨R_M, "solve", "(I)I"⟩
set_option maxRecDepth 100000 in
theorem q_M_solve : (Cond.code y_M_solve b_M_solve 4 (some .int)) ∈ TBG := tbm 712 rfl rfl
def w_M_solve : List Cond := .code y_M_solve b_M_solve 4 (some .int) :: TBG
abbrev b_M_areMet : ByteArray := prog_5_method_20_code
def y_M_areMet : MethodName := ⟨R_M, "areMet", "([II)Z"⟩
set_option maxRecDepth 100000 in
theorem q_M_areMet : (Cond.code y_M_areMet b_M_areMet 3 (some .boolean)) ∈ TBG := tbm 716 rfl rfl
def w_M_areMet : List Cond := .code y_M_areMet b_M_areMet 3 (some .boolean) :: TBG
abbrev b_M_isMet : ByteArray := prog_5_method_19_code
def y_M_isMet : MethodName := ⟨R_M, "isMet", "([III)Z"⟩
set_option maxRecDepth 100000 in
theorem q_M_isMet : (Cond.code y_M_isMet b_M_isMet 7 (some .boolean)) ∈ TBG := tbm 720 rfl rfl
def w_M_isMet : List Cond := .code y_M_isMet b_M_isMet 7 (some .boolean) :: TBG
abbrev b_M_search : ByteArray := prog_5_method_24_code
def y_M_search : MethodName := ⟨R_M, "search", "(I)I"⟩
set_option maxRecDepth 100000 in
theorem q_M_search : (Cond.code y_M_search b_M_search 10 (some .int)) ∈ TBG := tbm 724 rfl rfl
def w_M_search : List Cond := .code y_M_search b_M_search 10 (some .int) :: TBG
abbrev b_M_givesUp : ByteArray := prog_5_method_23_code
def y_M_givesUp : MethodName := ⟨R_M, "givesUp", "(II)Z"⟩
set_option maxRecDepth 100000 in
theorem q_M_givesUp : (Cond.code y_M_givesUp b_M_givesUp 6 (some .boolean)) ∈ TBG := tbm 728 rfl rfl
def w_M_givesUp : List Cond := .code y_M_givesUp b_M_givesUp 6 (some .boolean) :: TBG
abbrev b_M_isTired : ByteArray := prog_5_method_16_code
def y_M_isTired : MethodName := ⟨R_M, "isTired", "([III)Z"⟩
set_option maxRecDepth 100000 in
theorem q_M_isTired : (Cond.code y_M_isTired b_M_isTired 6 (some .boolean)) ∈ TBG := tbm 732 rfl rfl
def w_M_isTired : List Cond := .code y_M_isTired b_M_isTired 6 (some .boolean) :: TBG
abbrev b_M_between : ByteArray := prog_5_method_15_code
def y_M_between : MethodName := ⟨R_M, "between", "(II)I"⟩
set_option maxRecDepth 100000 in
theorem q_M_between : (Cond.code y_M_between b_M_between 2 (some .int)) ∈ TBG := tbm 735 rfl rfl
def w_M_between : List Cond := .code y_M_between b_M_between 2 (some .int) :: TBG
abbrev b_M_many : ByteArray := prog_5_method_17_code
def y_M_many : MethodName := ⟨R_M, "many", "([III)I"⟩
set_option maxRecDepth 100000 in
theorem q_M_many : (Cond.code y_M_many b_M_many 5 (some .int)) ∈ TBG := tbm 738 rfl rfl
def w_M_many : List Cond := .code y_M_many b_M_many 5 (some .int) :: TBG
abbrev b_M_nightsTo : ByteArray := prog_5_method_18_code
def y_M_nightsTo : MethodName := ⟨R_M, "nightsTo", "([III)I"⟩
set_option maxRecDepth 100000 in
theorem q_M_nightsTo : (Cond.code y_M_nightsTo b_M_nightsTo 5 (some .int)) ∈ TBG := tbm 741 rfl rfl
def w_M_nightsTo : List Cond := .code y_M_nightsTo b_M_nightsTo 5 (some .int) :: TBG
abbrev b_M_unmetTo : ByteArray := prog_5_method_21_code
def y_M_unmetTo : MethodName := ⟨R_M, "unmetTo", "([II)I"⟩
set_option maxRecDepth 100000 in
theorem q_M_unmetTo : (Cond.code y_M_unmetTo b_M_unmetTo 6 (some .int)) ∈ TBG := tbm 745 rfl rfl
def w_M_unmetTo : List Cond := .code y_M_unmetTo b_M_unmetTo 6 (some .int) :: TBG
abbrev b_M_solved : ByteArray := prog_5_method_26_code
def y_M_solved : MethodName := ⟨R_M, "solved", "(I)I"⟩
set_option maxRecDepth 100000 in
theorem q_M_solved : (Cond.code y_M_solved b_M_solved 2 (some .int)) ∈ TBG := tbm 749 rfl rfl
def w_M_solved : List Cond := .code y_M_solved b_M_solved 2 (some .int) :: TBG
abbrev b_M_swap : ByteArray := prog_5_method_27_code
def y_M_swap : MethodName := ⟨R_M, "swap", "(III)V"⟩
set_option maxRecDepth 100000 in
theorem q_M_swap : (Cond.code y_M_swap b_M_swap 7 none) ∈ TBG := tbm 753 rfl rfl
def w_M_swap : List Cond := .code y_M_swap b_M_swap 7 none :: TBG
abbrev b_M_wrongWith : ByteArray := prog_5_method_22_code
def y_M_wrongWith : MethodName := ⟨R_M, "wrongWith", "([I)I"⟩
set_option maxRecDepth 100000 in
theorem q_M_wrongWith : (Cond.code y_M_wrongWith b_M_wrongWith 8 (some .int)) ∈ TBG := tbm 757 rfl rfl
def w_M_wrongWith : List Cond := .code y_M_wrongWith b_M_wrongWith 8 (some .int) :: TBG
abbrev b_M_shift : ByteArray := prog_5_method_28_code
def y_M_shift : MethodName := ⟨R_M, "shift", "(II)I"⟩
set_option maxRecDepth 100000 in
theorem q_M_shift : (Cond.code y_M_shift b_M_shift 3 (some .int)) ∈ TBG := tbm 761 rfl rfl
def w_M_shift : List Cond := .code y_M_shift b_M_shift 3 (some .int) :: TBG
abbrev b_M_wrong : ByteArray := prog_5_method_29_code
def y_M_wrong : MethodName := ⟨R_M, "wrong", "()I"⟩
set_option maxRecDepth 100000 in
theorem q_M_wrong : (Cond.code y_M_wrong b_M_wrong 1 (some .int)) ∈ TBG := tbm 765 rfl rfl
def w_M_wrong : List Cond := .code y_M_wrong b_M_wrong 1 (some .int) :: TBG
abbrev b_M_unmet : ByteArray := prog_5_method_30_code
def y_M_unmet : MethodName := ⟨R_M, "unmet", "()I"⟩
set_option maxRecDepth 100000 in
theorem q_M_unmet : (Cond.code y_M_unmet b_M_unmet 1 (some .int)) ∈ TBG := tbm 769 rfl rfl
def w_M_unmet : List Cond := .code y_M_unmet b_M_unmet 1 (some .int) :: TBG
abbrev b_M_cost : ByteArray := prog_5_method_32_code
def y_M_cost : MethodName := ⟨R_M, "cost", "()I"⟩
set_option maxRecDepth 100000 in
theorem q_M_cost : (Cond.code y_M_cost b_M_cost 3 (some .int)) ∈ TBG := tbm 773 rfl rfl
def w_M_cost : List Cond := .code y_M_cost b_M_cost 3 (some .int) :: TBG
abbrev b_M_costOf : ByteArray := prog_5_method_31_code
def y_M_costOf : MethodName := ⟨R_M, "costOf", "(I)I"⟩
set_option maxRecDepth 100000 in
theorem q_M_costOf : (Cond.code y_M_costOf b_M_costOf 2 (some .int)) ∈ TBG := tbm 777 rfl rfl
def w_M_costOf : List Cond := .code y_M_costOf b_M_costOf 2 (some .int) :: TBG
abbrev b_M_share : ByteArray := prog_5_method_33_code
def y_M_share : MethodName := ⟨R_M, "share", "(I)I"⟩
set_option maxRecDepth 100000 in
theorem q_M_share : (Cond.code y_M_share b_M_share 4 (some .int)) ∈ TBG := tbm 781 rfl rfl
def w_M_share : List Cond := .code y_M_share b_M_share 4 (some .int) :: TBG
abbrev b_M_publish : ByteArray := prog_5_method_34_code
def y_M_publish : MethodName := ⟨R_M, "publish", "()I"⟩
set_option maxRecDepth 100000 in
theorem q_M_publish : (Cond.code y_M_publish b_M_publish 4 (some .int)) ∈ TBG := tbm 787 rfl rfl
def w_M_publish : List Cond := .code y_M_publish b_M_publish 4 (some .int) :: TBG
abbrev b_M_count : ByteArray := prog_5_method_35_code
def y_M_count : MethodName := ⟨R_M, "count", "(I)I"⟩
set_option maxRecDepth 100000 in
theorem q_M_count : (Cond.code y_M_count b_M_count 2 (some .int)) ∈ TBG := tbm 791 rfl rfl
def w_M_count : List Cond := .code y_M_count b_M_count 2 (some .int) :: TBG
abbrev b_L_law : ByteArray := code
def y_L_law : MethodName := ⟨R_L, "law", "([I)Z"⟩
end
section
theorem sel_P_firstFault : Cond.selects R_P y_P_firstFault y_P_firstFault ∈ TBG := tbs 0 rfl
theorem sel_P_firstNeedFault : Cond.selects R_P y_P_firstNeedFault y_P_firstNeedFault ∈ TBG := tbs 1 rfl
theorem sel_P_firstNeedUnmet : Cond.selects R_P y_P_firstNeedUnmet y_P_firstNeedUnmet ∈ TBG := tbs 2 rfl
theorem sel_P_meetsNeed : Cond.selects R_P y_P_meetsNeed y_P_meetsNeed ∈ TBG := tbs 3 rfl
theorem sel_P_firstRestFault : Cond.selects R_P y_P_firstRestFault y_P_firstRestFault ∈ TBG := tbs 4 rfl
theorem sel_P_breaksRest : Cond.selects R_P y_P_breaksRest y_P_breaksRest ∈ TBG := tbs 5 rfl
theorem sel_P_firstMostFault : Cond.selects R_P y_P_firstMostFault y_P_firstMostFault ∈ TBG := tbs 6 rfl
theorem sel_P_firstNightsFault : Cond.selects R_P y_P_firstNightsFault y_P_firstNightsFault ∈ TBG := tbs 7 rfl
theorem sel_P_firstBarFault : Cond.selects R_P y_P_firstBarFault y_P_firstBarFault ∈ TBG := tbs 8 rfl
theorem sel_P_unmetSum : Cond.selects R_P y_P_unmetSum y_P_unmetSum ∈ TBG := tbs 9 rfl
theorem sel_P_costOfAll : Cond.selects R_P y_P_costOfAll y_P_costOfAll ∈ TBG := tbs 10 rfl
theorem sel_P_costOfOne : Cond.selects R_P y_P_costOfOne y_P_costOfOne ∈ TBG := tbs 11 rfl
theorem sel_P_startDays : Cond.selects R_P y_P_startDays y_P_startDays ∈ TBG := tbs 13 rfl
theorem sel_P_addPerson : Cond.selects R_P y_P_addPerson y_P_addPerson ∈ TBG := tbs 14 rfl
theorem sel_R_refuseUnknownDay : Cond.selects R_R y_R_refuseUnknownDay y_R_refuseUnknownDay ∈ TBG := tbs 15 rfl
theorem sel_P_putNeed : Cond.selects R_P y_P_putNeed y_P_putNeed ∈ TBG := tbs 16 rfl
theorem sel_P_putRules : Cond.selects R_P y_P_putRules y_P_putRules ∈ TBG := tbs 17 rfl
theorem sel_R_refuseUnknownPerson : Cond.selects R_R y_R_refuseUnknownPerson y_R_refuseUnknownPerson ∈ TBG := tbs 18 rfl
theorem sel_R_refuseFrozen : Cond.selects R_R y_R_refuseFrozen y_R_refuseFrozen ∈ TBG := tbs 19 rfl
theorem sel_P_addWish : Cond.selects R_P y_P_addWish y_P_addWish ∈ TBG := tbs 20 rfl
theorem sel_S_run : Cond.selects R_S y_S_run y_S_run ∈ TBG := tbs 21 rfl
theorem sel_S_takeOnlyRoster : Cond.selects R_S y_S_takeOnlyRoster y_S_takeOnlyRoster ∈ TBG := tbs 22 rfl
theorem sel_S_keepTrial : Cond.selects R_S y_S_keepTrial y_S_keepTrial ∈ TBG := tbs 23 rfl
theorem sel_S_goThrough : Cond.selects R_S y_S_goThrough y_S_goThrough ∈ TBG := tbs 24 rfl
theorem sel_S_open : Cond.selects R_S y_S_open y_S_open ∈ TBG := tbs 25 rfl
theorem sel_S_standsNext : Cond.selects R_S y_S_standsNext y_S_standsNext ∈ TBG := tbs 26 rfl
theorem sel_S_keepsRules : Cond.selects R_S y_S_keepsRules y_S_keepsRules ∈ TBG := tbs 27 rfl
theorem sel_S_staysBelowBest : Cond.selects R_S y_S_staysBelowBest y_S_staysBelowBest ∈ TBG := tbs 28 rfl
theorem sel_S_unmetBefore : Cond.selects R_S y_S_unmetBefore y_S_unmetBefore ∈ TBG := tbs 29 rfl
theorem sel_R_exchange : Cond.selects R_R y_R_exchange y_R_exchange ∈ TBG := tbs 30 rfl
theorem sel_M_throwing : Cond.selects R_M y_M_throwing y_M_throwing ∈ TBG := tbs 31 rfl
theorem sel_M_isDay : Cond.selects R_M y_M_isDay y_M_isDay ∈ TBG := tbs 32 rfl
theorem sel_M_isPerson : Cond.selects R_M y_M_isPerson y_M_isPerson ∈ TBG := tbs 33 rfl
theorem sel_M_areMet : Cond.selects R_M y_M_areMet y_M_areMet ∈ TBG := tbs 34 rfl
theorem sel_M_isMet : Cond.selects R_M y_M_isMet y_M_isMet ∈ TBG := tbs 35 rfl
theorem sel_M_search : Cond.selects R_M y_M_search y_M_search ∈ TBG := tbs 36 rfl
theorem sel_M_givesUp : Cond.selects R_M y_M_givesUp y_M_givesUp ∈ TBG := tbs 37 rfl
theorem sel_M_isTired : Cond.selects R_M y_M_isTired y_M_isTired ∈ TBG := tbs 38 rfl
theorem sel_M_unmetTo : Cond.selects R_M y_M_unmetTo y_M_unmetTo ∈ TBG := tbs 39 rfl
theorem sel_M_wrongWith : Cond.selects R_M y_M_wrongWith y_M_wrongWith ∈ TBG := tbs 40 rfl
theorem sel_M_costOf : Cond.selects R_M y_M_costOf y_M_costOf ∈ TBG := tbs 41 rfl
set_option maxRecDepth 100000 in
theorem q0 : Cond.initialized "RosterSolveLaw" ∈ TBG := tbm 0 rfl rfl
set_option maxRecDepth 100000 in
theorem q1 : Cond.initialized "RosterSolve" ∈ TBG := tbm 1 rfl rfl
set_option maxRecDepth 100000 in
theorem q2 : Cond.initialized "RosterSolve$Plan" ∈ TBG := tbm 2 rfl rfl
set_option maxRecDepth 100000 in
theorem q3 : Cond.initialized "RosterSolve$Search" ∈ TBG := tbm 3 rfl rfl
set_option maxRecDepth 100000 in
theorem q4 : Cond.initialized "RosterSolveModel" ∈ TBG := tbm 4 rfl rfl
set_option maxRecDepth 100000 in
theorem q5 : Cond.initialized "java/lang/Throwable" ∈ TBG := tbm 5 rfl rfl
set_option maxRecDepth 100000 in
theorem q6 : Cond.initialized "java/lang/Exception" ∈ TBG := tbm 6 rfl rfl
set_option maxRecDepth 100000 in
theorem q7 : Cond.initialized "java/lang/RuntimeException" ∈ TBG := tbm 7 rfl rfl
set_option maxRecDepth 100000 in
theorem q8 : Cond.initialized "java/lang/IndexOutOfBoundsException" ∈ TBG := tbm 8 rfl rfl
set_option maxRecDepth 100000 in
theorem q9 : Cond.initialized "java/lang/UnsupportedOperationException" ∈ TBG := tbm 9 rfl rfl
set_option maxRecDepth 100000 in
theorem q10 : Cond.initialized "java/lang/IllegalArgumentException" ∈ TBG := tbm 10 rfl rfl
set_option maxRecDepth 100000 in
theorem q11 : Cond.initialized "java/lang/IllegalStateException" ∈ TBG := tbm 11 rfl rfl
set_option maxRecDepth 100000 in
theorem q12 : Cond.initialized "java/lang/System" ∈ TBG := tbm 12 rfl rfl
set_option maxRecDepth 100000 in
theorem q13 : Cond.initialized "java/lang/ArithmeticException" ∈ TBG := tbm 13 rfl rfl
set_option maxRecDepth 100000 in
theorem q14 : Cond.classLink "RosterSolveLaw" 8 "RosterSolve" ∈ TBG := tbm 14 rfl rfl
set_option maxRecDepth 100000 in
theorem q15 : Cond.instantiable "RosterSolve" 6 ∈ TBG := tbm 15 rfl rfl
set_option maxRecDepth 100000 in
theorem q16 : Cond.methodLink "RosterSolveLaw" 68 y_R_init ∈ TBG := tbm 16 rfl rfl
set_option maxRecDepth 100000 in
theorem q17 : Cond.instanceMethod y_R_init ∈ TBG := tbm 17 rfl rfl
set_option maxRecDepth 100000 in
theorem q19 : Cond.methodLink "RosterSolve" 3 objectInit ∈ TBG := tbm 19 rfl rfl
set_option maxRecDepth 100000 in
theorem q20 : Cond.instanceMethod objectInit ∈ TBG := tbm 20 rfl rfl
set_option maxRecDepth 100000 in
theorem q22 : Cond.classLink "RosterSolve" 9 "RosterSolve$Plan" ∈ TBG := tbm 22 rfl rfl
set_option maxRecDepth 100000 in
theorem q23 : Cond.instantiable "RosterSolve$Plan" 12 ∈ TBG := tbm 23 rfl rfl
set_option maxRecDepth 100000 in
theorem q24 : Cond.methodLinkNest "RosterSolve" 11 y_P_init "RosterSolve" ∈ tables_1 := List.mem_of_getElem? (i := 24) rfl
set_option maxRecDepth 100000 in
theorem q25 : Cond.instanceMethod y_P_init ∈ TBG := tbm 25 rfl rfl
set_option maxRecDepth 100000 in
theorem q27 : Cond.methodLink "RosterSolve$Plan" 3 objectInit ∈ TBG := tbm 27 rfl rfl
set_option maxRecDepth 100000 in
theorem q28 : Cond.fieldLink "RosterSolve$Plan" 9 "RosterSolve$Plan" "persons" "I" ∈ TBG := tbm 28 rfl rfl
set_option maxRecDepth 100000 in
theorem q29 : Cond.fieldLinkNest "RosterSolve$Search" 66 "RosterSolve$Plan" "persons" "I" "RosterSolve" ∈ tables_1 := List.mem_of_getElem? (i := 29) rfl
set_option maxRecDepth 100000 in
theorem q30 : Cond.fieldLinkNest "RosterSolve" 51 "RosterSolve$Plan" "persons" "I" "RosterSolve" ∈ tables_1 := List.mem_of_getElem? (i := 30) rfl
set_option maxRecDepth 100000 in
theorem q31 : Cond.fieldLink "RosterSolve$Plan" 15 "RosterSolve$Plan" "days" "I" ∈ TBG := tbm 31 rfl rfl
set_option maxRecDepth 100000 in
theorem q32 : Cond.fieldLinkNest "RosterSolve$Search" 71 "RosterSolve$Plan" "days" "I" "RosterSolve" ∈ tables_1 := List.mem_of_getElem? (i := 32) rfl
set_option maxRecDepth 100000 in
theorem q33 : Cond.fieldLinkNest "RosterSolve" 96 "RosterSolve$Plan" "days" "I" "RosterSolve" ∈ tables_1 := List.mem_of_getElem? (i := 33) rfl
set_option maxRecDepth 100000 in
theorem q34 : Cond.fieldLink "RosterSolve$Plan" 18 "RosterSolve$Plan" "rest" "I" ∈ TBG := tbm 34 rfl rfl
set_option maxRecDepth 100000 in
theorem q35 : Cond.fieldLink "RosterSolve$Plan" 21 "RosterSolve$Plan" "most" "I" ∈ TBG := tbm 35 rfl rfl
set_option maxRecDepth 100000 in
theorem q36 : Cond.fieldLinkNest "RosterSolve$Search" 121 "RosterSolve$Plan" "most" "I" "RosterSolve" ∈ tables_1 := List.mem_of_getElem? (i := 36) rfl
set_option maxRecDepth 100000 in
theorem q37 : Cond.fieldLink "RosterSolve$Plan" 24 "RosterSolve$Plan" "nights" "I" ∈ TBG := tbm 37 rfl rfl
set_option maxRecDepth 100000 in
theorem q38 : Cond.fieldLinkNest "RosterSolve$Search" 124 "RosterSolve$Plan" "nights" "I" "RosterSolve" ∈ tables_1 := List.mem_of_getElem? (i := 38) rfl
set_option maxRecDepth 100000 in
theorem q39 : Cond.fieldLink "RosterSolve$Plan" 27 "RosterSolve$Plan" "wishes" "I" ∈ TBG := tbm 39 rfl rfl
set_option maxRecDepth 100000 in
theorem q40 : Cond.fieldLinkNest "RosterSolve" 89 "RosterSolve$Plan" "wishes" "I" "RosterSolve" ∈ tables_1 := List.mem_of_getElem? (i := 40) rfl
set_option maxRecDepth 100000 in
theorem q41 : Cond.fieldLink "RosterSolve$Plan" 30 "RosterSolve$Plan" "skills" "[I" ∈ TBG := tbm 41 rfl rfl
set_option maxRecDepth 100000 in
theorem q42 : Cond.fieldLink "RosterSolve$Plan" 34 "RosterSolve$Plan" "rates" "[I" ∈ TBG := tbm 42 rfl rfl
set_option maxRecDepth 100000 in
theorem q43 : Cond.fieldLink "RosterSolve$Plan" 37 "RosterSolve$Plan" "needPersons" "[I" ∈ TBG := tbm 43 rfl rfl
set_option maxRecDepth 100000 in
theorem q44 : Cond.fieldLink "RosterSolve$Plan" 40 "RosterSolve$Plan" "needSkills" "[I" ∈ TBG := tbm 44 rfl rfl
set_option maxRecDepth 100000 in
theorem q45 : Cond.fieldLink "RosterSolve$Plan" 43 "RosterSolve$Plan" "barred" "[Z" ∈ TBG := tbm 45 rfl rfl
set_option maxRecDepth 100000 in
theorem q46 : Cond.fieldLinkNest "RosterSolve" 78 "RosterSolve$Plan" "barred" "[Z" "RosterSolve" ∈ tables_1 := List.mem_of_getElem? (i := 46) rfl
set_option maxRecDepth 100000 in
theorem q47 : Cond.fieldLinkNest "RosterSolve$Search" 106 "RosterSolve$Plan" "barred" "[Z" "RosterSolve" ∈ tables_1 := List.mem_of_getElem? (i := 47) rfl
set_option maxRecDepth 100000 in
theorem q48 : Cond.fieldLink "RosterSolve$Plan" 47 "RosterSolve$Plan" "missed" "[I" ∈ TBG := tbm 48 rfl rfl
set_option maxRecDepth 100000 in
theorem q49 : Cond.fieldLinkNest "RosterSolve$Search" 133 "RosterSolve$Plan" "missed" "[I" "RosterSolve" ∈ tables_1 := List.mem_of_getElem? (i := 49) rfl
set_option maxRecDepth 100000 in
theorem q75 : Cond.arrayClass .int ∈ TBG := tbm 75 rfl rfl
set_option maxRecDepth 100000 in
theorem q76 : Cond.arrayClass .boolean ∈ TBG := tbm 76 rfl rfl
set_option maxRecDepth 100000 in
theorem q77 : Cond.classLink "RosterSolve" 16 "RosterSolve$Search" ∈ TBG := tbm 77 rfl rfl
set_option maxRecDepth 100000 in
theorem q78 : Cond.instantiable "RosterSolve$Search" 15 ∈ TBG := tbm 78 rfl rfl
set_option maxRecDepth 100000 in
theorem q79 : Cond.methodLinkNest "RosterSolve" 18 y_S_init "RosterSolve" ∈ tables_1 := List.mem_of_getElem? (i := 79) rfl
set_option maxRecDepth 100000 in
theorem q80 : Cond.instanceMethod y_S_init ∈ TBG := tbm 80 rfl rfl
set_option maxRecDepth 100000 in
theorem q82 : Cond.methodLink "RosterSolve$Search" 3 objectInit ∈ TBG := tbm 82 rfl rfl
set_option maxRecDepth 100000 in
theorem q83 : Cond.fieldLink "RosterSolve$Search" 9 "RosterSolve$Search" "plan" "LRosterSolve$Plan;" ∈ TBG := tbm 83 rfl rfl
set_option maxRecDepth 100000 in
theorem q84 : Cond.fieldLink "RosterSolve$Search" 15 "RosterSolve$Search" "best" "[I" ∈ TBG := tbm 84 rfl rfl
set_option maxRecDepth 100000 in
theorem q85 : Cond.fieldLinkNest "RosterSolve" 109 "RosterSolve$Search" "best" "[I" "RosterSolve" ∈ tables_1 := List.mem_of_getElem? (i := 85) rfl
set_option maxRecDepth 100000 in
theorem q86 : Cond.fieldLink "RosterSolve$Search" 19 "RosterSolve$Search" "trial" "[I" ∈ TBG := tbm 86 rfl rfl
set_option maxRecDepth 100000 in
theorem q87 : Cond.fieldLink "RosterSolve$Search" 22 "RosterSolve$Search" "nextShift" "[I" ∈ TBG := tbm 87 rfl rfl
set_option maxRecDepth 100000 in
theorem q88 : Cond.fieldLink "RosterSolve$Search" 25 "RosterSolve$Search" "lastShift" "[I" ∈ TBG := tbm 88 rfl rfl
set_option maxRecDepth 100000 in
theorem q89 : Cond.fieldLink "RosterSolve$Search" 28 "RosterSolve$Search" "shiftsHad" "[I" ∈ TBG := tbm 89 rfl rfl
set_option maxRecDepth 100000 in
theorem q90 : Cond.fieldLink "RosterSolve$Search" 31 "RosterSolve$Search" "nightsHad" "[I" ∈ TBG := tbm 90 rfl rfl
set_option maxRecDepth 100000 in
theorem q91 : Cond.fieldLink "RosterSolve$Search" 34 "RosterSolve$Search" "unmetHad" "[I" ∈ TBG := tbm 91 rfl rfl
set_option maxRecDepth 100000 in
theorem q92 : Cond.fieldLink "RosterSolve$Search" 37 "RosterSolve$Search" "limit" "I" ∈ TBG := tbm 92 rfl rfl
set_option maxRecDepth 100000 in
theorem q93 : Cond.fieldLink "RosterSolve$Search" 41 "RosterSolve$Search" "frozenDays" "I" ∈ TBG := tbm 93 rfl rfl
set_option maxRecDepth 100000 in
theorem q94 : Cond.fieldLink "RosterSolve$Search" 44 "RosterSolve$Search" "steps" "I" ∈ TBG := tbm 94 rfl rfl
set_option maxRecDepth 100000 in
theorem q95 : Cond.fieldLinkNest "RosterSolve" 125 "RosterSolve$Search" "steps" "I" "RosterSolve" ∈ tables_1 := List.mem_of_getElem? (i := 95) rfl
set_option maxRecDepth 100000 in
theorem q96 : Cond.fieldLink "RosterSolve$Search" 47 "RosterSolve$Search" "rightOnes" "I" ∈ TBG := tbm 96 rfl rfl
set_option maxRecDepth 100000 in
theorem q97 : Cond.fieldLinkNest "RosterSolve" 106 "RosterSolve$Search" "rightOnes" "I" "RosterSolve" ∈ tables_1 := List.mem_of_getElem? (i := 97) rfl
set_option maxRecDepth 100000 in
theorem q98 : Cond.fieldLink "RosterSolve$Search" 50 "RosterSolve$Search" "bestUnmet" "I" ∈ TBG := tbm 98 rfl rfl
set_option maxRecDepth 100000 in
theorem q99 : Cond.fieldLinkNest "RosterSolve" 118 "RosterSolve$Search" "bestUnmet" "I" "RosterSolve" ∈ tables_1 := List.mem_of_getElem? (i := 99) rfl
set_option maxRecDepth 100000 in
theorem q100 : Cond.fieldLink "RosterSolve$Search" 53 "RosterSolve$Search" "stopped" "Z" ∈ TBG := tbm 100 rfl rfl
set_option maxRecDepth 100000 in
theorem q101 : Cond.fieldLink "RosterSolve$Search" 57 "RosterSolve$Search" "exact" "Z" ∈ TBG := tbm 101 rfl rfl
set_option maxRecDepth 100000 in
theorem q102 : Cond.fieldLinkNest "RosterSolve" 121 "RosterSolve$Search" "exact" "Z" "RosterSolve" ∈ tables_1 := List.mem_of_getElem? (i := 102) rfl
set_option maxRecDepth 100000 in
theorem q134 : Cond.fieldLink "RosterSolve" 12 "RosterSolve" "plan" "LRosterSolve$Plan;" ∈ TBG := tbm 134 rfl rfl
set_option maxRecDepth 100000 in
theorem q135 : Cond.fieldLink "RosterSolve" 21 "RosterSolve" "search" "LRosterSolve$Search;" ∈ TBG := tbm 135 rfl rfl
set_option maxRecDepth 100000 in
theorem q136 : Cond.fieldLink "RosterSolve" 25 "RosterSolve" "roster" "[I" ∈ TBG := tbm 136 rfl rfl
set_option maxRecDepth 100000 in
theorem q137 : Cond.fieldLink "RosterSolve" 29 "RosterSolve" "published" "[I" ∈ TBG := tbm 137 rfl rfl
set_option maxRecDepth 100000 in
theorem q138 : Cond.fieldLink "RosterSolve" 32 "RosterSolve" "frozen" "I" ∈ TBG := tbm 138 rfl rfl
set_option maxRecDepth 100000 in
theorem q139 : Cond.fieldLink "RosterSolve" 36 "RosterSolve" "editions" "I" ∈ TBG := tbm 139 rfl rfl
set_option maxRecDepth 100000 in
theorem q153 : Cond.methodLink "RosterSolveLaw" 121 y_R_wrong ∈ TBG := tbm 153 rfl rfl
set_option maxRecDepth 100000 in
theorem q154 : Cond.instanceMethod y_R_wrong ∈ TBG := tbm 154 rfl rfl
set_option maxRecDepth 100000 in
theorem q155 : Cond.selects "RosterSolve" y_R_wrong y_R_wrong ∈ TBG := tbm 155 rfl rfl
set_option maxRecDepth 100000 in
theorem q157 : Cond.methodLinkNest "RosterSolve" 134 y_P_firstFault "RosterSolve" ∈ tables_1 := List.mem_of_getElem? (i := 157) rfl
set_option maxRecDepth 100000 in
theorem q159 : Cond.instanceMethod y_P_firstFault ∈ TBG := tbm 159 rfl rfl
set_option maxRecDepth 100000 in
theorem q161 : Cond.methodLink "RosterSolve$Plan" 58 y_P_firstNeedFault ∈ TBG := tbm 161 rfl rfl
set_option maxRecDepth 100000 in
theorem q163 : Cond.instanceMethod y_P_firstNeedFault ∈ TBG := tbm 163 rfl rfl
set_option maxRecDepth 100000 in
theorem q165 : Cond.methodLink "RosterSolve$Plan" 74 y_P_firstNeedUnmet ∈ TBG := tbm 165 rfl rfl
set_option maxRecDepth 100000 in
theorem q167 : Cond.instanceMethod y_P_firstNeedUnmet ∈ TBG := tbm 167 rfl rfl
set_option maxRecDepth 100000 in
theorem q169 : Cond.methodLink "RosterSolve$Plan" 82 y_P_meetsNeed ∈ TBG := tbm 169 rfl rfl
set_option maxRecDepth 100000 in
theorem q171 : Cond.instanceMethod y_P_meetsNeed ∈ TBG := tbm 171 rfl rfl
set_option maxRecDepth 100000 in
theorem q173 : Cond.methodLinkNest "RosterSolve$Plan" 86 y_R_cell "RosterSolve" ∈ tables_1 := List.mem_of_getElem? (i := 173) rfl
set_option maxRecDepth 100000 in
theorem q174 : Cond.static y_R_cell ∈ TBG := tbm 174 rfl rfl
set_option maxRecDepth 100000 in
theorem q176 : Cond.methodLinkNest "RosterSolve$Plan" 54 y_R_slot "RosterSolve" ∈ tables_1 := List.mem_of_getElem? (i := 176) rfl
set_option maxRecDepth 100000 in
theorem q177 : Cond.static y_R_slot ∈ TBG := tbm 177 rfl rfl
set_option maxRecDepth 100000 in
theorem q179 : Cond.methodLink "RosterSolve$Plan" 78 y_P_faultNumber ∈ TBG := tbm 179 rfl rfl
set_option maxRecDepth 100000 in
theorem q180 : Cond.static y_P_faultNumber ∈ TBG := tbm 180 rfl rfl
set_option maxRecDepth 100000 in
theorem q182 : Cond.methodLink "RosterSolve$Plan" 62 y_P_firstRestFault ∈ TBG := tbm 182 rfl rfl
set_option maxRecDepth 100000 in
theorem q184 : Cond.instanceMethod y_P_firstRestFault ∈ TBG := tbm 184 rfl rfl
set_option maxRecDepth 100000 in
theorem q186 : Cond.methodLink "RosterSolve$Plan" 89 y_P_breaksRest ∈ TBG := tbm 186 rfl rfl
set_option maxRecDepth 100000 in
theorem q188 : Cond.instanceMethod y_P_breaksRest ∈ TBG := tbm 188 rfl rfl
set_option maxRecDepth 100000 in
theorem q190 : Cond.methodLink "RosterSolve$Plan" 93 y_P_hoursBetween ∈ TBG := tbm 190 rfl rfl
set_option maxRecDepth 100000 in
theorem q191 : Cond.static y_P_hoursBetween ∈ TBG := tbm 191 rfl rfl
set_option maxRecDepth 100000 in
theorem q193 : Cond.methodLink "RosterSolve$Plan" 65 y_P_firstMostFault ∈ TBG := tbm 193 rfl rfl
set_option maxRecDepth 100000 in
theorem q195 : Cond.instanceMethod y_P_firstMostFault ∈ TBG := tbm 195 rfl rfl
set_option maxRecDepth 100000 in
theorem q197 : Cond.methodLink "RosterSolve$Plan" 68 y_P_firstNightsFault ∈ TBG := tbm 197 rfl rfl
set_option maxRecDepth 100000 in
theorem q199 : Cond.instanceMethod y_P_firstNightsFault ∈ TBG := tbm 199 rfl rfl
set_option maxRecDepth 100000 in
theorem q201 : Cond.methodLink "RosterSolve$Plan" 71 y_P_firstBarFault ∈ TBG := tbm 201 rfl rfl
set_option maxRecDepth 100000 in
theorem q203 : Cond.instanceMethod y_P_firstBarFault ∈ TBG := tbm 203 rfl rfl
set_option maxRecDepth 100000 in
theorem q205 : Cond.methodLinkNest "RosterSolve$Plan" 96 y_R_choice "RosterSolve" ∈ tables_1 := List.mem_of_getElem? (i := 205) rfl
set_option maxRecDepth 100000 in
theorem q206 : Cond.static y_R_choice ∈ TBG := tbm 206 rfl rfl
set_option maxRecDepth 100000 in
theorem q208 : Cond.methodLink "RosterSolve" 99 y_R_cell ∈ TBG := tbm 208 rfl rfl
set_option maxRecDepth 100000 in
theorem q209 : Cond.methodLink "RosterSolveLaw" 125 y_R_unmet ∈ TBG := tbm 209 rfl rfl
set_option maxRecDepth 100000 in
theorem q210 : Cond.instanceMethod y_R_unmet ∈ TBG := tbm 210 rfl rfl
set_option maxRecDepth 100000 in
theorem q211 : Cond.selects "RosterSolve" y_R_unmet y_R_unmet ∈ TBG := tbm 211 rfl rfl
set_option maxRecDepth 100000 in
theorem q213 : Cond.methodLinkNest "RosterSolve" 145 y_P_unmetSum "RosterSolve" ∈ tables_1 := List.mem_of_getElem? (i := 213) rfl
set_option maxRecDepth 100000 in
theorem q215 : Cond.instanceMethod y_P_unmetSum ∈ TBG := tbm 215 rfl rfl
set_option maxRecDepth 100000 in
theorem q217 : Cond.methodLink "RosterSolveLaw" 129 y_R_cost ∈ TBG := tbm 217 rfl rfl
set_option maxRecDepth 100000 in
theorem q218 : Cond.instanceMethod y_R_cost ∈ TBG := tbm 218 rfl rfl
set_option maxRecDepth 100000 in
theorem q219 : Cond.selects "RosterSolve" y_R_cost y_R_cost ∈ TBG := tbm 219 rfl rfl
set_option maxRecDepth 100000 in
theorem q221 : Cond.methodLinkNest "RosterSolve" 148 y_P_costOfAll "RosterSolve" ∈ tables_1 := List.mem_of_getElem? (i := 221) rfl
set_option maxRecDepth 100000 in
theorem q223 : Cond.instanceMethod y_P_costOfAll ∈ TBG := tbm 223 rfl rfl
set_option maxRecDepth 100000 in
theorem q225 : Cond.methodLink "RosterSolve$Plan" 99 y_P_costOfOne ∈ TBG := tbm 225 rfl rfl
set_option maxRecDepth 100000 in
theorem q227 : Cond.instanceMethod y_P_costOfOne ∈ TBG := tbm 227 rfl rfl
set_option maxRecDepth 100000 in
theorem q229 : Cond.methodLink "RosterSolveLaw" 136 y_R_publish ∈ TBG := tbm 229 rfl rfl
set_option maxRecDepth 100000 in
theorem q230 : Cond.instanceMethod y_R_publish ∈ TBG := tbm 230 rfl rfl
set_option maxRecDepth 100000 in
theorem q231 : Cond.selects "RosterSolve" y_R_publish y_R_publish ∈ TBG := tbm 231 rfl rfl
set_option maxRecDepth 100000 in
theorem q233 : Cond.methodLink "RosterSolve" 112 ⟨"java/lang/System", "arraycopy", "(Ljava/lang/Object;ILjava/lang/Object;II)V"⟩ ∈ TBG := tbm 233 rfl rfl
set_option maxRecDepth 100000 in
theorem q234 : Cond.static ⟨"java/lang/System", "arraycopy", "(Ljava/lang/Object;ILjava/lang/Object;II)V"⟩ ∈ TBG := tbm 234 rfl rfl
set_option maxRecDepth 100000 in
theorem q235 : Cond.native ⟨"java/lang/System", "arraycopy", "(Ljava/lang/Object;ILjava/lang/Object;II)V"⟩ ∈ TBG := tbm 235 rfl rfl
set_option maxRecDepth 100000 in
theorem q236 : Cond.methodLink "RosterSolveLaw" 72 y_L_days ∈ TBG := tbm 236 rfl rfl
set_option maxRecDepth 100000 in
theorem q237 : Cond.static y_L_days ∈ TBG := tbm 237 rfl rfl
set_option maxRecDepth 100000 in
theorem q239 : Cond.classLink "RosterSolveLaw" 13 "java/lang/IndexOutOfBoundsException" ∈ TBG := tbm 239 rfl rfl
set_option maxRecDepth 100000 in
theorem q240 : Cond.methodLink "RosterSolveLaw" 7 y_R_days ∈ TBG := tbm 240 rfl rfl
set_option maxRecDepth 100000 in
theorem q241 : Cond.instanceMethod y_R_days ∈ TBG := tbm 241 rfl rfl
set_option maxRecDepth 100000 in
theorem q242 : Cond.selects "RosterSolve" y_R_days y_R_days ∈ TBG := tbm 242 rfl rfl
set_option maxRecDepth 100000 in
theorem q244 : Cond.methodLink "RosterSolve" 39 y_R_refuseOutside ∈ TBG := tbm 244 rfl rfl
set_option maxRecDepth 100000 in
theorem q245 : Cond.static y_R_refuseOutside ∈ TBG := tbm 245 rfl rfl
set_option maxRecDepth 100000 in
theorem q247 : Cond.classLink "RosterSolve" 171 "java/lang/IndexOutOfBoundsException" ∈ TBG := tbm 247 rfl rfl
set_option maxRecDepth 100000 in
theorem q248 : Cond.instantiable "java/lang/IndexOutOfBoundsException" 6 ∈ TBG := tbm 248 rfl rfl
set_option maxRecDepth 100000 in
theorem q249 : Cond.castable "java/lang/IndexOutOfBoundsException" "java/lang/IndexOutOfBoundsException" ∈ tables_1 := List.mem_of_getElem? (i := 249) rfl
set_option maxRecDepth 100000 in
theorem q250 : Cond.declares ⟨"java/lang/RuntimeException", "<init>", "()V"⟩ ∈ tables_1 := List.mem_of_getElem? (i := 250) rfl
set_option maxRecDepth 100000 in
theorem q251 : Cond.declares ⟨"java/lang/RuntimeException", "<init>", "(Ljava/lang/String;)V"⟩ ∈ tables_1 := List.mem_of_getElem? (i := 251) rfl
set_option maxRecDepth 100000 in
theorem q252 : Cond.declares ⟨"java/lang/Exception", "<init>", "()V"⟩ ∈ tables_1 := List.mem_of_getElem? (i := 252) rfl
set_option maxRecDepth 100000 in
theorem q253 : Cond.declares ⟨"java/lang/Exception", "<init>", "(Ljava/lang/String;)V"⟩ ∈ tables_1 := List.mem_of_getElem? (i := 253) rfl
set_option maxRecDepth 100000 in
theorem q254 : Cond.declares ⟨"java/lang/Throwable", "<init>", "()V"⟩ ∈ tables_1 := List.mem_of_getElem? (i := 254) rfl
set_option maxRecDepth 100000 in
theorem q255 : Cond.declares ⟨"java/lang/Throwable", "<init>", "(Ljava/lang/String;)V"⟩ ∈ tables_1 := List.mem_of_getElem? (i := 255) rfl
set_option maxRecDepth 100000 in
theorem q256 : Cond.selects "java/lang/IndexOutOfBoundsException" ⟨"java/lang/Throwable", "fillInStackTrace", "(I)Ljava/lang/Throwable;"⟩ ⟨"java/lang/Throwable", "fillInStackTrace", "(I)Ljava/lang/Throwable;"⟩ ∈ TBG := tbm 256 rfl rfl
set_option maxRecDepth 100000 in
theorem q257 : Cond.selects "java/lang/IndexOutOfBoundsException" ⟨"java/lang/Throwable", "fillInStackTrace", "()Ljava/lang/Throwable;"⟩ ⟨"java/lang/Throwable", "fillInStackTrace", "()Ljava/lang/Throwable;"⟩ ∈ TBG := tbm 257 rfl rfl
set_option maxRecDepth 100000 in
theorem q268 : Cond.fieldLink "java/lang/Throwable" 198 "java/lang/Throwable" "backtrace" "Ljava/lang/Object;" ∈ TBG := tbm 268 rfl rfl
set_option maxRecDepth 100000 in
theorem q270 : Cond.instanceMethod ⟨"java/lang/Throwable", "<init>", "()V"⟩ ∈ TBG := tbm 270 rfl rfl
set_option maxRecDepth 100000 in
theorem q272 : Cond.methodLink "java/lang/Throwable" 1 objectInit ∈ TBG := tbm 272 rfl rfl
set_option maxRecDepth 100000 in
theorem q273 : Cond.fieldLink "java/lang/Throwable" 13 "java/lang/Throwable" "UNASSIGNED_STACK" "[Ljava/lang/StackTraceElement;" ∈ TBG := tbm 273 rfl rfl
set_option maxRecDepth 100000 in
theorem q275 : Cond.fieldLink "java/lang/Throwable" 20 "java/lang/Throwable" "SUPPRESSED_SENTINEL" "Ljava/util/List;" ∈ TBG := tbm 275 rfl rfl
set_option maxRecDepth 100000 in
theorem q277 : Cond.methodLink "java/lang/Throwable" 27 ⟨"java/lang/Throwable", "fillInStackTrace", "()Ljava/lang/Throwable;"⟩ ∈ TBG := tbm 277 rfl rfl
set_option maxRecDepth 100000 in
theorem q278 : Cond.instanceMethod ⟨"java/lang/Throwable", "fillInStackTrace", "()Ljava/lang/Throwable;"⟩ ∈ TBG := tbm 278 rfl rfl
set_option maxRecDepth 100000 in
theorem q279 : Cond.sameMethod "java/lang/Throwable" "java/lang/Throwable" "fillInStackTrace" "()Ljava/lang/Throwable;" ∈ TBG := tbm 279 rfl rfl
set_option maxRecDepth 100000 in
theorem q280 : Cond.selects "java/lang/ArithmeticException" ⟨"java/lang/Throwable", "fillInStackTrace", "()Ljava/lang/Throwable;"⟩ ⟨"java/lang/Throwable", "fillInStackTrace", "()Ljava/lang/Throwable;"⟩ ∈ TBG := tbm 280 rfl rfl
set_option maxRecDepth 100000 in
theorem q281 : Cond.selects "java/lang/IllegalArgumentException" ⟨"java/lang/Throwable", "fillInStackTrace", "()Ljava/lang/Throwable;"⟩ ⟨"java/lang/Throwable", "fillInStackTrace", "()Ljava/lang/Throwable;"⟩ ∈ TBG := tbm 281 rfl rfl
set_option maxRecDepth 100000 in
theorem q282 : Cond.selects "java/lang/IllegalStateException" ⟨"java/lang/Throwable", "fillInStackTrace", "()Ljava/lang/Throwable;"⟩ ⟨"java/lang/Throwable", "fillInStackTrace", "()Ljava/lang/Throwable;"⟩ ∈ TBG := tbm 282 rfl rfl
set_option maxRecDepth 100000 in
theorem q283 : Cond.selects "java/lang/UnsupportedOperationException" ⟨"java/lang/Throwable", "fillInStackTrace", "()Ljava/lang/Throwable;"⟩ ⟨"java/lang/Throwable", "fillInStackTrace", "()Ljava/lang/Throwable;"⟩ ∈ TBG := tbm 283 rfl rfl
set_option maxRecDepth 100000 in
theorem q285 : Cond.methodLink "java/lang/Throwable" 202 ⟨"java/lang/Throwable", "fillInStackTrace", "(I)Ljava/lang/Throwable;"⟩ ∈ TBG := tbm 285 rfl rfl
set_option maxRecDepth 100000 in
theorem q287 : Cond.instanceMethod ⟨"java/lang/Throwable", "fillInStackTrace", "(I)Ljava/lang/Throwable;"⟩ ∈ TBG := tbm 287 rfl rfl
set_option maxRecDepth 100000 in
theorem q288 : Cond.instantiable "java/lang/Throwable" 6 ∈ TBG := tbm 288 rfl rfl
set_option maxRecDepth 100000 in
theorem q289 : Cond.native ⟨"java/lang/Throwable", "fillInStackTrace", "(I)Ljava/lang/Throwable;"⟩ ∈ TBG := tbm 289 rfl rfl
set_option maxRecDepth 100000 in
theorem q290 : Cond.stringRef "RosterSolve" 173 "a number outside its range" ∈ tables_1 := List.mem_of_getElem? (i := 290) rfl
set_option maxRecDepth 100000 in
theorem q291 : Cond.methodLink "RosterSolve" 175 ⟨"java/lang/IndexOutOfBoundsException", "<init>", "(Ljava/lang/String;)V"⟩ ∈ TBG := tbm 291 rfl rfl
set_option maxRecDepth 100000 in
theorem q292 : Cond.instanceMethod ⟨"java/lang/IndexOutOfBoundsException", "<init>", "(Ljava/lang/String;)V"⟩ ∈ TBG := tbm 292 rfl rfl
set_option maxRecDepth 100000 in
theorem q294 : Cond.methodLink "java/lang/IndexOutOfBoundsException" 7 ⟨"java/lang/RuntimeException", "<init>", "(Ljava/lang/String;)V"⟩ ∈ TBG := tbm 294 rfl rfl
set_option maxRecDepth 100000 in
theorem q295 : Cond.instanceMethod ⟨"java/lang/RuntimeException", "<init>", "(Ljava/lang/String;)V"⟩ ∈ TBG := tbm 295 rfl rfl
set_option maxRecDepth 100000 in
theorem q297 : Cond.methodLink "java/lang/RuntimeException" 7 ⟨"java/lang/Exception", "<init>", "(Ljava/lang/String;)V"⟩ ∈ TBG := tbm 297 rfl rfl
set_option maxRecDepth 100000 in
theorem q298 : Cond.instanceMethod ⟨"java/lang/Exception", "<init>", "(Ljava/lang/String;)V"⟩ ∈ TBG := tbm 298 rfl rfl
set_option maxRecDepth 100000 in
theorem q300 : Cond.methodLink "java/lang/Exception" 7 ⟨"java/lang/Throwable", "<init>", "(Ljava/lang/String;)V"⟩ ∈ TBG := tbm 300 rfl rfl
set_option maxRecDepth 100000 in
theorem q301 : Cond.instanceMethod ⟨"java/lang/Throwable", "<init>", "(Ljava/lang/String;)V"⟩ ∈ TBG := tbm 301 rfl rfl
set_option maxRecDepth 100000 in
theorem q303 : Cond.fieldLink "java/lang/Throwable" 198 "java/lang/Throwable" "backtrace" "Ljava/lang/Object;" ∈ TBG := tbm 303 rfl rfl
set_option maxRecDepth 100000 in
theorem q304 : Cond.fieldLink "java/lang/Throwable" 31 "java/lang/Throwable" "detailMessage" "Ljava/lang/String;" ∈ TBG := tbm 304 rfl rfl
set_option maxRecDepth 100000 in
theorem q305 : Cond.fieldLink "java/lang/Throwable" 7 "java/lang/Throwable" "cause" "Ljava/lang/Throwable;" ∈ TBG := tbm 305 rfl rfl
set_option maxRecDepth 100000 in
theorem q306 : Cond.fieldLink "java/lang/Throwable" 17 "java/lang/Throwable" "stackTrace" "[Ljava/lang/StackTraceElement;" ∈ TBG := tbm 306 rfl rfl
set_option maxRecDepth 100000 in
theorem q307 : Cond.fieldLink "java/lang/Throwable" 24 "java/lang/Throwable" "suppressedExceptions" "Ljava/util/List;" ∈ TBG := tbm 307 rfl rfl
set_option maxRecDepth 100000 in
theorem q316 : Cond.arrayClass .byte ∈ TBG := tbm 316 rfl rfl
set_option maxRecDepth 100000 in
theorem q317 : Cond.methodLinkNest "RosterSolve" 43 y_P_startDays "RosterSolve" ∈ tables_1 := List.mem_of_getElem? (i := 317) rfl
set_option maxRecDepth 100000 in
theorem q319 : Cond.instanceMethod y_P_startDays ∈ TBG := tbm 319 rfl rfl
set_option maxRecDepth 100000 in
theorem q321 : Cond.methodLinkNest "RosterSolve$Plan" 50 y_R_clearRow "RosterSolve" ∈ tables_1 := List.mem_of_getElem? (i := 321) rfl
set_option maxRecDepth 100000 in
theorem q322 : Cond.static y_R_clearRow ∈ TBG := tbm 322 rfl rfl
set_option maxRecDepth 100000 in
theorem q324 : Cond.methodLink "RosterSolve" 47 y_R_clearRow ∈ TBG := tbm 324 rfl rfl
set_option maxRecDepth 100000 in
theorem q325 : Cond.methodLink "RosterSolveLaw" 82 y_L_person ∈ TBG := tbm 325 rfl rfl
set_option maxRecDepth 100000 in
theorem q326 : Cond.static y_L_person ∈ TBG := tbm 326 rfl rfl
set_option maxRecDepth 100000 in
theorem q328 : Cond.classLink "RosterSolveLaw" 19 "java/lang/UnsupportedOperationException" ∈ TBG := tbm 328 rfl rfl
set_option maxRecDepth 100000 in
theorem q329 : Cond.methodLink "RosterSolveLaw" 15 y_R_person ∈ TBG := tbm 329 rfl rfl
set_option maxRecDepth 100000 in
theorem q330 : Cond.instanceMethod y_R_person ∈ TBG := tbm 330 rfl rfl
set_option maxRecDepth 100000 in
theorem q331 : Cond.selects "RosterSolve" y_R_person y_R_person ∈ TBG := tbm 331 rfl rfl
set_option maxRecDepth 100000 in
theorem q333 : Cond.methodLink "RosterSolve" 54 y_R_refuseFull ∈ TBG := tbm 333 rfl rfl
set_option maxRecDepth 100000 in
theorem q334 : Cond.static y_R_refuseFull ∈ TBG := tbm 334 rfl rfl
set_option maxRecDepth 100000 in
theorem q336 : Cond.classLink "RosterSolve" 176 "java/lang/UnsupportedOperationException" ∈ TBG := tbm 336 rfl rfl
set_option maxRecDepth 100000 in
theorem q337 : Cond.instantiable "java/lang/UnsupportedOperationException" 6 ∈ TBG := tbm 337 rfl rfl
set_option maxRecDepth 100000 in
theorem q338 : Cond.castable "java/lang/UnsupportedOperationException" "java/lang/UnsupportedOperationException" ∈ tables_1 := List.mem_of_getElem? (i := 338) rfl
set_option maxRecDepth 100000 in
theorem q339 : Cond.selects "java/lang/UnsupportedOperationException" ⟨"java/lang/Throwable", "fillInStackTrace", "(I)Ljava/lang/Throwable;"⟩ ⟨"java/lang/Throwable", "fillInStackTrace", "(I)Ljava/lang/Throwable;"⟩ ∈ TBG := tbm 339 rfl rfl
set_option maxRecDepth 100000 in
theorem q345 : Cond.stringRef "RosterSolve" 178 "no room" ∈ tables_1 := List.mem_of_getElem? (i := 345) rfl
set_option maxRecDepth 100000 in
theorem q346 : Cond.methodLink "RosterSolve" 180 ⟨"java/lang/UnsupportedOperationException", "<init>", "(Ljava/lang/String;)V"⟩ ∈ TBG := tbm 346 rfl rfl
set_option maxRecDepth 100000 in
theorem q347 : Cond.instanceMethod ⟨"java/lang/UnsupportedOperationException", "<init>", "(Ljava/lang/String;)V"⟩ ∈ TBG := tbm 347 rfl rfl
set_option maxRecDepth 100000 in
theorem q349 : Cond.methodLink "java/lang/UnsupportedOperationException" 7 ⟨"java/lang/RuntimeException", "<init>", "(Ljava/lang/String;)V"⟩ ∈ TBG := tbm 349 rfl rfl
set_option maxRecDepth 100000 in
theorem q352 : Cond.methodLinkNest "RosterSolve" 58 y_P_addPerson "RosterSolve" ∈ tables_1 := List.mem_of_getElem? (i := 352) rfl
set_option maxRecDepth 100000 in
theorem q354 : Cond.instanceMethod y_P_addPerson ∈ TBG := tbm 354 rfl rfl
set_option maxRecDepth 100000 in
theorem q356 : Cond.methodLink "RosterSolveLaw" 86 y_L_need ∈ TBG := tbm 356 rfl rfl
set_option maxRecDepth 100000 in
theorem q357 : Cond.static y_L_need ∈ TBG := tbm 357 rfl rfl
set_option maxRecDepth 100000 in
theorem q359 : Cond.classLink "RosterSolveLaw" 25 "java/lang/IllegalArgumentException" ∈ TBG := tbm 359 rfl rfl
set_option maxRecDepth 100000 in
theorem q360 : Cond.methodLink "RosterSolveLaw" 21 y_R_need ∈ TBG := tbm 360 rfl rfl
set_option maxRecDepth 100000 in
theorem q361 : Cond.instanceMethod y_R_need ∈ TBG := tbm 361 rfl rfl
set_option maxRecDepth 100000 in
theorem q362 : Cond.selects "RosterSolve" y_R_need y_R_need ∈ TBG := tbm 362 rfl rfl
set_option maxRecDepth 100000 in
theorem q364 : Cond.methodLink "RosterSolve" 62 y_R_refuseUnknownDay ∈ TBG := tbm 364 rfl rfl
set_option maxRecDepth 100000 in
theorem q366 : Cond.instanceMethod y_R_refuseUnknownDay ∈ TBG := tbm 366 rfl rfl
set_option maxRecDepth 100000 in
theorem q368 : Cond.methodLink "RosterSolve" 65 y_R_refuseUnknown ∈ TBG := tbm 368 rfl rfl
set_option maxRecDepth 100000 in
theorem q369 : Cond.static y_R_refuseUnknown ∈ TBG := tbm 369 rfl rfl
set_option maxRecDepth 100000 in
theorem q371 : Cond.classLink "RosterSolve" 164 "java/lang/IllegalArgumentException" ∈ TBG := tbm 371 rfl rfl
set_option maxRecDepth 100000 in
theorem q372 : Cond.instantiable "java/lang/IllegalArgumentException" 6 ∈ TBG := tbm 372 rfl rfl
set_option maxRecDepth 100000 in
theorem q373 : Cond.castable "java/lang/IllegalArgumentException" "java/lang/IllegalArgumentException" ∈ tables_1 := List.mem_of_getElem? (i := 373) rfl
set_option maxRecDepth 100000 in
theorem q374 : Cond.selects "java/lang/IllegalArgumentException" ⟨"java/lang/Throwable", "fillInStackTrace", "(I)Ljava/lang/Throwable;"⟩ ⟨"java/lang/Throwable", "fillInStackTrace", "(I)Ljava/lang/Throwable;"⟩ ∈ TBG := tbm 374 rfl rfl
set_option maxRecDepth 100000 in
theorem q380 : Cond.stringRef "RosterSolve" 166 "an unknown number" ∈ tables_1 := List.mem_of_getElem? (i := 380) rfl
set_option maxRecDepth 100000 in
theorem q381 : Cond.methodLink "RosterSolve" 168 ⟨"java/lang/IllegalArgumentException", "<init>", "(Ljava/lang/String;)V"⟩ ∈ TBG := tbm 381 rfl rfl
set_option maxRecDepth 100000 in
theorem q382 : Cond.instanceMethod ⟨"java/lang/IllegalArgumentException", "<init>", "(Ljava/lang/String;)V"⟩ ∈ TBG := tbm 382 rfl rfl
set_option maxRecDepth 100000 in
theorem q384 : Cond.methodLink "java/lang/IllegalArgumentException" 7 ⟨"java/lang/RuntimeException", "<init>", "(Ljava/lang/String;)V"⟩ ∈ TBG := tbm 384 rfl rfl
set_option maxRecDepth 100000 in
theorem q387 : Cond.methodLinkNest "RosterSolve" 68 y_P_putNeed "RosterSolve" ∈ tables_1 := List.mem_of_getElem? (i := 387) rfl
set_option maxRecDepth 100000 in
theorem q389 : Cond.instanceMethod y_P_putNeed ∈ TBG := tbm 389 rfl rfl
set_option maxRecDepth 100000 in
theorem q391 : Cond.methodLink "RosterSolveLaw" 90 y_L_rules ∈ TBG := tbm 391 rfl rfl
set_option maxRecDepth 100000 in
theorem q392 : Cond.static y_L_rules ∈ TBG := tbm 392 rfl rfl
set_option maxRecDepth 100000 in
theorem q394 : Cond.methodLink "RosterSolveLaw" 27 y_R_rules ∈ TBG := tbm 394 rfl rfl
set_option maxRecDepth 100000 in
theorem q395 : Cond.instanceMethod y_R_rules ∈ TBG := tbm 395 rfl rfl
set_option maxRecDepth 100000 in
theorem q396 : Cond.selects "RosterSolve" y_R_rules y_R_rules ∈ TBG := tbm 396 rfl rfl
set_option maxRecDepth 100000 in
theorem q398 : Cond.methodLinkNest "RosterSolve" 72 y_P_putRules "RosterSolve" ∈ tables_1 := List.mem_of_getElem? (i := 398) rfl
set_option maxRecDepth 100000 in
theorem q400 : Cond.instanceMethod y_P_putRules ∈ TBG := tbm 400 rfl rfl
set_option maxRecDepth 100000 in
theorem q402 : Cond.methodLink "RosterSolveLaw" 94 y_L_bar ∈ TBG := tbm 402 rfl rfl
set_option maxRecDepth 100000 in
theorem q403 : Cond.static y_L_bar ∈ TBG := tbm 403 rfl rfl
set_option maxRecDepth 100000 in
theorem q405 : Cond.methodLink "RosterSolveLaw" 31 y_R_bar ∈ TBG := tbm 405 rfl rfl
set_option maxRecDepth 100000 in
theorem q406 : Cond.instanceMethod y_R_bar ∈ TBG := tbm 406 rfl rfl
set_option maxRecDepth 100000 in
theorem q407 : Cond.selects "RosterSolve" y_R_bar y_R_bar ∈ TBG := tbm 407 rfl rfl
set_option maxRecDepth 100000 in
theorem q409 : Cond.methodLink "RosterSolve" 75 y_R_refuseUnknownPerson ∈ TBG := tbm 409 rfl rfl
set_option maxRecDepth 100000 in
theorem q411 : Cond.instanceMethod y_R_refuseUnknownPerson ∈ TBG := tbm 411 rfl rfl
set_option maxRecDepth 100000 in
theorem q413 : Cond.methodLink "RosterSolve" 82 y_R_choice ∈ TBG := tbm 413 rfl rfl
set_option maxRecDepth 100000 in
theorem q414 : Cond.methodLink "RosterSolveLaw" 98 y_L_wish ∈ TBG := tbm 414 rfl rfl
set_option maxRecDepth 100000 in
theorem q415 : Cond.static y_L_wish ∈ TBG := tbm 415 rfl rfl
set_option maxRecDepth 100000 in
theorem q417 : Cond.classLink "RosterSolveLaw" 39 "java/lang/IllegalStateException" ∈ TBG := tbm 417 rfl rfl
set_option maxRecDepth 100000 in
theorem q418 : Cond.methodLink "RosterSolveLaw" 35 y_R_wish ∈ TBG := tbm 418 rfl rfl
set_option maxRecDepth 100000 in
theorem q419 : Cond.instanceMethod y_R_wish ∈ TBG := tbm 419 rfl rfl
set_option maxRecDepth 100000 in
theorem q420 : Cond.selects "RosterSolve" y_R_wish y_R_wish ∈ TBG := tbm 420 rfl rfl
set_option maxRecDepth 100000 in
theorem q422 : Cond.methodLink "RosterSolve" 86 y_R_refuseFrozen ∈ TBG := tbm 422 rfl rfl
set_option maxRecDepth 100000 in
theorem q424 : Cond.instanceMethod y_R_refuseFrozen ∈ TBG := tbm 424 rfl rfl
set_option maxRecDepth 100000 in
theorem q426 : Cond.classLink "RosterSolve" 138 "java/lang/IllegalStateException" ∈ TBG := tbm 426 rfl rfl
set_option maxRecDepth 100000 in
theorem q427 : Cond.instantiable "java/lang/IllegalStateException" 6 ∈ TBG := tbm 427 rfl rfl
set_option maxRecDepth 100000 in
theorem q428 : Cond.castable "java/lang/IllegalStateException" "java/lang/IllegalStateException" ∈ tables_1 := List.mem_of_getElem? (i := 428) rfl
set_option maxRecDepth 100000 in
theorem q429 : Cond.selects "java/lang/IllegalStateException" ⟨"java/lang/Throwable", "fillInStackTrace", "(I)Ljava/lang/Throwable;"⟩ ⟨"java/lang/Throwable", "fillInStackTrace", "(I)Ljava/lang/Throwable;"⟩ ∈ TBG := tbm 429 rfl rfl
set_option maxRecDepth 100000 in
theorem q435 : Cond.stringRef "RosterSolve" 162 "the day is frozen" ∈ tables_1 := List.mem_of_getElem? (i := 435) rfl
set_option maxRecDepth 100000 in
theorem q436 : Cond.methodLink "RosterSolve" 142 ⟨"java/lang/IllegalStateException", "<init>", "(Ljava/lang/String;)V"⟩ ∈ TBG := tbm 436 rfl rfl
set_option maxRecDepth 100000 in
theorem q437 : Cond.instanceMethod ⟨"java/lang/IllegalStateException", "<init>", "(Ljava/lang/String;)V"⟩ ∈ TBG := tbm 437 rfl rfl
set_option maxRecDepth 100000 in
theorem q439 : Cond.methodLink "java/lang/IllegalStateException" 7 ⟨"java/lang/RuntimeException", "<init>", "(Ljava/lang/String;)V"⟩ ∈ TBG := tbm 439 rfl rfl
set_option maxRecDepth 100000 in
theorem q442 : Cond.methodLinkNest "RosterSolve" 92 y_P_addWish "RosterSolve" ∈ tables_1 := List.mem_of_getElem? (i := 442) rfl
set_option maxRecDepth 100000 in
theorem q444 : Cond.instanceMethod y_P_addWish ∈ TBG := tbm 444 rfl rfl
set_option maxRecDepth 100000 in
theorem q446 : Cond.methodLink "RosterSolveLaw" 102 y_L_freeze ∈ TBG := tbm 446 rfl rfl
set_option maxRecDepth 100000 in
theorem q447 : Cond.static y_L_freeze ∈ TBG := tbm 447 rfl rfl
set_option maxRecDepth 100000 in
theorem q449 : Cond.methodLink "RosterSolveLaw" 41 y_R_freeze ∈ TBG := tbm 449 rfl rfl
set_option maxRecDepth 100000 in
theorem q450 : Cond.instanceMethod y_R_freeze ∈ TBG := tbm 450 rfl rfl
set_option maxRecDepth 100000 in
theorem q451 : Cond.selects "RosterSolve" y_R_freeze y_R_freeze ∈ TBG := tbm 451 rfl rfl
set_option maxRecDepth 100000 in
theorem q453 : Cond.methodLink "RosterSolveLaw" 105 y_L_set ∈ TBG := tbm 453 rfl rfl
set_option maxRecDepth 100000 in
theorem q454 : Cond.static y_L_set ∈ TBG := tbm 454 rfl rfl
set_option maxRecDepth 100000 in
theorem q456 : Cond.methodLink "RosterSolveLaw" 44 y_R_set ∈ TBG := tbm 456 rfl rfl
set_option maxRecDepth 100000 in
theorem q457 : Cond.instanceMethod y_R_set ∈ TBG := tbm 457 rfl rfl
set_option maxRecDepth 100000 in
theorem q458 : Cond.selects "RosterSolve" y_R_set y_R_set ∈ TBG := tbm 458 rfl rfl
set_option maxRecDepth 100000 in
theorem q460 : Cond.methodLink "RosterSolveLaw" 108 y_L_solve ∈ TBG := tbm 460 rfl rfl
set_option maxRecDepth 100000 in
theorem q461 : Cond.static y_L_solve ∈ TBG := tbm 461 rfl rfl
set_option maxRecDepth 100000 in
theorem q463 : Cond.methodLink "RosterSolveLaw" 47 y_R_solve ∈ TBG := tbm 463 rfl rfl
set_option maxRecDepth 100000 in
theorem q464 : Cond.instanceMethod y_R_solve ∈ TBG := tbm 464 rfl rfl
set_option maxRecDepth 100000 in
theorem q465 : Cond.selects "RosterSolve" y_R_solve y_R_solve ∈ TBG := tbm 465 rfl rfl
set_option maxRecDepth 100000 in
theorem q467 : Cond.methodLinkNest "RosterSolve" 102 y_S_run "RosterSolve" ∈ tables_1 := List.mem_of_getElem? (i := 467) rfl
set_option maxRecDepth 100000 in
theorem q469 : Cond.instanceMethod y_S_run ∈ TBG := tbm 469 rfl rfl
set_option maxRecDepth 100000 in
theorem q471 : Cond.methodLink "RosterSolve$Search" 60 ⟨"java/lang/System", "arraycopy", "(Ljava/lang/Object;ILjava/lang/Object;II)V"⟩ ∈ TBG := tbm 471 rfl rfl
set_option maxRecDepth 100000 in
theorem q472 : Cond.methodLink "RosterSolve$Search" 74 y_S_takeOnlyRoster ∈ TBG := tbm 472 rfl rfl
set_option maxRecDepth 100000 in
theorem q474 : Cond.instanceMethod y_S_takeOnlyRoster ∈ TBG := tbm 474 rfl rfl
set_option maxRecDepth 100000 in
theorem q476 : Cond.methodLinkNest "RosterSolve$Search" 81 y_P_firstNeedFault "RosterSolve" ∈ tables_1 := List.mem_of_getElem? (i := 476) rfl
set_option maxRecDepth 100000 in
theorem q477 : Cond.methodLink "RosterSolve$Search" 85 y_S_keepTrial ∈ TBG := tbm 477 rfl rfl
set_option maxRecDepth 100000 in
theorem q479 : Cond.instanceMethod y_S_keepTrial ∈ TBG := tbm 479 rfl rfl
set_option maxRecDepth 100000 in
theorem q481 : Cond.methodLink "RosterSolve$Search" 77 y_S_goThrough ∈ TBG := tbm 481 rfl rfl
set_option maxRecDepth 100000 in
theorem q483 : Cond.instanceMethod y_S_goThrough ∈ TBG := tbm 483 rfl rfl
set_option maxRecDepth 100000 in
theorem q485 : Cond.methodLink "RosterSolve$Search" 89 y_S_open ∈ TBG := tbm 485 rfl rfl
set_option maxRecDepth 100000 in
theorem q487 : Cond.instanceMethod y_S_open ∈ TBG := tbm 487 rfl rfl
set_option maxRecDepth 100000 in
theorem q489 : Cond.methodLinkNest "RosterSolve$Search" 94 y_R_cell "RosterSolve" ∈ tables_1 := List.mem_of_getElem? (i := 489) rfl
set_option maxRecDepth 100000 in
theorem q490 : Cond.constant "RosterSolve$Search" 93 (40002 : Int32) ∈ TBG := tbm 490 rfl rfl
set_option maxRecDepth 100000 in
theorem q491 : Cond.methodLink "RosterSolve$Search" 98 y_S_standsNext ∈ TBG := tbm 491 rfl rfl
set_option maxRecDepth 100000 in
theorem q493 : Cond.instanceMethod y_S_standsNext ∈ TBG := tbm 493 rfl rfl
set_option maxRecDepth 100000 in
theorem q495 : Cond.methodLink "RosterSolve$Search" 102 y_S_keepsRules ∈ TBG := tbm 495 rfl rfl
set_option maxRecDepth 100000 in
theorem q497 : Cond.instanceMethod y_S_keepsRules ∈ TBG := tbm 497 rfl rfl
set_option maxRecDepth 100000 in
theorem q499 : Cond.methodLinkNest "RosterSolve$Search" 127 y_P_breaksRest "RosterSolve" ∈ tables_1 := List.mem_of_getElem? (i := 499) rfl
set_option maxRecDepth 100000 in
theorem q500 : Cond.methodLinkNest "RosterSolve$Search" 110 y_R_choice "RosterSolve" ∈ tables_1 := List.mem_of_getElem? (i := 500) rfl
set_option maxRecDepth 100000 in
theorem q501 : Cond.methodLink "RosterSolve$Search" 114 y_S_staysBelowBest ∈ TBG := tbm 501 rfl rfl
set_option maxRecDepth 100000 in
theorem q503 : Cond.instanceMethod y_S_staysBelowBest ∈ TBG := tbm 503 rfl rfl
set_option maxRecDepth 100000 in
theorem q505 : Cond.methodLink "RosterSolve$Search" 130 y_S_unmetBefore ∈ TBG := tbm 505 rfl rfl
set_option maxRecDepth 100000 in
theorem q507 : Cond.instanceMethod y_S_unmetBefore ∈ TBG := tbm 507 rfl rfl
set_option maxRecDepth 100000 in
theorem q509 : Cond.methodLinkNest "RosterSolve$Search" 117 y_P_firstNeedUnmet "RosterSolve" ∈ tables_1 := List.mem_of_getElem? (i := 509) rfl
set_option maxRecDepth 100000 in
theorem q510 : Cond.methodLink "RosterSolveLaw" 112 y_L_solved ∈ TBG := tbm 510 rfl rfl
set_option maxRecDepth 100000 in
theorem q511 : Cond.static y_L_solved ∈ TBG := tbm 511 rfl rfl
set_option maxRecDepth 100000 in
theorem q513 : Cond.methodLink "RosterSolveLaw" 51 y_R_solved ∈ TBG := tbm 513 rfl rfl
set_option maxRecDepth 100000 in
theorem q514 : Cond.instanceMethod y_R_solved ∈ TBG := tbm 514 rfl rfl
set_option maxRecDepth 100000 in
theorem q515 : Cond.selects "RosterSolve" y_R_solved y_R_solved ∈ TBG := tbm 515 rfl rfl
set_option maxRecDepth 100000 in
theorem q517 : Cond.methodLink "RosterSolveLaw" 115 y_L_swap ∈ TBG := tbm 517 rfl rfl
set_option maxRecDepth 100000 in
theorem q518 : Cond.static y_L_swap ∈ TBG := tbm 518 rfl rfl
set_option maxRecDepth 100000 in
theorem q520 : Cond.methodLink "RosterSolveLaw" 54 y_R_swap ∈ TBG := tbm 520 rfl rfl
set_option maxRecDepth 100000 in
theorem q521 : Cond.instanceMethod y_R_swap ∈ TBG := tbm 521 rfl rfl
set_option maxRecDepth 100000 in
theorem q522 : Cond.selects "RosterSolve" y_R_swap y_R_swap ∈ TBG := tbm 522 rfl rfl
set_option maxRecDepth 100000 in
theorem q524 : Cond.methodLink "RosterSolve" 128 y_R_refuseSame ∈ TBG := tbm 524 rfl rfl
set_option maxRecDepth 100000 in
theorem q525 : Cond.static y_R_refuseSame ∈ TBG := tbm 525 rfl rfl
set_option maxRecDepth 100000 in
theorem q527 : Cond.stringRef "RosterSolve" 169 "the two persons are one" ∈ tables_1 := List.mem_of_getElem? (i := 527) rfl
set_option maxRecDepth 100000 in
theorem q528 : Cond.methodLink "RosterSolve" 131 y_R_exchange ∈ TBG := tbm 528 rfl rfl
set_option maxRecDepth 100000 in
theorem q530 : Cond.instanceMethod y_R_exchange ∈ TBG := tbm 530 rfl rfl
set_option maxRecDepth 100000 in
theorem q532 : Cond.stringRef "RosterSolve" 140 "the roster would not be right" ∈ tables_1 := List.mem_of_getElem? (i := 532) rfl
set_option maxRecDepth 100000 in
theorem q533 : Cond.methodLink "RosterSolveLaw" 118 y_L_shift ∈ TBG := tbm 533 rfl rfl
set_option maxRecDepth 100000 in
theorem q534 : Cond.static y_L_shift ∈ TBG := tbm 534 rfl rfl
set_option maxRecDepth 100000 in
theorem q536 : Cond.methodLink "RosterSolveLaw" 57 y_R_shift ∈ TBG := tbm 536 rfl rfl
set_option maxRecDepth 100000 in
theorem q537 : Cond.instanceMethod y_R_shift ∈ TBG := tbm 537 rfl rfl
set_option maxRecDepth 100000 in
theorem q538 : Cond.selects "RosterSolve" y_R_shift y_R_shift ∈ TBG := tbm 538 rfl rfl
set_option maxRecDepth 100000 in
theorem q540 : Cond.methodLink "RosterSolveLaw" 133 y_L_share ∈ TBG := tbm 540 rfl rfl
set_option maxRecDepth 100000 in
theorem q541 : Cond.static y_L_share ∈ TBG := tbm 541 rfl rfl
set_option maxRecDepth 100000 in
theorem q543 : Cond.classLink "RosterSolveLaw" 63 "java/lang/ArithmeticException" ∈ TBG := tbm 543 rfl rfl
set_option maxRecDepth 100000 in
theorem q544 : Cond.methodLink "RosterSolveLaw" 60 y_R_share ∈ TBG := tbm 544 rfl rfl
set_option maxRecDepth 100000 in
theorem q545 : Cond.instanceMethod y_R_share ∈ TBG := tbm 545 rfl rfl
set_option maxRecDepth 100000 in
theorem q546 : Cond.selects "RosterSolve" y_R_share y_R_share ∈ TBG := tbm 546 rfl rfl
set_option maxRecDepth 100000 in
theorem q548 : Cond.classLink "RosterSolve" 151 "java/lang/ArithmeticException" ∈ TBG := tbm 548 rfl rfl
set_option maxRecDepth 100000 in
theorem q549 : Cond.instantiable "java/lang/ArithmeticException" 6 ∈ TBG := tbm 549 rfl rfl
set_option maxRecDepth 100000 in
theorem q550 : Cond.castable "java/lang/ArithmeticException" "java/lang/ArithmeticException" ∈ tables_1 := List.mem_of_getElem? (i := 550) rfl
set_option maxRecDepth 100000 in
theorem q551 : Cond.selects "java/lang/ArithmeticException" ⟨"java/lang/Throwable", "fillInStackTrace", "(I)Ljava/lang/Throwable;"⟩ ⟨"java/lang/Throwable", "fillInStackTrace", "(I)Ljava/lang/Throwable;"⟩ ∈ TBG := tbm 551 rfl rfl
set_option maxRecDepth 100000 in
theorem q557 : Cond.stringRef "RosterSolve" 153 "all cost 0" ∈ tables_1 := List.mem_of_getElem? (i := 557) rfl
set_option maxRecDepth 100000 in
theorem q558 : Cond.methodLink "RosterSolve" 155 ⟨"java/lang/ArithmeticException", "<init>", "(Ljava/lang/String;)V"⟩ ∈ TBG := tbm 558 rfl rfl
set_option maxRecDepth 100000 in
theorem q559 : Cond.instanceMethod ⟨"java/lang/ArithmeticException", "<init>", "(Ljava/lang/String;)V"⟩ ∈ TBG := tbm 559 rfl rfl
set_option maxRecDepth 100000 in
theorem q561 : Cond.methodLink "java/lang/ArithmeticException" 7 ⟨"java/lang/RuntimeException", "<init>", "(Ljava/lang/String;)V"⟩ ∈ TBG := tbm 561 rfl rfl
set_option maxRecDepth 100000 in
theorem q564 : Cond.constantLong "RosterSolve" 156 (1000 : Int64) ∈ TBG := tbm 564 rfl rfl
set_option maxRecDepth 100000 in
theorem q565 : Cond.methodLinkNest "RosterSolve" 158 y_P_costOfOne "RosterSolve" ∈ tables_1 := List.mem_of_getElem? (i := 565) rfl
set_option maxRecDepth 100000 in
theorem q566 : Cond.methodLink "RosterSolveLaw" 140 y_L_count ∈ TBG := tbm 566 rfl rfl
set_option maxRecDepth 100000 in
theorem q567 : Cond.static y_L_count ∈ TBG := tbm 567 rfl rfl
set_option maxRecDepth 100000 in
theorem q569 : Cond.methodLink "RosterSolveLaw" 65 y_R_count ∈ TBG := tbm 569 rfl rfl
set_option maxRecDepth 100000 in
theorem q570 : Cond.instanceMethod y_R_count ∈ TBG := tbm 570 rfl rfl
set_option maxRecDepth 100000 in
theorem q571 : Cond.selects "RosterSolve" y_R_count y_R_count ∈ TBG := tbm 571 rfl rfl
set_option maxRecDepth 100000 in
theorem q573 : Cond.classLink "RosterSolveLaw" 69 "RosterSolveModel" ∈ TBG := tbm 573 rfl rfl
set_option maxRecDepth 100000 in
theorem q574 : Cond.instantiable "RosterSolveModel" 26 ∈ TBG := tbm 574 rfl rfl
set_option maxRecDepth 100000 in
theorem q575 : Cond.methodLink "RosterSolveLaw" 71 y_M_init ∈ TBG := tbm 575 rfl rfl
set_option maxRecDepth 100000 in
theorem q576 : Cond.instanceMethod y_M_init ∈ TBG := tbm 576 rfl rfl
set_option maxRecDepth 100000 in
theorem q578 : Cond.methodLink "RosterSolveModel" 1 objectInit ∈ TBG := tbm 578 rfl rfl
set_option maxRecDepth 100000 in
theorem q579 : Cond.fieldLink "RosterSolveModel" 63 "RosterSolveModel" "thrown" "I" ∈ TBG := tbm 579 rfl rfl
set_option maxRecDepth 100000 in
theorem q580 : Cond.fieldLink "RosterSolveModel" 66 "RosterSolveModel" "persons" "I" ∈ TBG := tbm 580 rfl rfl
set_option maxRecDepth 100000 in
theorem q581 : Cond.fieldLink "RosterSolveModel" 73 "RosterSolveModel" "days" "I" ∈ TBG := tbm 581 rfl rfl
set_option maxRecDepth 100000 in
theorem q582 : Cond.fieldLink "RosterSolveModel" 80 "RosterSolveModel" "frozen" "I" ∈ TBG := tbm 582 rfl rfl
set_option maxRecDepth 100000 in
theorem q583 : Cond.fieldLink "RosterSolveModel" 7 "RosterSolveModel" "skills" "[I" ∈ TBG := tbm 583 rfl rfl
set_option maxRecDepth 100000 in
theorem q584 : Cond.fieldLink "RosterSolveModel" 13 "RosterSolveModel" "rate" "[I" ∈ TBG := tbm 584 rfl rfl
set_option maxRecDepth 100000 in
theorem q585 : Cond.fieldLink "RosterSolveModel" 16 "RosterSolveModel" "roster" "[I" ∈ TBG := tbm 585 rfl rfl
set_option maxRecDepth 100000 in
theorem q586 : Cond.fieldLink "RosterSolveModel" 19 "RosterSolveModel" "tried" "[I" ∈ TBG := tbm 586 rfl rfl
set_option maxRecDepth 100000 in
theorem q587 : Cond.fieldLink "RosterSolveModel" 22 "RosterSolveModel" "best" "[I" ∈ TBG := tbm 587 rfl rfl
set_option maxRecDepth 100000 in
theorem q588 : Cond.fieldLink "RosterSolveModel" 25 "RosterSolveModel" "published" "[I" ∈ TBG := tbm 588 rfl rfl
set_option maxRecDepth 100000 in
theorem q589 : Cond.fieldLink "RosterSolveModel" 150 "RosterSolveModel" "editions" "I" ∈ TBG := tbm 589 rfl rfl
set_option maxRecDepth 100000 in
theorem q590 : Cond.fieldLink "RosterSolveModel" 28 "RosterSolveModel" "needs" "[I" ∈ TBG := tbm 590 rfl rfl
set_option maxRecDepth 100000 in
theorem q591 : Cond.fieldLink "RosterSolveModel" 31 "RosterSolveModel" "needSkills" "[I" ∈ TBG := tbm 591 rfl rfl
set_option maxRecDepth 100000 in
theorem q592 : Cond.fieldLink "RosterSolveModel" 34 "RosterSolveModel" "bars" "[Z" ∈ TBG := tbm 592 rfl rfl
set_option maxRecDepth 100000 in
theorem q593 : Cond.fieldLink "RosterSolveModel" 38 "RosterSolveModel" "rest" "I" ∈ TBG := tbm 593 rfl rfl
set_option maxRecDepth 100000 in
theorem q594 : Cond.fieldLink "RosterSolveModel" 42 "RosterSolveModel" "most" "I" ∈ TBG := tbm 594 rfl rfl
set_option maxRecDepth 100000 in
theorem q595 : Cond.fieldLink "RosterSolveModel" 45 "RosterSolveModel" "nights" "I" ∈ TBG := tbm 595 rfl rfl
set_option maxRecDepth 100000 in
theorem q596 : Cond.fieldLink "RosterSolveModel" 83 "RosterSolveModel" "wishes" "I" ∈ TBG := tbm 596 rfl rfl
set_option maxRecDepth 100000 in
theorem q597 : Cond.fieldLink "RosterSolveModel" 48 "RosterSolveModel" "wishPerson" "[I" ∈ TBG := tbm 597 rfl rfl
set_option maxRecDepth 100000 in
theorem q598 : Cond.fieldLink "RosterSolveModel" 51 "RosterSolveModel" "wishDay" "[I" ∈ TBG := tbm 598 rfl rfl
set_option maxRecDepth 100000 in
theorem q599 : Cond.fieldLink "RosterSolveModel" 54 "RosterSolveModel" "wishShift" "[I" ∈ TBG := tbm 599 rfl rfl
set_option maxRecDepth 100000 in
theorem q600 : Cond.fieldLink "RosterSolveModel" 57 "RosterSolveModel" "wishWants" "[Z" ∈ TBG := tbm 600 rfl rfl
set_option maxRecDepth 100000 in
theorem q601 : Cond.fieldLink "RosterSolveModel" 60 "RosterSolveModel" "weight" "[I" ∈ TBG := tbm 601 rfl rfl
set_option maxRecDepth 100000 in
theorem q602 : Cond.fieldLink "RosterSolveModel" 122 "RosterSolveModel" "exact" "Z" ∈ TBG := tbm 602 rfl rfl
set_option maxRecDepth 100000 in
theorem q603 : Cond.fieldLink "RosterSolveModel" 119 "RosterSolveModel" "steps" "I" ∈ TBG := tbm 603 rfl rfl
set_option maxRecDepth 100000 in
theorem q604 : Cond.fieldLink "RosterSolveModel" 130 "RosterSolveModel" "rights" "I" ∈ TBG := tbm 604 rfl rfl
set_option maxRecDepth 100000 in
theorem q658 : Cond.methodLink "RosterSolveLaw" 78 y_M_thrown ∈ TBG := tbm 658 rfl rfl
set_option maxRecDepth 100000 in
theorem q659 : Cond.instanceMethod y_M_thrown ∈ TBG := tbm 659 rfl rfl
set_option maxRecDepth 100000 in
theorem q660 : Cond.selects "RosterSolveModel" y_M_thrown y_M_thrown ∈ TBG := tbm 660 rfl rfl
set_option maxRecDepth 100000 in
theorem q662 : Cond.methodLink "RosterSolveLaw" 77 y_M_days ∈ TBG := tbm 662 rfl rfl
set_option maxRecDepth 100000 in
theorem q663 : Cond.instanceMethod y_M_days ∈ TBG := tbm 663 rfl rfl
set_option maxRecDepth 100000 in
theorem q664 : Cond.selects "RosterSolveModel" y_M_days y_M_days ∈ TBG := tbm 664 rfl rfl
set_option maxRecDepth 100000 in
theorem q666 : Cond.methodLink "RosterSolveModel" 69 y_M_in ∈ TBG := tbm 666 rfl rfl
set_option maxRecDepth 100000 in
theorem q667 : Cond.static y_M_in ∈ TBG := tbm 667 rfl rfl
set_option maxRecDepth 100000 in
theorem q669 : Cond.methodLink "RosterSolveModel" 76 y_M_throwing ∈ TBG := tbm 669 rfl rfl
set_option maxRecDepth 100000 in
theorem q671 : Cond.instanceMethod y_M_throwing ∈ TBG := tbm 671 rfl rfl
set_option maxRecDepth 100000 in
theorem q673 : Cond.methodLink "RosterSolveLaw" 85 y_M_person ∈ TBG := tbm 673 rfl rfl
set_option maxRecDepth 100000 in
theorem q674 : Cond.instanceMethod y_M_person ∈ TBG := tbm 674 rfl rfl
set_option maxRecDepth 100000 in
theorem q675 : Cond.selects "RosterSolveModel" y_M_person y_M_person ∈ TBG := tbm 675 rfl rfl
set_option maxRecDepth 100000 in
theorem q677 : Cond.methodLink "RosterSolveLaw" 89 y_M_need ∈ TBG := tbm 677 rfl rfl
set_option maxRecDepth 100000 in
theorem q678 : Cond.instanceMethod y_M_need ∈ TBG := tbm 678 rfl rfl
set_option maxRecDepth 100000 in
theorem q679 : Cond.selects "RosterSolveModel" y_M_need y_M_need ∈ TBG := tbm 679 rfl rfl
set_option maxRecDepth 100000 in
theorem q681 : Cond.methodLink "RosterSolveModel" 86 y_M_isDay ∈ TBG := tbm 681 rfl rfl
set_option maxRecDepth 100000 in
theorem q683 : Cond.instanceMethod y_M_isDay ∈ TBG := tbm 683 rfl rfl
set_option maxRecDepth 100000 in
theorem q685 : Cond.methodLink "RosterSolveLaw" 93 y_M_rules ∈ TBG := tbm 685 rfl rfl
set_option maxRecDepth 100000 in
theorem q686 : Cond.instanceMethod y_M_rules ∈ TBG := tbm 686 rfl rfl
set_option maxRecDepth 100000 in
theorem q687 : Cond.selects "RosterSolveModel" y_M_rules y_M_rules ∈ TBG := tbm 687 rfl rfl
set_option maxRecDepth 100000 in
theorem q689 : Cond.methodLink "RosterSolveLaw" 97 y_M_bar ∈ TBG := tbm 689 rfl rfl
set_option maxRecDepth 100000 in
theorem q690 : Cond.instanceMethod y_M_bar ∈ TBG := tbm 690 rfl rfl
set_option maxRecDepth 100000 in
theorem q691 : Cond.selects "RosterSolveModel" y_M_bar y_M_bar ∈ TBG := tbm 691 rfl rfl
set_option maxRecDepth 100000 in
theorem q693 : Cond.methodLink "RosterSolveModel" 90 y_M_isPerson ∈ TBG := tbm 693 rfl rfl
set_option maxRecDepth 100000 in
theorem q695 : Cond.instanceMethod y_M_isPerson ∈ TBG := tbm 695 rfl rfl
set_option maxRecDepth 100000 in
theorem q697 : Cond.methodLink "RosterSolveLaw" 101 y_M_wish ∈ TBG := tbm 697 rfl rfl
set_option maxRecDepth 100000 in
theorem q698 : Cond.instanceMethod y_M_wish ∈ TBG := tbm 698 rfl rfl
set_option maxRecDepth 100000 in
theorem q699 : Cond.selects "RosterSolveModel" y_M_wish y_M_wish ∈ TBG := tbm 699 rfl rfl
set_option maxRecDepth 100000 in
theorem q701 : Cond.methodLink "RosterSolveLaw" 104 y_M_freeze ∈ TBG := tbm 701 rfl rfl
set_option maxRecDepth 100000 in
theorem q702 : Cond.instanceMethod y_M_freeze ∈ TBG := tbm 702 rfl rfl
set_option maxRecDepth 100000 in
theorem q703 : Cond.selects "RosterSolveModel" y_M_freeze y_M_freeze ∈ TBG := tbm 703 rfl rfl
set_option maxRecDepth 100000 in
theorem q705 : Cond.methodLink "RosterSolveLaw" 107 y_M_set ∈ TBG := tbm 705 rfl rfl
set_option maxRecDepth 100000 in
theorem q706 : Cond.instanceMethod y_M_set ∈ TBG := tbm 706 rfl rfl
set_option maxRecDepth 100000 in
theorem q707 : Cond.selects "RosterSolveModel" y_M_set y_M_set ∈ TBG := tbm 707 rfl rfl
set_option maxRecDepth 100000 in
theorem q709 : Cond.methodLink "RosterSolveLaw" 111 y_M_solve ∈ TBG := tbm 709 rfl rfl
set_option maxRecDepth 100000 in
theorem q710 : Cond.instanceMethod y_M_solve ∈ TBG := tbm 710 rfl rfl
set_option maxRecDepth 100000 in
theorem q711 : Cond.selects "RosterSolveModel" y_M_solve y_M_solve ∈ TBG := tbm 711 rfl rfl
set_option maxRecDepth 100000 in
theorem q713 : Cond.methodLink "RosterSolveModel" 111 y_M_areMet ∈ TBG := tbm 713 rfl rfl
set_option maxRecDepth 100000 in
theorem q715 : Cond.instanceMethod y_M_areMet ∈ TBG := tbm 715 rfl rfl
set_option maxRecDepth 100000 in
theorem q717 : Cond.methodLink "RosterSolveModel" 97 y_M_isMet ∈ TBG := tbm 717 rfl rfl
set_option maxRecDepth 100000 in
theorem q719 : Cond.instanceMethod y_M_isMet ∈ TBG := tbm 719 rfl rfl
set_option maxRecDepth 100000 in
theorem q721 : Cond.methodLink "RosterSolveModel" 133 y_M_search ∈ TBG := tbm 721 rfl rfl
set_option maxRecDepth 100000 in
theorem q723 : Cond.instanceMethod y_M_search ∈ TBG := tbm 723 rfl rfl
set_option maxRecDepth 100000 in
theorem q725 : Cond.methodLink "RosterSolveModel" 126 y_M_givesUp ∈ TBG := tbm 725 rfl rfl
set_option maxRecDepth 100000 in
theorem q727 : Cond.instanceMethod y_M_givesUp ∈ TBG := tbm 727 rfl rfl
set_option maxRecDepth 100000 in
theorem q729 : Cond.methodLink "RosterSolveModel" 101 y_M_isTired ∈ TBG := tbm 729 rfl rfl
set_option maxRecDepth 100000 in
theorem q731 : Cond.instanceMethod y_M_isTired ∈ TBG := tbm 731 rfl rfl
set_option maxRecDepth 100000 in
theorem q733 : Cond.methodLink "RosterSolveModel" 93 y_M_between ∈ TBG := tbm 733 rfl rfl
set_option maxRecDepth 100000 in
theorem q734 : Cond.static y_M_between ∈ TBG := tbm 734 rfl rfl
set_option maxRecDepth 100000 in
theorem q736 : Cond.methodLink "RosterSolveModel" 108 y_M_many ∈ TBG := tbm 736 rfl rfl
set_option maxRecDepth 100000 in
theorem q737 : Cond.static y_M_many ∈ TBG := tbm 737 rfl rfl
set_option maxRecDepth 100000 in
theorem q739 : Cond.methodLink "RosterSolveModel" 104 y_M_nightsTo ∈ TBG := tbm 739 rfl rfl
set_option maxRecDepth 100000 in
theorem q740 : Cond.static y_M_nightsTo ∈ TBG := tbm 740 rfl rfl
set_option maxRecDepth 100000 in
theorem q742 : Cond.methodLink "RosterSolveModel" 115 y_M_unmetTo ∈ TBG := tbm 742 rfl rfl
set_option maxRecDepth 100000 in
theorem q744 : Cond.instanceMethod y_M_unmetTo ∈ TBG := tbm 744 rfl rfl
set_option maxRecDepth 100000 in
theorem q746 : Cond.methodLink "RosterSolveLaw" 114 y_M_solved ∈ TBG := tbm 746 rfl rfl
set_option maxRecDepth 100000 in
theorem q747 : Cond.instanceMethod y_M_solved ∈ TBG := tbm 747 rfl rfl
set_option maxRecDepth 100000 in
theorem q748 : Cond.selects "RosterSolveModel" y_M_solved y_M_solved ∈ TBG := tbm 748 rfl rfl
set_option maxRecDepth 100000 in
theorem q750 : Cond.methodLink "RosterSolveLaw" 117 y_M_swap ∈ TBG := tbm 750 rfl rfl
set_option maxRecDepth 100000 in
theorem q751 : Cond.instanceMethod y_M_swap ∈ TBG := tbm 751 rfl rfl
set_option maxRecDepth 100000 in
theorem q752 : Cond.selects "RosterSolveModel" y_M_swap y_M_swap ∈ TBG := tbm 752 rfl rfl
set_option maxRecDepth 100000 in
theorem q754 : Cond.methodLink "RosterSolveModel" 137 y_M_wrongWith ∈ TBG := tbm 754 rfl rfl
set_option maxRecDepth 100000 in
theorem q756 : Cond.instanceMethod y_M_wrongWith ∈ TBG := tbm 756 rfl rfl
set_option maxRecDepth 100000 in
theorem q758 : Cond.methodLink "RosterSolveLaw" 120 y_M_shift ∈ TBG := tbm 758 rfl rfl
set_option maxRecDepth 100000 in
theorem q759 : Cond.instanceMethod y_M_shift ∈ TBG := tbm 759 rfl rfl
set_option maxRecDepth 100000 in
theorem q760 : Cond.selects "RosterSolveModel" y_M_shift y_M_shift ∈ TBG := tbm 760 rfl rfl
set_option maxRecDepth 100000 in
theorem q762 : Cond.methodLink "RosterSolveLaw" 124 y_M_wrong ∈ TBG := tbm 762 rfl rfl
set_option maxRecDepth 100000 in
theorem q763 : Cond.instanceMethod y_M_wrong ∈ TBG := tbm 763 rfl rfl
set_option maxRecDepth 100000 in
theorem q764 : Cond.selects "RosterSolveModel" y_M_wrong y_M_wrong ∈ TBG := tbm 764 rfl rfl
set_option maxRecDepth 100000 in
theorem q766 : Cond.methodLink "RosterSolveLaw" 128 y_M_unmet ∈ TBG := tbm 766 rfl rfl
set_option maxRecDepth 100000 in
theorem q767 : Cond.instanceMethod y_M_unmet ∈ TBG := tbm 767 rfl rfl
set_option maxRecDepth 100000 in
theorem q768 : Cond.selects "RosterSolveModel" y_M_unmet y_M_unmet ∈ TBG := tbm 768 rfl rfl
set_option maxRecDepth 100000 in
theorem q770 : Cond.methodLink "RosterSolveLaw" 132 y_M_cost ∈ TBG := tbm 770 rfl rfl
set_option maxRecDepth 100000 in
theorem q771 : Cond.instanceMethod y_M_cost ∈ TBG := tbm 771 rfl rfl
set_option maxRecDepth 100000 in
theorem q772 : Cond.selects "RosterSolveModel" y_M_cost y_M_cost ∈ TBG := tbm 772 rfl rfl
set_option maxRecDepth 100000 in
theorem q774 : Cond.methodLink "RosterSolveModel" 141 y_M_costOf ∈ TBG := tbm 774 rfl rfl
set_option maxRecDepth 100000 in
theorem q776 : Cond.instanceMethod y_M_costOf ∈ TBG := tbm 776 rfl rfl
set_option maxRecDepth 100000 in
theorem q778 : Cond.methodLink "RosterSolveLaw" 135 y_M_share ∈ TBG := tbm 778 rfl rfl
set_option maxRecDepth 100000 in
theorem q779 : Cond.instanceMethod y_M_share ∈ TBG := tbm 779 rfl rfl
set_option maxRecDepth 100000 in
theorem q780 : Cond.selects "RosterSolveModel" y_M_share y_M_share ∈ TBG := tbm 780 rfl rfl
set_option maxRecDepth 100000 in
theorem q782 : Cond.methodLink "RosterSolveModel" 144 y_M_cost ∈ TBG := tbm 782 rfl rfl
set_option maxRecDepth 100000 in
theorem q783 : Cond.constantLong "RosterSolveModel" 148 (1000 : Int64) ∈ TBG := tbm 783 rfl rfl
set_option maxRecDepth 100000 in
theorem q784 : Cond.methodLink "RosterSolveLaw" 139 y_M_publish ∈ TBG := tbm 784 rfl rfl
set_option maxRecDepth 100000 in
theorem q785 : Cond.instanceMethod y_M_publish ∈ TBG := tbm 785 rfl rfl
set_option maxRecDepth 100000 in
theorem q786 : Cond.selects "RosterSolveModel" y_M_publish y_M_publish ∈ TBG := tbm 786 rfl rfl
set_option maxRecDepth 100000 in
theorem q788 : Cond.methodLink "RosterSolveLaw" 142 y_M_count ∈ TBG := tbm 788 rfl rfl
set_option maxRecDepth 100000 in
theorem q789 : Cond.instanceMethod y_M_count ∈ TBG := tbm 789 rfl rfl
set_option maxRecDepth 100000 in
theorem q790 : Cond.selects "RosterSolveModel" y_M_count y_M_count ∈ TBG := tbm 790 rfl rfl
set_option maxRecDepth 100000 in
theorem q792 : Cond.arrayClass .long ∈ TBG := tbm 792 rfl rfl
set_option maxRecDepth 100000 in
theorem q793 : Cond.sameMethod "java/lang/Throwable" "java/lang/Throwable" "fillInStackTrace" "(I)Ljava/lang/Throwable;" ∈ TBG := tbm 793 rfl rfl
end
section
theorem d_R_init_0 : decode b_R_init 0 = .ok (.aload_n 0, 1) := by decide +kernel
theorem d_R_init_1 : decode b_R_init 1 = .ok (.invokespecial 3, 3) := by decide +kernel
theorem d_R_init_4 : decode b_R_init 4 = .ok (.aload_n 0, 1) := by decide +kernel
theorem d_R_init_5 : decode b_R_init 5 = .ok (.new 9, 3) := by decide +kernel
theorem d_R_init_8 : decode b_R_init 8 = .ok (.dup, 1) := by decide +kernel
theorem d_R_init_9 : decode b_R_init 9 = .ok (.invokespecial 11, 3) := by decide +kernel
theorem d_R_init_12 : decode b_R_init 12 = .ok (.putfield 12, 3) := by decide +kernel
theorem d_R_init_15 : decode b_R_init 15 = .ok (.aload_n 0, 1) := by decide +kernel
theorem d_R_init_16 : decode b_R_init 16 = .ok (.new 16, 3) := by decide +kernel
theorem d_R_init_19 : decode b_R_init 19 = .ok (.dup, 1) := by decide +kernel
theorem d_R_init_20 : decode b_R_init 20 = .ok (.aload_n 0, 1) := by decide +kernel
theorem d_R_init_21 : decode b_R_init 21 = .ok (.getfield 12, 3) := by decide +kernel
theorem d_R_init_24 : decode b_R_init 24 = .ok (.invokespecial 18, 3) := by decide +kernel
theorem d_R_init_27 : decode b_R_init 27 = .ok (.putfield 21, 3) := by decide +kernel
theorem d_R_init_30 : decode b_R_init 30 = .ok (.aload_n 0, 1) := by decide +kernel
theorem d_R_init_31 : decode b_R_init 31 = .ok (.bipush 42, 2) := by decide +kernel
theorem d_R_init_33 : decode b_R_init 33 = .ok (.newarray .int, 2) := by decide +kernel
theorem d_R_init_35 : decode b_R_init 35 = .ok (.putfield 25, 3) := by decide +kernel
theorem d_R_init_38 : decode b_R_init 38 = .ok (.aload_n 0, 1) := by decide +kernel
theorem d_R_init_39 : decode b_R_init 39 = .ok (.bipush 42, 2) := by decide +kernel
theorem d_R_init_41 : decode b_R_init 41 = .ok (.newarray .int, 2) := by decide +kernel
theorem d_R_init_43 : decode b_R_init 43 = .ok (.putfield 29, 3) := by decide +kernel
theorem d_R_init_46 : decode b_R_init 46 = .ok (.aload_n 0, 1) := by decide +kernel
theorem d_R_init_47 : decode b_R_init 47 = .ok (.iconst 0, 1) := by decide +kernel
theorem d_R_init_48 : decode b_R_init 48 = .ok (.putfield 32, 3) := by decide +kernel
theorem d_R_init_51 : decode b_R_init 51 = .ok (.aload_n 0, 1) := by decide +kernel
theorem d_R_init_52 : decode b_R_init 52 = .ok (.iconst 0, 1) := by decide +kernel
theorem d_R_init_53 : decode b_R_init 53 = .ok (.putfield 36, 3) := by decide +kernel
theorem d_R_init_56 : decode b_R_init 56 = .ok (.return_, 1) := by decide +kernel
theorem d_R_days_0 : decode b_R_days 0 = .ok (.iload_n 1, 1) := by decide +kernel
theorem d_R_days_1 : decode b_R_days 1 = .ok (.iconst 0, 1) := by decide +kernel
theorem d_R_days_2 : decode b_R_days 2 = .ok (.bipush 7, 2) := by decide +kernel
theorem d_R_days_4 : decode b_R_days 4 = .ok (.invokestatic 39, 3) := by decide +kernel
theorem d_R_days_7 : decode b_R_days 7 = .ok (.aload_n 0, 1) := by decide +kernel
theorem d_R_days_8 : decode b_R_days 8 = .ok (.getfield 12, 3) := by decide +kernel
theorem d_R_days_11 : decode b_R_days 11 = .ok (.iload_n 1, 1) := by decide +kernel
theorem d_R_days_12 : decode b_R_days 12 = .ok (.invokevirtual 43, 3) := by decide +kernel
theorem d_R_days_15 : decode b_R_days 15 = .ok (.aload_n 0, 1) := by decide +kernel
theorem d_R_days_16 : decode b_R_days 16 = .ok (.getfield 25, 3) := by decide +kernel
theorem d_R_days_19 : decode b_R_days 19 = .ok (.invokestatic 47, 3) := by decide +kernel
theorem d_R_days_22 : decode b_R_days 22 = .ok (.aload_n 0, 1) := by decide +kernel
theorem d_R_days_23 : decode b_R_days 23 = .ok (.iconst 0, 1) := by decide +kernel
theorem d_R_days_24 : decode b_R_days 24 = .ok (.putfield 32, 3) := by decide +kernel
theorem d_R_days_27 : decode b_R_days 27 = .ok (.return_, 1) := by decide +kernel
theorem d_R_person_0 : decode b_R_person 0 = .ok (.iload_n 1, 1) := by decide +kernel
theorem d_R_person_1 : decode b_R_person 1 = .ok (.iconst 0, 1) := by decide +kernel
theorem d_R_person_2 : decode b_R_person 2 = .ok (.bipush 15, 2) := by decide +kernel
theorem d_R_person_4 : decode b_R_person 4 = .ok (.invokestatic 39, 3) := by decide +kernel
theorem d_R_person_7 : decode b_R_person 7 = .ok (.iload_n 2, 1) := by decide +kernel
theorem d_R_person_8 : decode b_R_person 8 = .ok (.iconst 0, 1) := by decide +kernel
theorem d_R_person_9 : decode b_R_person 9 = .ok (.sipush 10000, 3) := by decide +kernel
theorem d_R_person_12 : decode b_R_person 12 = .ok (.invokestatic 39, 3) := by decide +kernel
theorem d_R_person_15 : decode b_R_person 15 = .ok (.aload_n 0, 1) := by decide +kernel
theorem d_R_person_16 : decode b_R_person 16 = .ok (.getfield 12, 3) := by decide +kernel
theorem d_R_person_19 : decode b_R_person 19 = .ok (.getfield 51, 3) := by decide +kernel
theorem d_R_person_22 : decode b_R_person 22 = .ok (.bipush 6, 2) := by decide +kernel
theorem d_R_person_24 : decode b_R_person 24 = .ok (.invokestatic 54, 3) := by decide +kernel
theorem d_R_person_27 : decode b_R_person 27 = .ok (.aload_n 0, 1) := by decide +kernel
theorem d_R_person_28 : decode b_R_person 28 = .ok (.getfield 12, 3) := by decide +kernel
theorem d_R_person_31 : decode b_R_person 31 = .ok (.iload_n 1, 1) := by decide +kernel
theorem d_R_person_32 : decode b_R_person 32 = .ok (.iload_n 2, 1) := by decide +kernel
theorem d_R_person_33 : decode b_R_person 33 = .ok (.invokevirtual 58, 3) := by decide +kernel
theorem d_R_person_36 : decode b_R_person 36 = .ok (.ireturn, 1) := by decide +kernel
theorem d_R_need_0 : decode b_R_need 0 = .ok (.aload_n 0, 1) := by decide +kernel
theorem d_R_need_1 : decode b_R_need 1 = .ok (.iload_n 1, 1) := by decide +kernel
theorem d_R_need_2 : decode b_R_need 2 = .ok (.invokevirtual 62, 3) := by decide +kernel
theorem d_R_need_5 : decode b_R_need 5 = .ok (.iload_n 2, 1) := by decide +kernel
theorem d_R_need_6 : decode b_R_need 6 = .ok (.iconst 1, 1) := by decide +kernel
theorem d_R_need_7 : decode b_R_need 7 = .ok (.iconst 3, 1) := by decide +kernel
theorem d_R_need_8 : decode b_R_need 8 = .ok (.invokestatic 65, 3) := by decide +kernel
theorem d_R_need_11 : decode b_R_need 11 = .ok (.iload_n 3, 1) := by decide +kernel
theorem d_R_need_12 : decode b_R_need 12 = .ok (.iconst 0, 1) := by decide +kernel
theorem d_R_need_13 : decode b_R_need 13 = .ok (.bipush 6, 2) := by decide +kernel
theorem d_R_need_15 : decode b_R_need 15 = .ok (.invokestatic 39, 3) := by decide +kernel
theorem d_R_need_18 : decode b_R_need 18 = .ok (.iload 4, 2) := by decide +kernel
theorem d_R_need_20 : decode b_R_need 20 = .ok (.iconst 0, 1) := by decide +kernel
theorem d_R_need_21 : decode b_R_need 21 = .ok (.bipush 15, 2) := by decide +kernel
theorem d_R_need_23 : decode b_R_need 23 = .ok (.invokestatic 39, 3) := by decide +kernel
theorem d_R_need_26 : decode b_R_need 26 = .ok (.aload_n 0, 1) := by decide +kernel
theorem d_R_need_27 : decode b_R_need 27 = .ok (.getfield 12, 3) := by decide +kernel
theorem d_R_need_30 : decode b_R_need 30 = .ok (.iload_n 1, 1) := by decide +kernel
theorem d_R_need_31 : decode b_R_need 31 = .ok (.iload_n 2, 1) := by decide +kernel
theorem d_R_need_32 : decode b_R_need 32 = .ok (.iload_n 3, 1) := by decide +kernel
theorem d_R_need_33 : decode b_R_need 33 = .ok (.iload 4, 2) := by decide +kernel
theorem d_R_need_35 : decode b_R_need 35 = .ok (.invokevirtual 68, 3) := by decide +kernel
theorem d_R_need_38 : decode b_R_need 38 = .ok (.return_, 1) := by decide +kernel
theorem d_R_rules_0 : decode b_R_rules 0 = .ok (.iload_n 1, 1) := by decide +kernel
theorem d_R_rules_1 : decode b_R_rules 1 = .ok (.iconst 0, 1) := by decide +kernel
theorem d_R_rules_2 : decode b_R_rules 2 = .ok (.bipush 24, 2) := by decide +kernel
theorem d_R_rules_4 : decode b_R_rules 4 = .ok (.invokestatic 39, 3) := by decide +kernel
theorem d_R_rules_7 : decode b_R_rules 7 = .ok (.iload_n 2, 1) := by decide +kernel
theorem d_R_rules_8 : decode b_R_rules 8 = .ok (.iconst 0, 1) := by decide +kernel
theorem d_R_rules_9 : decode b_R_rules 9 = .ok (.bipush 7, 2) := by decide +kernel
theorem d_R_rules_11 : decode b_R_rules 11 = .ok (.invokestatic 39, 3) := by decide +kernel
theorem d_R_rules_14 : decode b_R_rules 14 = .ok (.iload_n 3, 1) := by decide +kernel
theorem d_R_rules_15 : decode b_R_rules 15 = .ok (.iconst 0, 1) := by decide +kernel
theorem d_R_rules_16 : decode b_R_rules 16 = .ok (.bipush 7, 2) := by decide +kernel
theorem d_R_rules_18 : decode b_R_rules 18 = .ok (.invokestatic 39, 3) := by decide +kernel
theorem d_R_rules_21 : decode b_R_rules 21 = .ok (.aload_n 0, 1) := by decide +kernel
theorem d_R_rules_22 : decode b_R_rules 22 = .ok (.getfield 12, 3) := by decide +kernel
theorem d_R_rules_25 : decode b_R_rules 25 = .ok (.iload_n 1, 1) := by decide +kernel
theorem d_R_rules_26 : decode b_R_rules 26 = .ok (.iload_n 2, 1) := by decide +kernel
theorem d_R_rules_27 : decode b_R_rules 27 = .ok (.iload_n 3, 1) := by decide +kernel
theorem d_R_rules_28 : decode b_R_rules 28 = .ok (.invokevirtual 72, 3) := by decide +kernel
theorem d_R_rules_31 : decode b_R_rules 31 = .ok (.return_, 1) := by decide +kernel
theorem d_R_bar_0 : decode b_R_bar 0 = .ok (.aload_n 0, 1) := by decide +kernel
theorem d_R_bar_1 : decode b_R_bar 1 = .ok (.iload_n 1, 1) := by decide +kernel
theorem d_R_bar_2 : decode b_R_bar 2 = .ok (.invokevirtual 75, 3) := by decide +kernel
theorem d_R_bar_5 : decode b_R_bar 5 = .ok (.aload_n 0, 1) := by decide +kernel
theorem d_R_bar_6 : decode b_R_bar 6 = .ok (.iload_n 2, 1) := by decide +kernel
theorem d_R_bar_7 : decode b_R_bar 7 = .ok (.invokevirtual 62, 3) := by decide +kernel
theorem d_R_bar_10 : decode b_R_bar 10 = .ok (.iload_n 3, 1) := by decide +kernel
theorem d_R_bar_11 : decode b_R_bar 11 = .ok (.iconst 1, 1) := by decide +kernel
theorem d_R_bar_12 : decode b_R_bar 12 = .ok (.iconst 3, 1) := by decide +kernel
theorem d_R_bar_13 : decode b_R_bar 13 = .ok (.invokestatic 65, 3) := by decide +kernel
theorem d_R_bar_16 : decode b_R_bar 16 = .ok (.aload_n 0, 1) := by decide +kernel
theorem d_R_bar_17 : decode b_R_bar 17 = .ok (.getfield 12, 3) := by decide +kernel
theorem d_R_bar_20 : decode b_R_bar 20 = .ok (.getfield 78, 3) := by decide +kernel
theorem d_R_bar_23 : decode b_R_bar 23 = .ok (.iload_n 1, 1) := by decide +kernel
theorem d_R_bar_24 : decode b_R_bar 24 = .ok (.iload_n 2, 1) := by decide +kernel
theorem d_R_bar_25 : decode b_R_bar 25 = .ok (.iload_n 3, 1) := by decide +kernel
theorem d_R_bar_26 : decode b_R_bar 26 = .ok (.invokestatic 82, 3) := by decide +kernel
theorem d_R_bar_29 : decode b_R_bar 29 = .ok (.iload 4, 2) := by decide +kernel
theorem d_R_bar_31 : decode b_R_bar 31 = .ok (.bastore, 1) := by decide +kernel
theorem d_R_bar_32 : decode b_R_bar 32 = .ok (.return_, 1) := by decide +kernel
theorem d_R_wish_0 : decode b_R_wish 0 = .ok (.aload_n 0, 1) := by decide +kernel
theorem d_R_wish_1 : decode b_R_wish 1 = .ok (.iload_n 1, 1) := by decide +kernel
theorem d_R_wish_2 : decode b_R_wish 2 = .ok (.invokevirtual 75, 3) := by decide +kernel
theorem d_R_wish_5 : decode b_R_wish 5 = .ok (.aload_n 0, 1) := by decide +kernel
theorem d_R_wish_6 : decode b_R_wish 6 = .ok (.iload_n 2, 1) := by decide +kernel
theorem d_R_wish_7 : decode b_R_wish 7 = .ok (.invokevirtual 62, 3) := by decide +kernel
theorem d_R_wish_10 : decode b_R_wish 10 = .ok (.iload_n 3, 1) := by decide +kernel
theorem d_R_wish_11 : decode b_R_wish 11 = .ok (.iconst 0, 1) := by decide +kernel
theorem d_R_wish_12 : decode b_R_wish 12 = .ok (.iconst 3, 1) := by decide +kernel
theorem d_R_wish_13 : decode b_R_wish 13 = .ok (.invokestatic 65, 3) := by decide +kernel
theorem d_R_wish_16 : decode b_R_wish 16 = .ok (.iload 5, 2) := by decide +kernel
theorem d_R_wish_18 : decode b_R_wish 18 = .ok (.iconst 1, 1) := by decide +kernel
theorem d_R_wish_19 : decode b_R_wish 19 = .ok (.bipush 100, 2) := by decide +kernel
theorem d_R_wish_21 : decode b_R_wish 21 = .ok (.invokestatic 39, 3) := by decide +kernel
theorem d_R_wish_24 : decode b_R_wish 24 = .ok (.aload_n 0, 1) := by decide +kernel
theorem d_R_wish_25 : decode b_R_wish 25 = .ok (.iload_n 2, 1) := by decide +kernel
theorem d_R_wish_26 : decode b_R_wish 26 = .ok (.invokevirtual 86, 3) := by decide +kernel
theorem d_R_wish_29 : decode b_R_wish 29 = .ok (.aload_n 0, 1) := by decide +kernel
theorem d_R_wish_30 : decode b_R_wish 30 = .ok (.getfield 12, 3) := by decide +kernel
theorem d_R_wish_33 : decode b_R_wish 33 = .ok (.getfield 89, 3) := by decide +kernel
theorem d_R_wish_36 : decode b_R_wish 36 = .ok (.bipush 20, 2) := by decide +kernel
theorem d_R_wish_38 : decode b_R_wish 38 = .ok (.invokestatic 54, 3) := by decide +kernel
theorem d_R_wish_41 : decode b_R_wish 41 = .ok (.aload_n 0, 1) := by decide +kernel
theorem d_R_wish_42 : decode b_R_wish 42 = .ok (.getfield 12, 3) := by decide +kernel
theorem d_R_wish_45 : decode b_R_wish 45 = .ok (.iload_n 1, 1) := by decide +kernel
theorem d_R_wish_46 : decode b_R_wish 46 = .ok (.iload_n 2, 1) := by decide +kernel
theorem d_R_wish_47 : decode b_R_wish 47 = .ok (.iconst 0, 1) := by decide +kernel
theorem d_R_wish_48 : decode b_R_wish 48 = .ok (.invokestatic 82, 3) := by decide +kernel
theorem d_R_wish_51 : decode b_R_wish 51 = .ok (.iload_n 3, 1) := by decide +kernel
theorem d_R_wish_52 : decode b_R_wish 52 = .ok (.iload 4, 2) := by decide +kernel
theorem d_R_wish_54 : decode b_R_wish 54 = .ok (.iload 5, 2) := by decide +kernel
theorem d_R_wish_56 : decode b_R_wish 56 = .ok (.invokevirtual 92, 3) := by decide +kernel
theorem d_R_wish_59 : decode b_R_wish 59 = .ok (.ireturn, 1) := by decide +kernel
theorem d_R_freeze_0 : decode b_R_freeze 0 = .ok (.iload_n 1, 1) := by decide +kernel
theorem d_R_freeze_1 : decode b_R_freeze 1 = .ok (.aload_n 0, 1) := by decide +kernel
theorem d_R_freeze_2 : decode b_R_freeze 2 = .ok (.getfield 32, 3) := by decide +kernel
theorem d_R_freeze_5 : decode b_R_freeze 5 = .ok (.aload_n 0, 1) := by decide +kernel
theorem d_R_freeze_6 : decode b_R_freeze 6 = .ok (.getfield 12, 3) := by decide +kernel
theorem d_R_freeze_9 : decode b_R_freeze 9 = .ok (.getfield 96, 3) := by decide +kernel
theorem d_R_freeze_12 : decode b_R_freeze 12 = .ok (.invokestatic 39, 3) := by decide +kernel
theorem d_R_freeze_15 : decode b_R_freeze 15 = .ok (.aload_n 0, 1) := by decide +kernel
theorem d_R_freeze_16 : decode b_R_freeze 16 = .ok (.iload_n 1, 1) := by decide +kernel
theorem d_R_freeze_17 : decode b_R_freeze 17 = .ok (.putfield 32, 3) := by decide +kernel
theorem d_R_freeze_20 : decode b_R_freeze 20 = .ok (.return_, 1) := by decide +kernel
theorem d_R_set_0 : decode b_R_set 0 = .ok (.aload_n 0, 1) := by decide +kernel
theorem d_R_set_1 : decode b_R_set 1 = .ok (.iload_n 1, 1) := by decide +kernel
theorem d_R_set_2 : decode b_R_set 2 = .ok (.invokevirtual 75, 3) := by decide +kernel
theorem d_R_set_5 : decode b_R_set 5 = .ok (.aload_n 0, 1) := by decide +kernel
theorem d_R_set_6 : decode b_R_set 6 = .ok (.iload_n 2, 1) := by decide +kernel
theorem d_R_set_7 : decode b_R_set 7 = .ok (.invokevirtual 62, 3) := by decide +kernel
theorem d_R_set_10 : decode b_R_set 10 = .ok (.iload_n 3, 1) := by decide +kernel
theorem d_R_set_11 : decode b_R_set 11 = .ok (.iconst 0, 1) := by decide +kernel
theorem d_R_set_12 : decode b_R_set 12 = .ok (.iconst 3, 1) := by decide +kernel
theorem d_R_set_13 : decode b_R_set 13 = .ok (.invokestatic 65, 3) := by decide +kernel
theorem d_R_set_16 : decode b_R_set 16 = .ok (.aload_n 0, 1) := by decide +kernel
theorem d_R_set_17 : decode b_R_set 17 = .ok (.iload_n 2, 1) := by decide +kernel
theorem d_R_set_18 : decode b_R_set 18 = .ok (.invokevirtual 86, 3) := by decide +kernel
theorem d_R_set_21 : decode b_R_set 21 = .ok (.aload_n 0, 1) := by decide +kernel
theorem d_R_set_22 : decode b_R_set 22 = .ok (.getfield 25, 3) := by decide +kernel
theorem d_R_set_25 : decode b_R_set 25 = .ok (.iload_n 1, 1) := by decide +kernel
theorem d_R_set_26 : decode b_R_set 26 = .ok (.iload_n 2, 1) := by decide +kernel
theorem d_R_set_27 : decode b_R_set 27 = .ok (.invokestatic 99, 3) := by decide +kernel
theorem d_R_set_30 : decode b_R_set 30 = .ok (.iload_n 3, 1) := by decide +kernel
theorem d_R_set_31 : decode b_R_set 31 = .ok (.iastore, 1) := by decide +kernel
theorem d_R_set_32 : decode b_R_set 32 = .ok (.return_, 1) := by decide +kernel
theorem d_R_solve_0 : decode b_R_solve 0 = .ok (.iload_n 1, 1) := by decide +kernel
theorem d_R_solve_1 : decode b_R_solve 1 = .ok (.iconst 0, 1) := by decide +kernel
theorem d_R_solve_2 : decode b_R_solve 2 = .ok (.sipush 20000, 3) := by decide +kernel
theorem d_R_solve_5 : decode b_R_solve 5 = .ok (.invokestatic 39, 3) := by decide +kernel
theorem d_R_solve_8 : decode b_R_solve 8 = .ok (.aload_n 0, 1) := by decide +kernel
theorem d_R_solve_9 : decode b_R_solve 9 = .ok (.getfield 21, 3) := by decide +kernel
theorem d_R_solve_12 : decode b_R_solve 12 = .ok (.aload_n 0, 1) := by decide +kernel
theorem d_R_solve_13 : decode b_R_solve 13 = .ok (.getfield 25, 3) := by decide +kernel
theorem d_R_solve_16 : decode b_R_solve 16 = .ok (.aload_n 0, 1) := by decide +kernel
theorem d_R_solve_17 : decode b_R_solve 17 = .ok (.getfield 32, 3) := by decide +kernel
theorem d_R_solve_20 : decode b_R_solve 20 = .ok (.iload_n 1, 1) := by decide +kernel
theorem d_R_solve_21 : decode b_R_solve 21 = .ok (.invokevirtual 102, 3) := by decide +kernel
theorem d_R_solve_24 : decode b_R_solve 24 = .ok (.aload_n 0, 1) := by decide +kernel
theorem d_R_solve_25 : decode b_R_solve 25 = .ok (.getfield 21, 3) := by decide +kernel
theorem d_R_solve_28 : decode b_R_solve 28 = .ok (.getfield 106, 3) := by decide +kernel
theorem d_R_solve_31 : decode b_R_solve 31 = .ok (.ifCond .ne 5, 3) := by decide +kernel
theorem d_R_solve_34 : decode b_R_solve 34 = .ok (.iconst (-1), 1) := by decide +kernel
theorem d_R_solve_35 : decode b_R_solve 35 = .ok (.ireturn, 1) := by decide +kernel
theorem d_R_solve_36 : decode b_R_solve 36 = .ok (.aload_n 0, 1) := by decide +kernel
theorem d_R_solve_37 : decode b_R_solve 37 = .ok (.getfield 21, 3) := by decide +kernel
theorem d_R_solve_40 : decode b_R_solve 40 = .ok (.getfield 109, 3) := by decide +kernel
theorem d_R_solve_43 : decode b_R_solve 43 = .ok (.iconst 0, 1) := by decide +kernel
theorem d_R_solve_44 : decode b_R_solve 44 = .ok (.aload_n 0, 1) := by decide +kernel
theorem d_R_solve_45 : decode b_R_solve 45 = .ok (.getfield 25, 3) := by decide +kernel
theorem d_R_solve_48 : decode b_R_solve 48 = .ok (.iconst 0, 1) := by decide +kernel
theorem d_R_solve_49 : decode b_R_solve 49 = .ok (.bipush 42, 2) := by decide +kernel
theorem d_R_solve_51 : decode b_R_solve 51 = .ok (.invokestatic 112, 3) := by decide +kernel
theorem d_R_solve_54 : decode b_R_solve 54 = .ok (.aload_n 0, 1) := by decide +kernel
theorem d_R_solve_55 : decode b_R_solve 55 = .ok (.getfield 21, 3) := by decide +kernel
theorem d_R_solve_58 : decode b_R_solve 58 = .ok (.getfield 118, 3) := by decide +kernel
theorem d_R_solve_61 : decode b_R_solve 61 = .ok (.ireturn, 1) := by decide +kernel
theorem d_R_solved_0 : decode b_R_solved 0 = .ok (.iload_n 1, 1) := by decide +kernel
theorem d_R_solved_1 : decode b_R_solved 1 = .ok (.iconst 0, 1) := by decide +kernel
theorem d_R_solved_2 : decode b_R_solved 2 = .ok (.iconst 2, 1) := by decide +kernel
theorem d_R_solved_3 : decode b_R_solved 3 = .ok (.invokestatic 65, 3) := by decide +kernel
theorem d_R_solved_6 : decode b_R_solved 6 = .ok (.iload_n 1, 1) := by decide +kernel
theorem d_R_solved_7 : decode b_R_solved 7 = .ok (.ifCond .ne 19, 3) := by decide +kernel
theorem d_R_solved_10 : decode b_R_solved 10 = .ok (.aload_n 0, 1) := by decide +kernel
theorem d_R_solved_11 : decode b_R_solved 11 = .ok (.getfield 21, 3) := by decide +kernel
theorem d_R_solved_14 : decode b_R_solved 14 = .ok (.getfield 121, 3) := by decide +kernel
theorem d_R_solved_17 : decode b_R_solved 17 = .ok (.ifCond .eq 7, 3) := by decide +kernel
theorem d_R_solved_20 : decode b_R_solved 20 = .ok (.iconst 1, 1) := by decide +kernel
theorem d_R_solved_21 : decode b_R_solved 21 = .ok (.goto 4, 3) := by decide +kernel
theorem d_R_solved_24 : decode b_R_solved 24 = .ok (.iconst 0, 1) := by decide +kernel
theorem d_R_solved_25 : decode b_R_solved 25 = .ok (.ireturn, 1) := by decide +kernel
theorem d_R_solved_26 : decode b_R_solved 26 = .ok (.iload_n 1, 1) := by decide +kernel
theorem d_R_solved_27 : decode b_R_solved 27 = .ok (.iconst 1, 1) := by decide +kernel
theorem d_R_solved_28 : decode b_R_solved 28 = .ok (.if_icmp .ne 13, 3) := by decide +kernel
theorem d_R_solved_31 : decode b_R_solved 31 = .ok (.aload_n 0, 1) := by decide +kernel
theorem d_R_solved_32 : decode b_R_solved 32 = .ok (.getfield 21, 3) := by decide +kernel
theorem d_R_solved_35 : decode b_R_solved 35 = .ok (.getfield 125, 3) := by decide +kernel
theorem d_R_solved_38 : decode b_R_solved 38 = .ok (.goto 10, 3) := by decide +kernel
theorem d_R_solved_41 : decode b_R_solved 41 = .ok (.aload_n 0, 1) := by decide +kernel
theorem d_R_solved_42 : decode b_R_solved 42 = .ok (.getfield 21, 3) := by decide +kernel
theorem d_R_solved_45 : decode b_R_solved 45 = .ok (.getfield 106, 3) := by decide +kernel
theorem d_R_solved_48 : decode b_R_solved 48 = .ok (.ireturn, 1) := by decide +kernel
theorem d_R_swap_0 : decode b_R_swap 0 = .ok (.aload_n 0, 1) := by decide +kernel
theorem d_R_swap_1 : decode b_R_swap 1 = .ok (.iload_n 1, 1) := by decide +kernel
theorem d_R_swap_2 : decode b_R_swap 2 = .ok (.invokevirtual 75, 3) := by decide +kernel
theorem d_R_swap_5 : decode b_R_swap 5 = .ok (.aload_n 0, 1) := by decide +kernel
theorem d_R_swap_6 : decode b_R_swap 6 = .ok (.iload_n 2, 1) := by decide +kernel
theorem d_R_swap_7 : decode b_R_swap 7 = .ok (.invokevirtual 75, 3) := by decide +kernel
theorem d_R_swap_10 : decode b_R_swap 10 = .ok (.iload_n 1, 1) := by decide +kernel
theorem d_R_swap_11 : decode b_R_swap 11 = .ok (.iload_n 2, 1) := by decide +kernel
theorem d_R_swap_12 : decode b_R_swap 12 = .ok (.invokestatic 128, 3) := by decide +kernel
theorem d_R_swap_15 : decode b_R_swap 15 = .ok (.aload_n 0, 1) := by decide +kernel
theorem d_R_swap_16 : decode b_R_swap 16 = .ok (.iload_n 3, 1) := by decide +kernel
theorem d_R_swap_17 : decode b_R_swap 17 = .ok (.invokevirtual 62, 3) := by decide +kernel
theorem d_R_swap_20 : decode b_R_swap 20 = .ok (.aload_n 0, 1) := by decide +kernel
theorem d_R_swap_21 : decode b_R_swap 21 = .ok (.iload_n 3, 1) := by decide +kernel
theorem d_R_swap_22 : decode b_R_swap 22 = .ok (.invokevirtual 86, 3) := by decide +kernel
theorem d_R_swap_25 : decode b_R_swap 25 = .ok (.aload_n 0, 1) := by decide +kernel
theorem d_R_swap_26 : decode b_R_swap 26 = .ok (.iload_n 1, 1) := by decide +kernel
theorem d_R_swap_27 : decode b_R_swap 27 = .ok (.iload_n 3, 1) := by decide +kernel
theorem d_R_swap_28 : decode b_R_swap 28 = .ok (.invokestatic 99, 3) := by decide +kernel
theorem d_R_swap_31 : decode b_R_swap 31 = .ok (.iload_n 2, 1) := by decide +kernel
theorem d_R_swap_32 : decode b_R_swap 32 = .ok (.iload_n 3, 1) := by decide +kernel
theorem d_R_swap_33 : decode b_R_swap 33 = .ok (.invokestatic 99, 3) := by decide +kernel
theorem d_R_swap_36 : decode b_R_swap 36 = .ok (.invokevirtual 131, 3) := by decide +kernel
theorem d_R_swap_39 : decode b_R_swap 39 = .ok (.aload_n 0, 1) := by decide +kernel
theorem d_R_swap_40 : decode b_R_swap 40 = .ok (.getfield 12, 3) := by decide +kernel
theorem d_R_swap_43 : decode b_R_swap 43 = .ok (.aload_n 0, 1) := by decide +kernel
theorem d_R_swap_44 : decode b_R_swap 44 = .ok (.getfield 25, 3) := by decide +kernel
theorem d_R_swap_47 : decode b_R_swap 47 = .ok (.invokevirtual 134, 3) := by decide +kernel
theorem d_R_swap_50 : decode b_R_swap 50 = .ok (.ifCond .eq 27, 3) := by decide +kernel
theorem d_R_swap_53 : decode b_R_swap 53 = .ok (.aload_n 0, 1) := by decide +kernel
theorem d_R_swap_54 : decode b_R_swap 54 = .ok (.iload_n 1, 1) := by decide +kernel
theorem d_R_swap_55 : decode b_R_swap 55 = .ok (.iload_n 3, 1) := by decide +kernel
theorem d_R_swap_56 : decode b_R_swap 56 = .ok (.invokestatic 99, 3) := by decide +kernel
theorem d_R_swap_59 : decode b_R_swap 59 = .ok (.iload_n 2, 1) := by decide +kernel
theorem d_R_swap_60 : decode b_R_swap 60 = .ok (.iload_n 3, 1) := by decide +kernel
theorem d_R_swap_61 : decode b_R_swap 61 = .ok (.invokestatic 99, 3) := by decide +kernel
theorem d_R_swap_64 : decode b_R_swap 64 = .ok (.invokevirtual 131, 3) := by decide +kernel
theorem d_R_swap_67 : decode b_R_swap 67 = .ok (.new 138, 3) := by decide +kernel
theorem d_R_swap_70 : decode b_R_swap 70 = .ok (.dup, 1) := by decide +kernel
theorem d_R_swap_71 : decode b_R_swap 71 = .ok (.ldc 140, 2) := by decide +kernel
theorem d_R_swap_73 : decode b_R_swap 73 = .ok (.invokespecial 142, 3) := by decide +kernel
theorem d_R_swap_76 : decode b_R_swap 76 = .ok (.athrow, 1) := by decide +kernel
theorem d_R_swap_77 : decode b_R_swap 77 = .ok (.return_, 1) := by decide +kernel
theorem d_R_shift_0 : decode b_R_shift 0 = .ok (.aload_n 0, 1) := by decide +kernel
theorem d_R_shift_1 : decode b_R_shift 1 = .ok (.iload_n 1, 1) := by decide +kernel
theorem d_R_shift_2 : decode b_R_shift 2 = .ok (.invokevirtual 75, 3) := by decide +kernel
theorem d_R_shift_5 : decode b_R_shift 5 = .ok (.aload_n 0, 1) := by decide +kernel
theorem d_R_shift_6 : decode b_R_shift 6 = .ok (.iload_n 2, 1) := by decide +kernel
theorem d_R_shift_7 : decode b_R_shift 7 = .ok (.invokevirtual 62, 3) := by decide +kernel
theorem d_R_shift_10 : decode b_R_shift 10 = .ok (.aload_n 0, 1) := by decide +kernel
theorem d_R_shift_11 : decode b_R_shift 11 = .ok (.getfield 25, 3) := by decide +kernel
theorem d_R_shift_14 : decode b_R_shift 14 = .ok (.iload_n 1, 1) := by decide +kernel
theorem d_R_shift_15 : decode b_R_shift 15 = .ok (.iload_n 2, 1) := by decide +kernel
theorem d_R_shift_16 : decode b_R_shift 16 = .ok (.invokestatic 99, 3) := by decide +kernel
theorem d_R_shift_19 : decode b_R_shift 19 = .ok (.iaload, 1) := by decide +kernel
theorem d_R_shift_20 : decode b_R_shift 20 = .ok (.ireturn, 1) := by decide +kernel
theorem d_R_wrong_0 : decode b_R_wrong 0 = .ok (.aload_n 0, 1) := by decide +kernel
theorem d_R_wrong_1 : decode b_R_wrong 1 = .ok (.getfield 12, 3) := by decide +kernel
theorem d_R_wrong_4 : decode b_R_wrong 4 = .ok (.aload_n 0, 1) := by decide +kernel
theorem d_R_wrong_5 : decode b_R_wrong 5 = .ok (.getfield 25, 3) := by decide +kernel
theorem d_R_wrong_8 : decode b_R_wrong 8 = .ok (.invokevirtual 134, 3) := by decide +kernel
theorem d_R_wrong_11 : decode b_R_wrong 11 = .ok (.ireturn, 1) := by decide +kernel
theorem d_R_unmet_0 : decode b_R_unmet 0 = .ok (.aload_n 0, 1) := by decide +kernel
theorem d_R_unmet_1 : decode b_R_unmet 1 = .ok (.getfield 12, 3) := by decide +kernel
theorem d_R_unmet_4 : decode b_R_unmet 4 = .ok (.aload_n 0, 1) := by decide +kernel
theorem d_R_unmet_5 : decode b_R_unmet 5 = .ok (.getfield 25, 3) := by decide +kernel
theorem d_R_unmet_8 : decode b_R_unmet 8 = .ok (.invokevirtual 145, 3) := by decide +kernel
theorem d_R_unmet_11 : decode b_R_unmet 11 = .ok (.ireturn, 1) := by decide +kernel
theorem d_R_cost_0 : decode b_R_cost 0 = .ok (.aload_n 0, 1) := by decide +kernel
theorem d_R_cost_1 : decode b_R_cost 1 = .ok (.getfield 12, 3) := by decide +kernel
theorem d_R_cost_4 : decode b_R_cost 4 = .ok (.aload_n 0, 1) := by decide +kernel
theorem d_R_cost_5 : decode b_R_cost 5 = .ok (.getfield 25, 3) := by decide +kernel
theorem d_R_cost_8 : decode b_R_cost 8 = .ok (.invokevirtual 148, 3) := by decide +kernel
theorem d_R_cost_11 : decode b_R_cost 11 = .ok (.ireturn, 1) := by decide +kernel
theorem d_R_share_0 : decode b_R_share 0 = .ok (.aload_n 0, 1) := by decide +kernel
theorem d_R_share_1 : decode b_R_share 1 = .ok (.iload_n 1, 1) := by decide +kernel
theorem d_R_share_2 : decode b_R_share 2 = .ok (.invokevirtual 75, 3) := by decide +kernel
theorem d_R_share_5 : decode b_R_share 5 = .ok (.aload_n 0, 1) := by decide +kernel
theorem d_R_share_6 : decode b_R_share 6 = .ok (.getfield 12, 3) := by decide +kernel
theorem d_R_share_9 : decode b_R_share 9 = .ok (.aload_n 0, 1) := by decide +kernel
theorem d_R_share_10 : decode b_R_share 10 = .ok (.getfield 25, 3) := by decide +kernel
theorem d_R_share_13 : decode b_R_share 13 = .ok (.invokevirtual 148, 3) := by decide +kernel
theorem d_R_share_16 : decode b_R_share 16 = .ok (.istore_n 2, 1) := by decide +kernel
theorem d_R_share_17 : decode b_R_share 17 = .ok (.iload_n 2, 1) := by decide +kernel
theorem d_R_share_18 : decode b_R_share 18 = .ok (.ifCond .ne 13, 3) := by decide +kernel
theorem d_R_share_21 : decode b_R_share 21 = .ok (.new 151, 3) := by decide +kernel
theorem d_R_share_24 : decode b_R_share 24 = .ok (.dup, 1) := by decide +kernel
theorem d_R_share_25 : decode b_R_share 25 = .ok (.ldc 153, 2) := by decide +kernel
theorem d_R_share_27 : decode b_R_share 27 = .ok (.invokespecial 155, 3) := by decide +kernel
theorem d_R_share_30 : decode b_R_share 30 = .ok (.athrow, 1) := by decide +kernel
theorem d_R_share_31 : decode b_R_share 31 = .ok (.ldc2_w 156, 3) := by decide +kernel
theorem d_R_share_34 : decode b_R_share 34 = .ok (.aload_n 0, 1) := by decide +kernel
theorem d_R_share_35 : decode b_R_share 35 = .ok (.getfield 12, 3) := by decide +kernel
theorem d_R_share_38 : decode b_R_share 38 = .ok (.aload_n 0, 1) := by decide +kernel
theorem d_R_share_39 : decode b_R_share 39 = .ok (.getfield 25, 3) := by decide +kernel
theorem d_R_share_42 : decode b_R_share 42 = .ok (.iload_n 1, 1) := by decide +kernel
theorem d_R_share_43 : decode b_R_share 43 = .ok (.invokevirtual 158, 3) := by decide +kernel
theorem d_R_share_46 : decode b_R_share 46 = .ok (.i2l, 1) := by decide +kernel
theorem d_R_share_47 : decode b_R_share 47 = .ok (.lmul, 1) := by decide +kernel
theorem d_R_share_48 : decode b_R_share 48 = .ok (.iload_n 2, 1) := by decide +kernel
theorem d_R_share_49 : decode b_R_share 49 = .ok (.i2l, 1) := by decide +kernel
theorem d_R_share_50 : decode b_R_share 50 = .ok (.ldiv, 1) := by decide +kernel
theorem d_R_share_51 : decode b_R_share 51 = .ok (.l2i, 1) := by decide +kernel
theorem d_R_share_52 : decode b_R_share 52 = .ok (.ireturn, 1) := by decide +kernel
theorem d_R_publish_0 : decode b_R_publish 0 = .ok (.iconst 0, 1) := by decide +kernel
theorem d_R_publish_1 : decode b_R_publish 1 = .ok (.istore_n 1, 1) := by decide +kernel
theorem d_R_publish_2 : decode b_R_publish 2 = .ok (.iconst 0, 1) := by decide +kernel
theorem d_R_publish_3 : decode b_R_publish 3 = .ok (.istore_n 2, 1) := by decide +kernel
theorem d_R_publish_4 : decode b_R_publish 4 = .ok (.iload_n 2, 1) := by decide +kernel
theorem d_R_publish_5 : decode b_R_publish 5 = .ok (.aload_n 0, 1) := by decide +kernel
theorem d_R_publish_6 : decode b_R_publish 6 = .ok (.getfield 12, 3) := by decide +kernel
theorem d_R_publish_9 : decode b_R_publish 9 = .ok (.getfield 96, 3) := by decide +kernel
theorem d_R_publish_12 : decode b_R_publish 12 = .ok (.if_icmp .ge 55, 3) := by decide +kernel
theorem d_R_publish_15 : decode b_R_publish 15 = .ok (.iconst 0, 1) := by decide +kernel
theorem d_R_publish_16 : decode b_R_publish 16 = .ok (.istore_n 3, 1) := by decide +kernel
theorem d_R_publish_17 : decode b_R_publish 17 = .ok (.iload_n 3, 1) := by decide +kernel
theorem d_R_publish_18 : decode b_R_publish 18 = .ok (.aload_n 0, 1) := by decide +kernel
theorem d_R_publish_19 : decode b_R_publish 19 = .ok (.getfield 12, 3) := by decide +kernel
theorem d_R_publish_22 : decode b_R_publish 22 = .ok (.getfield 51, 3) := by decide +kernel
theorem d_R_publish_25 : decode b_R_publish 25 = .ok (.if_icmp .ge 36, 3) := by decide +kernel
theorem d_R_publish_28 : decode b_R_publish 28 = .ok (.iload_n 3, 1) := by decide +kernel
theorem d_R_publish_29 : decode b_R_publish 29 = .ok (.iload_n 2, 1) := by decide +kernel
theorem d_R_publish_30 : decode b_R_publish 30 = .ok (.invokestatic 99, 3) := by decide +kernel
theorem d_R_publish_33 : decode b_R_publish 33 = .ok (.istore 4, 2) := by decide +kernel
theorem d_R_publish_35 : decode b_R_publish 35 = .ok (.aload_n 0, 1) := by decide +kernel
theorem d_R_publish_36 : decode b_R_publish 36 = .ok (.getfield 25, 3) := by decide +kernel
theorem d_R_publish_39 : decode b_R_publish 39 = .ok (.iload 4, 2) := by decide +kernel
theorem d_R_publish_41 : decode b_R_publish 41 = .ok (.iaload, 1) := by decide +kernel
theorem d_R_publish_42 : decode b_R_publish 42 = .ok (.aload_n 0, 1) := by decide +kernel
theorem d_R_publish_43 : decode b_R_publish 43 = .ok (.getfield 29, 3) := by decide +kernel
theorem d_R_publish_46 : decode b_R_publish 46 = .ok (.iload 4, 2) := by decide +kernel
theorem d_R_publish_48 : decode b_R_publish 48 = .ok (.iaload, 1) := by decide +kernel
theorem d_R_publish_49 : decode b_R_publish 49 = .ok (.if_icmp .eq 6, 3) := by decide +kernel
theorem d_R_publish_52 : decode b_R_publish 52 = .ok (.iinc 1 1, 3) := by decide +kernel
theorem d_R_publish_55 : decode b_R_publish 55 = .ok (.iinc 3 1, 3) := by decide +kernel
theorem d_R_publish_58 : decode b_R_publish 58 = .ok (.goto (-41), 3) := by decide +kernel
theorem d_R_publish_61 : decode b_R_publish 61 = .ok (.iinc 2 1, 3) := by decide +kernel
theorem d_R_publish_64 : decode b_R_publish 64 = .ok (.goto (-60), 3) := by decide +kernel
theorem d_R_publish_67 : decode b_R_publish 67 = .ok (.aload_n 0, 1) := by decide +kernel
theorem d_R_publish_68 : decode b_R_publish 68 = .ok (.getfield 25, 3) := by decide +kernel
theorem d_R_publish_71 : decode b_R_publish 71 = .ok (.iconst 0, 1) := by decide +kernel
theorem d_R_publish_72 : decode b_R_publish 72 = .ok (.aload_n 0, 1) := by decide +kernel
theorem d_R_publish_73 : decode b_R_publish 73 = .ok (.getfield 29, 3) := by decide +kernel
theorem d_R_publish_76 : decode b_R_publish 76 = .ok (.iconst 0, 1) := by decide +kernel
theorem d_R_publish_77 : decode b_R_publish 77 = .ok (.bipush 42, 2) := by decide +kernel
theorem d_R_publish_79 : decode b_R_publish 79 = .ok (.invokestatic 112, 3) := by decide +kernel
theorem d_R_publish_82 : decode b_R_publish 82 = .ok (.aload_n 0, 1) := by decide +kernel
theorem d_R_publish_83 : decode b_R_publish 83 = .ok (.dup, 1) := by decide +kernel
theorem d_R_publish_84 : decode b_R_publish 84 = .ok (.getfield 36, 3) := by decide +kernel
theorem d_R_publish_87 : decode b_R_publish 87 = .ok (.iconst 1, 1) := by decide +kernel
theorem d_R_publish_88 : decode b_R_publish 88 = .ok (.iadd, 1) := by decide +kernel
theorem d_R_publish_89 : decode b_R_publish 89 = .ok (.putfield 36, 3) := by decide +kernel
theorem d_R_publish_92 : decode b_R_publish 92 = .ok (.iload_n 1, 1) := by decide +kernel
theorem d_R_publish_93 : decode b_R_publish 93 = .ok (.ireturn, 1) := by decide +kernel
theorem d_R_count_0 : decode b_R_count 0 = .ok (.iload_n 1, 1) := by decide +kernel
theorem d_R_count_1 : decode b_R_count 1 = .ok (.iconst 0, 1) := by decide +kernel
theorem d_R_count_2 : decode b_R_count 2 = .ok (.iconst 4, 1) := by decide +kernel
theorem d_R_count_3 : decode b_R_count 3 = .ok (.invokestatic 65, 3) := by decide +kernel
theorem d_R_count_6 : decode b_R_count 6 = .ok (.iload_n 1, 1) := by decide +kernel
theorem d_R_count_7 : decode b_R_count 7 = .ok (.tableswitch 58 0 3 #[29, 37, 45, 53], 29) := by decide +kernel
theorem d_R_count_36 : decode b_R_count 36 = .ok (.aload_n 0, 1) := by decide +kernel
theorem d_R_count_37 : decode b_R_count 37 = .ok (.getfield 12, 3) := by decide +kernel
theorem d_R_count_40 : decode b_R_count 40 = .ok (.getfield 51, 3) := by decide +kernel
theorem d_R_count_43 : decode b_R_count 43 = .ok (.ireturn, 1) := by decide +kernel
theorem d_R_count_44 : decode b_R_count 44 = .ok (.aload_n 0, 1) := by decide +kernel
theorem d_R_count_45 : decode b_R_count 45 = .ok (.getfield 12, 3) := by decide +kernel
theorem d_R_count_48 : decode b_R_count 48 = .ok (.getfield 96, 3) := by decide +kernel
theorem d_R_count_51 : decode b_R_count 51 = .ok (.ireturn, 1) := by decide +kernel
theorem d_R_count_52 : decode b_R_count 52 = .ok (.aload_n 0, 1) := by decide +kernel
theorem d_R_count_53 : decode b_R_count 53 = .ok (.getfield 12, 3) := by decide +kernel
theorem d_R_count_56 : decode b_R_count 56 = .ok (.getfield 89, 3) := by decide +kernel
theorem d_R_count_59 : decode b_R_count 59 = .ok (.ireturn, 1) := by decide +kernel
theorem d_R_count_60 : decode b_R_count 60 = .ok (.aload_n 0, 1) := by decide +kernel
theorem d_R_count_61 : decode b_R_count 61 = .ok (.getfield 32, 3) := by decide +kernel
theorem d_R_count_64 : decode b_R_count 64 = .ok (.ireturn, 1) := by decide +kernel
theorem d_R_count_65 : decode b_R_count 65 = .ok (.aload_n 0, 1) := by decide +kernel
theorem d_R_count_66 : decode b_R_count 66 = .ok (.getfield 36, 3) := by decide +kernel
theorem d_R_count_69 : decode b_R_count 69 = .ok (.ireturn, 1) := by decide +kernel
theorem d_R_exchange_0 : decode b_R_exchange 0 = .ok (.aload_n 0, 1) := by decide +kernel
theorem d_R_exchange_1 : decode b_R_exchange 1 = .ok (.getfield 25, 3) := by decide +kernel
theorem d_R_exchange_4 : decode b_R_exchange 4 = .ok (.iload_n 1, 1) := by decide +kernel
theorem d_R_exchange_5 : decode b_R_exchange 5 = .ok (.iaload, 1) := by decide +kernel
theorem d_R_exchange_6 : decode b_R_exchange 6 = .ok (.istore_n 3, 1) := by decide +kernel
theorem d_R_exchange_7 : decode b_R_exchange 7 = .ok (.aload_n 0, 1) := by decide +kernel
theorem d_R_exchange_8 : decode b_R_exchange 8 = .ok (.getfield 25, 3) := by decide +kernel
theorem d_R_exchange_11 : decode b_R_exchange 11 = .ok (.iload_n 1, 1) := by decide +kernel
theorem d_R_exchange_12 : decode b_R_exchange 12 = .ok (.aload_n 0, 1) := by decide +kernel
theorem d_R_exchange_13 : decode b_R_exchange 13 = .ok (.getfield 25, 3) := by decide +kernel
theorem d_R_exchange_16 : decode b_R_exchange 16 = .ok (.iload_n 2, 1) := by decide +kernel
theorem d_R_exchange_17 : decode b_R_exchange 17 = .ok (.iaload, 1) := by decide +kernel
theorem d_R_exchange_18 : decode b_R_exchange 18 = .ok (.iastore, 1) := by decide +kernel
theorem d_R_exchange_19 : decode b_R_exchange 19 = .ok (.aload_n 0, 1) := by decide +kernel
theorem d_R_exchange_20 : decode b_R_exchange 20 = .ok (.getfield 25, 3) := by decide +kernel
theorem d_R_exchange_23 : decode b_R_exchange 23 = .ok (.iload_n 2, 1) := by decide +kernel
theorem d_R_exchange_24 : decode b_R_exchange 24 = .ok (.iload_n 3, 1) := by decide +kernel
theorem d_R_exchange_25 : decode b_R_exchange 25 = .ok (.iastore, 1) := by decide +kernel
theorem d_R_exchange_26 : decode b_R_exchange 26 = .ok (.return_, 1) := by decide +kernel
theorem d_R_refuseUnknownPerson_0 : decode b_R_refuseUnknownPerson 0 = .ok (.iload_n 1, 1) := by decide +kernel
theorem d_R_refuseUnknownPerson_1 : decode b_R_refuseUnknownPerson 1 = .ok (.iconst 0, 1) := by decide +kernel
theorem d_R_refuseUnknownPerson_2 : decode b_R_refuseUnknownPerson 2 = .ok (.aload_n 0, 1) := by decide +kernel
theorem d_R_refuseUnknownPerson_3 : decode b_R_refuseUnknownPerson 3 = .ok (.getfield 12, 3) := by decide +kernel
theorem d_R_refuseUnknownPerson_6 : decode b_R_refuseUnknownPerson 6 = .ok (.getfield 51, 3) := by decide +kernel
theorem d_R_refuseUnknownPerson_9 : decode b_R_refuseUnknownPerson 9 = .ok (.iconst 1, 1) := by decide +kernel
theorem d_R_refuseUnknownPerson_10 : decode b_R_refuseUnknownPerson 10 = .ok (.isub, 1) := by decide +kernel
theorem d_R_refuseUnknownPerson_11 : decode b_R_refuseUnknownPerson 11 = .ok (.invokestatic 65, 3) := by decide +kernel
theorem d_R_refuseUnknownPerson_14 : decode b_R_refuseUnknownPerson 14 = .ok (.return_, 1) := by decide +kernel
theorem d_R_refuseUnknownDay_0 : decode b_R_refuseUnknownDay 0 = .ok (.iload_n 1, 1) := by decide +kernel
theorem d_R_refuseUnknownDay_1 : decode b_R_refuseUnknownDay 1 = .ok (.iconst 0, 1) := by decide +kernel
theorem d_R_refuseUnknownDay_2 : decode b_R_refuseUnknownDay 2 = .ok (.aload_n 0, 1) := by decide +kernel
theorem d_R_refuseUnknownDay_3 : decode b_R_refuseUnknownDay 3 = .ok (.getfield 12, 3) := by decide +kernel
theorem d_R_refuseUnknownDay_6 : decode b_R_refuseUnknownDay 6 = .ok (.getfield 96, 3) := by decide +kernel
theorem d_R_refuseUnknownDay_9 : decode b_R_refuseUnknownDay 9 = .ok (.iconst 1, 1) := by decide +kernel
theorem d_R_refuseUnknownDay_10 : decode b_R_refuseUnknownDay 10 = .ok (.isub, 1) := by decide +kernel
theorem d_R_refuseUnknownDay_11 : decode b_R_refuseUnknownDay 11 = .ok (.invokestatic 65, 3) := by decide +kernel
theorem d_R_refuseUnknownDay_14 : decode b_R_refuseUnknownDay 14 = .ok (.return_, 1) := by decide +kernel
theorem d_R_refuseFrozen_0 : decode b_R_refuseFrozen 0 = .ok (.iload_n 1, 1) := by decide +kernel
theorem d_R_refuseFrozen_1 : decode b_R_refuseFrozen 1 = .ok (.aload_n 0, 1) := by decide +kernel
theorem d_R_refuseFrozen_2 : decode b_R_refuseFrozen 2 = .ok (.getfield 32, 3) := by decide +kernel
theorem d_R_refuseFrozen_5 : decode b_R_refuseFrozen 5 = .ok (.if_icmp .ge 13, 3) := by decide +kernel
theorem d_R_refuseFrozen_8 : decode b_R_refuseFrozen 8 = .ok (.new 138, 3) := by decide +kernel
theorem d_R_refuseFrozen_11 : decode b_R_refuseFrozen 11 = .ok (.dup, 1) := by decide +kernel
theorem d_R_refuseFrozen_12 : decode b_R_refuseFrozen 12 = .ok (.ldc 162, 2) := by decide +kernel
theorem d_R_refuseFrozen_14 : decode b_R_refuseFrozen 14 = .ok (.invokespecial 142, 3) := by decide +kernel
theorem d_R_refuseFrozen_17 : decode b_R_refuseFrozen 17 = .ok (.athrow, 1) := by decide +kernel
theorem d_R_refuseFrozen_18 : decode b_R_refuseFrozen 18 = .ok (.return_, 1) := by decide +kernel
theorem d_R_refuseUnknown_0 : decode b_R_refuseUnknown 0 = .ok (.iload_n 0, 1) := by decide +kernel
theorem d_R_refuseUnknown_1 : decode b_R_refuseUnknown 1 = .ok (.iload_n 1, 1) := by decide +kernel
theorem d_R_refuseUnknown_2 : decode b_R_refuseUnknown 2 = .ok (.if_icmp .lt 8, 3) := by decide +kernel
theorem d_R_refuseUnknown_5 : decode b_R_refuseUnknown 5 = .ok (.iload_n 0, 1) := by decide +kernel
theorem d_R_refuseUnknown_6 : decode b_R_refuseUnknown 6 = .ok (.iload_n 2, 1) := by decide +kernel
theorem d_R_refuseUnknown_7 : decode b_R_refuseUnknown 7 = .ok (.if_icmp .le 13, 3) := by decide +kernel
theorem d_R_refuseUnknown_10 : decode b_R_refuseUnknown 10 = .ok (.new 164, 3) := by decide +kernel
theorem d_R_refuseUnknown_13 : decode b_R_refuseUnknown 13 = .ok (.dup, 1) := by decide +kernel
theorem d_R_refuseUnknown_14 : decode b_R_refuseUnknown 14 = .ok (.ldc 166, 2) := by decide +kernel
theorem d_R_refuseUnknown_16 : decode b_R_refuseUnknown 16 = .ok (.invokespecial 168, 3) := by decide +kernel
theorem d_R_refuseUnknown_19 : decode b_R_refuseUnknown 19 = .ok (.athrow, 1) := by decide +kernel
theorem d_R_refuseUnknown_20 : decode b_R_refuseUnknown 20 = .ok (.return_, 1) := by decide +kernel
theorem d_R_refuseSame_0 : decode b_R_refuseSame 0 = .ok (.iload_n 0, 1) := by decide +kernel
theorem d_R_refuseSame_1 : decode b_R_refuseSame 1 = .ok (.iload_n 1, 1) := by decide +kernel
theorem d_R_refuseSame_2 : decode b_R_refuseSame 2 = .ok (.if_icmp .ne 13, 3) := by decide +kernel
theorem d_R_refuseSame_5 : decode b_R_refuseSame 5 = .ok (.new 164, 3) := by decide +kernel
theorem d_R_refuseSame_8 : decode b_R_refuseSame 8 = .ok (.dup, 1) := by decide +kernel
theorem d_R_refuseSame_9 : decode b_R_refuseSame 9 = .ok (.ldc 169, 2) := by decide +kernel
theorem d_R_refuseSame_11 : decode b_R_refuseSame 11 = .ok (.invokespecial 168, 3) := by decide +kernel
theorem d_R_refuseSame_14 : decode b_R_refuseSame 14 = .ok (.athrow, 1) := by decide +kernel
theorem d_R_refuseSame_15 : decode b_R_refuseSame 15 = .ok (.return_, 1) := by decide +kernel
theorem d_R_refuseOutside_0 : decode b_R_refuseOutside 0 = .ok (.iload_n 0, 1) := by decide +kernel
theorem d_R_refuseOutside_1 : decode b_R_refuseOutside 1 = .ok (.iload_n 1, 1) := by decide +kernel
theorem d_R_refuseOutside_2 : decode b_R_refuseOutside 2 = .ok (.if_icmp .lt 8, 3) := by decide +kernel
theorem d_R_refuseOutside_5 : decode b_R_refuseOutside 5 = .ok (.iload_n 0, 1) := by decide +kernel
theorem d_R_refuseOutside_6 : decode b_R_refuseOutside 6 = .ok (.iload_n 2, 1) := by decide +kernel
theorem d_R_refuseOutside_7 : decode b_R_refuseOutside 7 = .ok (.if_icmp .le 13, 3) := by decide +kernel
theorem d_R_refuseOutside_10 : decode b_R_refuseOutside 10 = .ok (.new 171, 3) := by decide +kernel
theorem d_R_refuseOutside_13 : decode b_R_refuseOutside 13 = .ok (.dup, 1) := by decide +kernel
theorem d_R_refuseOutside_14 : decode b_R_refuseOutside 14 = .ok (.ldc 173, 2) := by decide +kernel
theorem d_R_refuseOutside_16 : decode b_R_refuseOutside 16 = .ok (.invokespecial 175, 3) := by decide +kernel
theorem d_R_refuseOutside_19 : decode b_R_refuseOutside 19 = .ok (.athrow, 1) := by decide +kernel
theorem d_R_refuseOutside_20 : decode b_R_refuseOutside 20 = .ok (.return_, 1) := by decide +kernel
theorem d_R_refuseFull_0 : decode b_R_refuseFull 0 = .ok (.iload_n 0, 1) := by decide +kernel
theorem d_R_refuseFull_1 : decode b_R_refuseFull 1 = .ok (.iload_n 1, 1) := by decide +kernel
theorem d_R_refuseFull_2 : decode b_R_refuseFull 2 = .ok (.if_icmp .lt 13, 3) := by decide +kernel
theorem d_R_refuseFull_5 : decode b_R_refuseFull 5 = .ok (.new 176, 3) := by decide +kernel
theorem d_R_refuseFull_8 : decode b_R_refuseFull 8 = .ok (.dup, 1) := by decide +kernel
theorem d_R_refuseFull_9 : decode b_R_refuseFull 9 = .ok (.ldc 178, 2) := by decide +kernel
theorem d_R_refuseFull_11 : decode b_R_refuseFull 11 = .ok (.invokespecial 180, 3) := by decide +kernel
theorem d_R_refuseFull_14 : decode b_R_refuseFull 14 = .ok (.athrow, 1) := by decide +kernel
theorem d_R_refuseFull_15 : decode b_R_refuseFull 15 = .ok (.return_, 1) := by decide +kernel
theorem d_R_cell_0 : decode b_R_cell 0 = .ok (.iload_n 1, 1) := by decide +kernel
theorem d_R_cell_1 : decode b_R_cell 1 = .ok (.bipush 6, 2) := by decide +kernel
theorem d_R_cell_3 : decode b_R_cell 3 = .ok (.imul, 1) := by decide +kernel
theorem d_R_cell_4 : decode b_R_cell 4 = .ok (.iload_n 0, 1) := by decide +kernel
theorem d_R_cell_5 : decode b_R_cell 5 = .ok (.iadd, 1) := by decide +kernel
theorem d_R_cell_6 : decode b_R_cell 6 = .ok (.ireturn, 1) := by decide +kernel
theorem d_R_choice_0 : decode b_R_choice 0 = .ok (.iload_n 0, 1) := by decide +kernel
theorem d_R_choice_1 : decode b_R_choice 1 = .ok (.iload_n 1, 1) := by decide +kernel
theorem d_R_choice_2 : decode b_R_choice 2 = .ok (.invokestatic 99, 3) := by decide +kernel
theorem d_R_choice_5 : decode b_R_choice 5 = .ok (.iconst 4, 1) := by decide +kernel
theorem d_R_choice_6 : decode b_R_choice 6 = .ok (.imul, 1) := by decide +kernel
theorem d_R_choice_7 : decode b_R_choice 7 = .ok (.iload_n 2, 1) := by decide +kernel
theorem d_R_choice_8 : decode b_R_choice 8 = .ok (.iadd, 1) := by decide +kernel
theorem d_R_choice_9 : decode b_R_choice 9 = .ok (.ireturn, 1) := by decide +kernel
theorem d_R_slot_0 : decode b_R_slot 0 = .ok (.iload_n 0, 1) := by decide +kernel
theorem d_R_slot_1 : decode b_R_slot 1 = .ok (.iconst 4, 1) := by decide +kernel
theorem d_R_slot_2 : decode b_R_slot 2 = .ok (.imul, 1) := by decide +kernel
theorem d_R_slot_3 : decode b_R_slot 3 = .ok (.iload_n 1, 1) := by decide +kernel
theorem d_R_slot_4 : decode b_R_slot 4 = .ok (.iadd, 1) := by decide +kernel
theorem d_R_slot_5 : decode b_R_slot 5 = .ok (.ireturn, 1) := by decide +kernel
theorem d_R_clearRow_0 : decode b_R_clearRow 0 = .ok (.iconst 0, 1) := by decide +kernel
theorem d_R_clearRow_1 : decode b_R_clearRow 1 = .ok (.istore_n 1, 1) := by decide +kernel
theorem d_R_clearRow_2 : decode b_R_clearRow 2 = .ok (.iload_n 1, 1) := by decide +kernel
theorem d_R_clearRow_3 : decode b_R_clearRow 3 = .ok (.aload_n 0, 1) := by decide +kernel
theorem d_R_clearRow_4 : decode b_R_clearRow 4 = .ok (.arraylength, 1) := by decide +kernel
theorem d_R_clearRow_5 : decode b_R_clearRow 5 = .ok (.if_icmp .ge 13, 3) := by decide +kernel
theorem d_R_clearRow_8 : decode b_R_clearRow 8 = .ok (.aload_n 0, 1) := by decide +kernel
theorem d_R_clearRow_9 : decode b_R_clearRow 9 = .ok (.iload_n 1, 1) := by decide +kernel
theorem d_R_clearRow_10 : decode b_R_clearRow 10 = .ok (.iconst 0, 1) := by decide +kernel
theorem d_R_clearRow_11 : decode b_R_clearRow 11 = .ok (.iastore, 1) := by decide +kernel
theorem d_R_clearRow_12 : decode b_R_clearRow 12 = .ok (.iinc 1 1, 3) := by decide +kernel
theorem d_R_clearRow_15 : decode b_R_clearRow 15 = .ok (.goto (-13), 3) := by decide +kernel
theorem d_R_clearRow_18 : decode b_R_clearRow 18 = .ok (.return_, 1) := by decide +kernel
theorem d_P_init_0 : decode b_P_init 0 = .ok (.aload_n 0, 1) := by decide +kernel
theorem d_P_init_1 : decode b_P_init 1 = .ok (.invokespecial 3, 3) := by decide +kernel
theorem d_P_init_4 : decode b_P_init 4 = .ok (.aload_n 0, 1) := by decide +kernel
theorem d_P_init_5 : decode b_P_init 5 = .ok (.iconst 0, 1) := by decide +kernel
theorem d_P_init_6 : decode b_P_init 6 = .ok (.putfield 9, 3) := by decide +kernel
theorem d_P_init_9 : decode b_P_init 9 = .ok (.aload_n 0, 1) := by decide +kernel
theorem d_P_init_10 : decode b_P_init 10 = .ok (.iconst 0, 1) := by decide +kernel
theorem d_P_init_11 : decode b_P_init 11 = .ok (.putfield 15, 3) := by decide +kernel
theorem d_P_init_14 : decode b_P_init 14 = .ok (.aload_n 0, 1) := by decide +kernel
theorem d_P_init_15 : decode b_P_init 15 = .ok (.bipush 11, 2) := by decide +kernel
theorem d_P_init_17 : decode b_P_init 17 = .ok (.putfield 18, 3) := by decide +kernel
theorem d_P_init_20 : decode b_P_init 20 = .ok (.aload_n 0, 1) := by decide +kernel
theorem d_P_init_21 : decode b_P_init 21 = .ok (.bipush 7, 2) := by decide +kernel
theorem d_P_init_23 : decode b_P_init 23 = .ok (.putfield 21, 3) := by decide +kernel
theorem d_P_init_26 : decode b_P_init 26 = .ok (.aload_n 0, 1) := by decide +kernel
theorem d_P_init_27 : decode b_P_init 27 = .ok (.bipush 7, 2) := by decide +kernel
theorem d_P_init_29 : decode b_P_init 29 = .ok (.putfield 24, 3) := by decide +kernel
theorem d_P_init_32 : decode b_P_init 32 = .ok (.aload_n 0, 1) := by decide +kernel
theorem d_P_init_33 : decode b_P_init 33 = .ok (.iconst 0, 1) := by decide +kernel
theorem d_P_init_34 : decode b_P_init 34 = .ok (.putfield 27, 3) := by decide +kernel
theorem d_P_init_37 : decode b_P_init 37 = .ok (.aload_n 0, 1) := by decide +kernel
theorem d_P_init_38 : decode b_P_init 38 = .ok (.bipush 6, 2) := by decide +kernel
theorem d_P_init_40 : decode b_P_init 40 = .ok (.newarray .int, 2) := by decide +kernel
theorem d_P_init_42 : decode b_P_init 42 = .ok (.putfield 30, 3) := by decide +kernel
theorem d_P_init_45 : decode b_P_init 45 = .ok (.aload_n 0, 1) := by decide +kernel
theorem d_P_init_46 : decode b_P_init 46 = .ok (.bipush 6, 2) := by decide +kernel
theorem d_P_init_48 : decode b_P_init 48 = .ok (.newarray .int, 2) := by decide +kernel
theorem d_P_init_50 : decode b_P_init 50 = .ok (.putfield 34, 3) := by decide +kernel
theorem d_P_init_53 : decode b_P_init 53 = .ok (.aload_n 0, 1) := by decide +kernel
theorem d_P_init_54 : decode b_P_init 54 = .ok (.bipush 28, 2) := by decide +kernel
theorem d_P_init_56 : decode b_P_init 56 = .ok (.newarray .int, 2) := by decide +kernel
theorem d_P_init_58 : decode b_P_init 58 = .ok (.putfield 37, 3) := by decide +kernel
theorem d_P_init_61 : decode b_P_init 61 = .ok (.aload_n 0, 1) := by decide +kernel
theorem d_P_init_62 : decode b_P_init 62 = .ok (.bipush 28, 2) := by decide +kernel
theorem d_P_init_64 : decode b_P_init 64 = .ok (.newarray .int, 2) := by decide +kernel
theorem d_P_init_66 : decode b_P_init 66 = .ok (.putfield 40, 3) := by decide +kernel
theorem d_P_init_69 : decode b_P_init 69 = .ok (.aload_n 0, 1) := by decide +kernel
theorem d_P_init_70 : decode b_P_init 70 = .ok (.sipush 168, 3) := by decide +kernel
theorem d_P_init_73 : decode b_P_init 73 = .ok (.newarray .boolean, 2) := by decide +kernel
theorem d_P_init_75 : decode b_P_init 75 = .ok (.putfield 43, 3) := by decide +kernel
theorem d_P_init_78 : decode b_P_init 78 = .ok (.aload_n 0, 1) := by decide +kernel
theorem d_P_init_79 : decode b_P_init 79 = .ok (.sipush 168, 3) := by decide +kernel
theorem d_P_init_82 : decode b_P_init 82 = .ok (.newarray .int, 2) := by decide +kernel
theorem d_P_init_84 : decode b_P_init 84 = .ok (.putfield 47, 3) := by decide +kernel
theorem d_P_init_87 : decode b_P_init 87 = .ok (.return_, 1) := by decide +kernel
theorem d_P_startDays_0 : decode b_P_startDays 0 = .ok (.aload_n 0, 1) := by decide +kernel
theorem d_P_startDays_1 : decode b_P_startDays 1 = .ok (.iload_n 1, 1) := by decide +kernel
theorem d_P_startDays_2 : decode b_P_startDays 2 = .ok (.putfield 15, 3) := by decide +kernel
theorem d_P_startDays_5 : decode b_P_startDays 5 = .ok (.aload_n 0, 1) := by decide +kernel
theorem d_P_startDays_6 : decode b_P_startDays 6 = .ok (.iconst 0, 1) := by decide +kernel
theorem d_P_startDays_7 : decode b_P_startDays 7 = .ok (.putfield 27, 3) := by decide +kernel
theorem d_P_startDays_10 : decode b_P_startDays 10 = .ok (.aload_n 0, 1) := by decide +kernel
theorem d_P_startDays_11 : decode b_P_startDays 11 = .ok (.getfield 37, 3) := by decide +kernel
theorem d_P_startDays_14 : decode b_P_startDays 14 = .ok (.invokestatic 50, 3) := by decide +kernel
theorem d_P_startDays_17 : decode b_P_startDays 17 = .ok (.aload_n 0, 1) := by decide +kernel
theorem d_P_startDays_18 : decode b_P_startDays 18 = .ok (.getfield 40, 3) := by decide +kernel
theorem d_P_startDays_21 : decode b_P_startDays 21 = .ok (.invokestatic 50, 3) := by decide +kernel
theorem d_P_startDays_24 : decode b_P_startDays 24 = .ok (.aload_n 0, 1) := by decide +kernel
theorem d_P_startDays_25 : decode b_P_startDays 25 = .ok (.getfield 47, 3) := by decide +kernel
theorem d_P_startDays_28 : decode b_P_startDays 28 = .ok (.invokestatic 50, 3) := by decide +kernel
theorem d_P_startDays_31 : decode b_P_startDays 31 = .ok (.iconst 0, 1) := by decide +kernel
theorem d_P_startDays_32 : decode b_P_startDays 32 = .ok (.istore_n 2, 1) := by decide +kernel
theorem d_P_startDays_33 : decode b_P_startDays 33 = .ok (.iload_n 2, 1) := by decide +kernel
theorem d_P_startDays_34 : decode b_P_startDays 34 = .ok (.aload_n 0, 1) := by decide +kernel
theorem d_P_startDays_35 : decode b_P_startDays 35 = .ok (.getfield 43, 3) := by decide +kernel
theorem d_P_startDays_38 : decode b_P_startDays 38 = .ok (.arraylength, 1) := by decide +kernel
theorem d_P_startDays_39 : decode b_P_startDays 39 = .ok (.if_icmp .ge 16, 3) := by decide +kernel
theorem d_P_startDays_42 : decode b_P_startDays 42 = .ok (.aload_n 0, 1) := by decide +kernel
theorem d_P_startDays_43 : decode b_P_startDays 43 = .ok (.getfield 43, 3) := by decide +kernel
theorem d_P_startDays_46 : decode b_P_startDays 46 = .ok (.iload_n 2, 1) := by decide +kernel
theorem d_P_startDays_47 : decode b_P_startDays 47 = .ok (.iconst 0, 1) := by decide +kernel
theorem d_P_startDays_48 : decode b_P_startDays 48 = .ok (.bastore, 1) := by decide +kernel
theorem d_P_startDays_49 : decode b_P_startDays 49 = .ok (.iinc 2 1, 3) := by decide +kernel
theorem d_P_startDays_52 : decode b_P_startDays 52 = .ok (.goto (-19), 3) := by decide +kernel
theorem d_P_startDays_55 : decode b_P_startDays 55 = .ok (.return_, 1) := by decide +kernel
theorem d_P_addPerson_0 : decode b_P_addPerson 0 = .ok (.aload_n 0, 1) := by decide +kernel
theorem d_P_addPerson_1 : decode b_P_addPerson 1 = .ok (.getfield 9, 3) := by decide +kernel
theorem d_P_addPerson_4 : decode b_P_addPerson 4 = .ok (.istore_n 3, 1) := by decide +kernel
theorem d_P_addPerson_5 : decode b_P_addPerson 5 = .ok (.aload_n 0, 1) := by decide +kernel
theorem d_P_addPerson_6 : decode b_P_addPerson 6 = .ok (.getfield 30, 3) := by decide +kernel
theorem d_P_addPerson_9 : decode b_P_addPerson 9 = .ok (.iload_n 3, 1) := by decide +kernel
theorem d_P_addPerson_10 : decode b_P_addPerson 10 = .ok (.iload_n 1, 1) := by decide +kernel
theorem d_P_addPerson_11 : decode b_P_addPerson 11 = .ok (.iastore, 1) := by decide +kernel
theorem d_P_addPerson_12 : decode b_P_addPerson 12 = .ok (.aload_n 0, 1) := by decide +kernel
theorem d_P_addPerson_13 : decode b_P_addPerson 13 = .ok (.getfield 34, 3) := by decide +kernel
theorem d_P_addPerson_16 : decode b_P_addPerson 16 = .ok (.iload_n 3, 1) := by decide +kernel
theorem d_P_addPerson_17 : decode b_P_addPerson 17 = .ok (.iload_n 2, 1) := by decide +kernel
theorem d_P_addPerson_18 : decode b_P_addPerson 18 = .ok (.iastore, 1) := by decide +kernel
theorem d_P_addPerson_19 : decode b_P_addPerson 19 = .ok (.aload_n 0, 1) := by decide +kernel
theorem d_P_addPerson_20 : decode b_P_addPerson 20 = .ok (.dup, 1) := by decide +kernel
theorem d_P_addPerson_21 : decode b_P_addPerson 21 = .ok (.getfield 9, 3) := by decide +kernel
theorem d_P_addPerson_24 : decode b_P_addPerson 24 = .ok (.iconst 1, 1) := by decide +kernel
theorem d_P_addPerson_25 : decode b_P_addPerson 25 = .ok (.iadd, 1) := by decide +kernel
theorem d_P_addPerson_26 : decode b_P_addPerson 26 = .ok (.putfield 9, 3) := by decide +kernel
theorem d_P_addPerson_29 : decode b_P_addPerson 29 = .ok (.iload_n 3, 1) := by decide +kernel
theorem d_P_addPerson_30 : decode b_P_addPerson 30 = .ok (.ireturn, 1) := by decide +kernel
theorem d_P_putNeed_0 : decode b_P_putNeed 0 = .ok (.aload_n 0, 1) := by decide +kernel
theorem d_P_putNeed_1 : decode b_P_putNeed 1 = .ok (.getfield 37, 3) := by decide +kernel
theorem d_P_putNeed_4 : decode b_P_putNeed 4 = .ok (.iload_n 1, 1) := by decide +kernel
theorem d_P_putNeed_5 : decode b_P_putNeed 5 = .ok (.iload_n 2, 1) := by decide +kernel
theorem d_P_putNeed_6 : decode b_P_putNeed 6 = .ok (.invokestatic 54, 3) := by decide +kernel
theorem d_P_putNeed_9 : decode b_P_putNeed 9 = .ok (.iload_n 3, 1) := by decide +kernel
theorem d_P_putNeed_10 : decode b_P_putNeed 10 = .ok (.iastore, 1) := by decide +kernel
theorem d_P_putNeed_11 : decode b_P_putNeed 11 = .ok (.aload_n 0, 1) := by decide +kernel
theorem d_P_putNeed_12 : decode b_P_putNeed 12 = .ok (.getfield 40, 3) := by decide +kernel
theorem d_P_putNeed_15 : decode b_P_putNeed 15 = .ok (.iload_n 1, 1) := by decide +kernel
theorem d_P_putNeed_16 : decode b_P_putNeed 16 = .ok (.iload_n 2, 1) := by decide +kernel
theorem d_P_putNeed_17 : decode b_P_putNeed 17 = .ok (.invokestatic 54, 3) := by decide +kernel
theorem d_P_putNeed_20 : decode b_P_putNeed 20 = .ok (.iload 4, 2) := by decide +kernel
theorem d_P_putNeed_22 : decode b_P_putNeed 22 = .ok (.iastore, 1) := by decide +kernel
theorem d_P_putNeed_23 : decode b_P_putNeed 23 = .ok (.return_, 1) := by decide +kernel
theorem d_P_putRules_0 : decode b_P_putRules 0 = .ok (.aload_n 0, 1) := by decide +kernel
theorem d_P_putRules_1 : decode b_P_putRules 1 = .ok (.iload_n 1, 1) := by decide +kernel
theorem d_P_putRules_2 : decode b_P_putRules 2 = .ok (.putfield 18, 3) := by decide +kernel
theorem d_P_putRules_5 : decode b_P_putRules 5 = .ok (.aload_n 0, 1) := by decide +kernel
theorem d_P_putRules_6 : decode b_P_putRules 6 = .ok (.iload_n 2, 1) := by decide +kernel
theorem d_P_putRules_7 : decode b_P_putRules 7 = .ok (.putfield 21, 3) := by decide +kernel
theorem d_P_putRules_10 : decode b_P_putRules 10 = .ok (.aload_n 0, 1) := by decide +kernel
theorem d_P_putRules_11 : decode b_P_putRules 11 = .ok (.iload_n 3, 1) := by decide +kernel
theorem d_P_putRules_12 : decode b_P_putRules 12 = .ok (.putfield 24, 3) := by decide +kernel
theorem d_P_putRules_15 : decode b_P_putRules 15 = .ok (.return_, 1) := by decide +kernel
theorem d_P_addWish_0 : decode b_P_addWish 0 = .ok (.iconst 0, 1) := by decide +kernel
theorem d_P_addWish_1 : decode b_P_addWish 1 = .ok (.istore 5, 2) := by decide +kernel
theorem d_P_addWish_3 : decode b_P_addWish 3 = .ok (.iload 5, 2) := by decide +kernel
theorem d_P_addWish_5 : decode b_P_addWish 5 = .ok (.iconst 3, 1) := by decide +kernel
theorem d_P_addWish_6 : decode b_P_addWish 6 = .ok (.if_icmp .gt 50, 3) := by decide +kernel
theorem d_P_addWish_9 : decode b_P_addWish 9 = .ok (.iload 5, 2) := by decide +kernel
theorem d_P_addWish_11 : decode b_P_addWish 11 = .ok (.iload_n 2, 1) := by decide +kernel
theorem d_P_addWish_12 : decode b_P_addWish 12 = .ok (.if_icmp .ne 7, 3) := by decide +kernel
theorem d_P_addWish_15 : decode b_P_addWish 15 = .ok (.iconst 1, 1) := by decide +kernel
theorem d_P_addWish_16 : decode b_P_addWish 16 = .ok (.goto 4, 3) := by decide +kernel
theorem d_P_addWish_19 : decode b_P_addWish 19 = .ok (.iconst 0, 1) := by decide +kernel
theorem d_P_addWish_20 : decode b_P_addWish 20 = .ok (.iload_n 3, 1) := by decide +kernel
theorem d_P_addWish_21 : decode b_P_addWish 21 = .ok (.if_icmp .ne 7, 3) := by decide +kernel
theorem d_P_addWish_24 : decode b_P_addWish 24 = .ok (.iconst 1, 1) := by decide +kernel
theorem d_P_addWish_25 : decode b_P_addWish 25 = .ok (.goto 4, 3) := by decide +kernel
theorem d_P_addWish_28 : decode b_P_addWish 28 = .ok (.iconst 0, 1) := by decide +kernel
theorem d_P_addWish_29 : decode b_P_addWish 29 = .ok (.istore 6, 2) := by decide +kernel
theorem d_P_addWish_31 : decode b_P_addWish 31 = .ok (.iload 6, 2) := by decide +kernel
theorem d_P_addWish_33 : decode b_P_addWish 33 = .ok (.ifCond .ne 17, 3) := by decide +kernel
theorem d_P_addWish_36 : decode b_P_addWish 36 = .ok (.aload_n 0, 1) := by decide +kernel
theorem d_P_addWish_37 : decode b_P_addWish 37 = .ok (.getfield 47, 3) := by decide +kernel
theorem d_P_addWish_40 : decode b_P_addWish 40 = .ok (.iload_n 1, 1) := by decide +kernel
theorem d_P_addWish_41 : decode b_P_addWish 41 = .ok (.iload 5, 2) := by decide +kernel
theorem d_P_addWish_43 : decode b_P_addWish 43 = .ok (.iadd, 1) := by decide +kernel
theorem d_P_addWish_44 : decode b_P_addWish 44 = .ok (.dup2, 1) := by decide +kernel
theorem d_P_addWish_45 : decode b_P_addWish 45 = .ok (.iaload, 1) := by decide +kernel
theorem d_P_addWish_46 : decode b_P_addWish 46 = .ok (.iload 4, 2) := by decide +kernel
theorem d_P_addWish_48 : decode b_P_addWish 48 = .ok (.iadd, 1) := by decide +kernel
theorem d_P_addWish_49 : decode b_P_addWish 49 = .ok (.iastore, 1) := by decide +kernel
theorem d_P_addWish_50 : decode b_P_addWish 50 = .ok (.iinc 5 1, 3) := by decide +kernel
theorem d_P_addWish_53 : decode b_P_addWish 53 = .ok (.goto (-50), 3) := by decide +kernel
theorem d_P_addWish_56 : decode b_P_addWish 56 = .ok (.aload_n 0, 1) := by decide +kernel
theorem d_P_addWish_57 : decode b_P_addWish 57 = .ok (.getfield 27, 3) := by decide +kernel
theorem d_P_addWish_60 : decode b_P_addWish 60 = .ok (.istore 5, 2) := by decide +kernel
theorem d_P_addWish_62 : decode b_P_addWish 62 = .ok (.aload_n 0, 1) := by decide +kernel
theorem d_P_addWish_63 : decode b_P_addWish 63 = .ok (.dup, 1) := by decide +kernel
theorem d_P_addWish_64 : decode b_P_addWish 64 = .ok (.getfield 27, 3) := by decide +kernel
theorem d_P_addWish_67 : decode b_P_addWish 67 = .ok (.iconst 1, 1) := by decide +kernel
theorem d_P_addWish_68 : decode b_P_addWish 68 = .ok (.iadd, 1) := by decide +kernel
theorem d_P_addWish_69 : decode b_P_addWish 69 = .ok (.putfield 27, 3) := by decide +kernel
theorem d_P_addWish_72 : decode b_P_addWish 72 = .ok (.iload 5, 2) := by decide +kernel
theorem d_P_addWish_74 : decode b_P_addWish 74 = .ok (.ireturn, 1) := by decide +kernel
theorem d_P_firstFault_0 : decode b_P_firstFault 0 = .ok (.aload_n 0, 1) := by decide +kernel
theorem d_P_firstFault_1 : decode b_P_firstFault 1 = .ok (.aload_n 1, 1) := by decide +kernel
theorem d_P_firstFault_2 : decode b_P_firstFault 2 = .ok (.invokevirtual 58, 3) := by decide +kernel
theorem d_P_firstFault_5 : decode b_P_firstFault 5 = .ok (.istore_n 2, 1) := by decide +kernel
theorem d_P_firstFault_6 : decode b_P_firstFault 6 = .ok (.iload_n 2, 1) := by decide +kernel
theorem d_P_firstFault_7 : decode b_P_firstFault 7 = .ok (.ifCond .ne 9, 3) := by decide +kernel
theorem d_P_firstFault_10 : decode b_P_firstFault 10 = .ok (.aload_n 0, 1) := by decide +kernel
theorem d_P_firstFault_11 : decode b_P_firstFault 11 = .ok (.aload_n 1, 1) := by decide +kernel
theorem d_P_firstFault_12 : decode b_P_firstFault 12 = .ok (.invokevirtual 62, 3) := by decide +kernel
theorem d_P_firstFault_15 : decode b_P_firstFault 15 = .ok (.istore_n 2, 1) := by decide +kernel
theorem d_P_firstFault_16 : decode b_P_firstFault 16 = .ok (.iload_n 2, 1) := by decide +kernel
theorem d_P_firstFault_17 : decode b_P_firstFault 17 = .ok (.ifCond .ne 9, 3) := by decide +kernel
theorem d_P_firstFault_20 : decode b_P_firstFault 20 = .ok (.aload_n 0, 1) := by decide +kernel
theorem d_P_firstFault_21 : decode b_P_firstFault 21 = .ok (.aload_n 1, 1) := by decide +kernel
theorem d_P_firstFault_22 : decode b_P_firstFault 22 = .ok (.invokevirtual 65, 3) := by decide +kernel
theorem d_P_firstFault_25 : decode b_P_firstFault 25 = .ok (.istore_n 2, 1) := by decide +kernel
theorem d_P_firstFault_26 : decode b_P_firstFault 26 = .ok (.iload_n 2, 1) := by decide +kernel
theorem d_P_firstFault_27 : decode b_P_firstFault 27 = .ok (.ifCond .ne 9, 3) := by decide +kernel
theorem d_P_firstFault_30 : decode b_P_firstFault 30 = .ok (.aload_n 0, 1) := by decide +kernel
theorem d_P_firstFault_31 : decode b_P_firstFault 31 = .ok (.aload_n 1, 1) := by decide +kernel
theorem d_P_firstFault_32 : decode b_P_firstFault 32 = .ok (.invokevirtual 68, 3) := by decide +kernel
theorem d_P_firstFault_35 : decode b_P_firstFault 35 = .ok (.istore_n 2, 1) := by decide +kernel
theorem d_P_firstFault_36 : decode b_P_firstFault 36 = .ok (.iload_n 2, 1) := by decide +kernel
theorem d_P_firstFault_37 : decode b_P_firstFault 37 = .ok (.ifCond .ne 11, 3) := by decide +kernel
theorem d_P_firstFault_40 : decode b_P_firstFault 40 = .ok (.aload_n 0, 1) := by decide +kernel
theorem d_P_firstFault_41 : decode b_P_firstFault 41 = .ok (.aload_n 1, 1) := by decide +kernel
theorem d_P_firstFault_42 : decode b_P_firstFault 42 = .ok (.invokevirtual 71, 3) := by decide +kernel
theorem d_P_firstFault_45 : decode b_P_firstFault 45 = .ok (.goto 4, 3) := by decide +kernel
theorem d_P_firstFault_48 : decode b_P_firstFault 48 = .ok (.iload_n 2, 1) := by decide +kernel
theorem d_P_firstFault_49 : decode b_P_firstFault 49 = .ok (.ireturn, 1) := by decide +kernel
theorem d_P_firstNeedFault_0 : decode b_P_firstNeedFault 0 = .ok (.iconst 0, 1) := by decide +kernel
theorem d_P_firstNeedFault_1 : decode b_P_firstNeedFault 1 = .ok (.istore_n 2, 1) := by decide +kernel
theorem d_P_firstNeedFault_2 : decode b_P_firstNeedFault 2 = .ok (.iload_n 2, 1) := by decide +kernel
theorem d_P_firstNeedFault_3 : decode b_P_firstNeedFault 3 = .ok (.aload_n 0, 1) := by decide +kernel
theorem d_P_firstNeedFault_4 : decode b_P_firstNeedFault 4 = .ok (.getfield 15, 3) := by decide +kernel
theorem d_P_firstNeedFault_7 : decode b_P_firstNeedFault 7 = .ok (.if_icmp .ge 27, 3) := by decide +kernel
theorem d_P_firstNeedFault_10 : decode b_P_firstNeedFault 10 = .ok (.aload_n 0, 1) := by decide +kernel
theorem d_P_firstNeedFault_11 : decode b_P_firstNeedFault 11 = .ok (.aload_n 1, 1) := by decide +kernel
theorem d_P_firstNeedFault_12 : decode b_P_firstNeedFault 12 = .ok (.iload_n 2, 1) := by decide +kernel
theorem d_P_firstNeedFault_13 : decode b_P_firstNeedFault 13 = .ok (.invokevirtual 74, 3) := by decide +kernel
theorem d_P_firstNeedFault_16 : decode b_P_firstNeedFault 16 = .ok (.istore_n 3, 1) := by decide +kernel
theorem d_P_firstNeedFault_17 : decode b_P_firstNeedFault 17 = .ok (.iload_n 3, 1) := by decide +kernel
theorem d_P_firstNeedFault_18 : decode b_P_firstNeedFault 18 = .ok (.ifCond .eq 10, 3) := by decide +kernel
theorem d_P_firstNeedFault_21 : decode b_P_firstNeedFault 21 = .ok (.iconst 1, 1) := by decide +kernel
theorem d_P_firstNeedFault_22 : decode b_P_firstNeedFault 22 = .ok (.iload_n 3, 1) := by decide +kernel
theorem d_P_firstNeedFault_23 : decode b_P_firstNeedFault 23 = .ok (.iload_n 2, 1) := by decide +kernel
theorem d_P_firstNeedFault_24 : decode b_P_firstNeedFault 24 = .ok (.invokestatic 78, 3) := by decide +kernel
theorem d_P_firstNeedFault_27 : decode b_P_firstNeedFault 27 = .ok (.ireturn, 1) := by decide +kernel
theorem d_P_firstNeedFault_28 : decode b_P_firstNeedFault 28 = .ok (.iinc 2 1, 3) := by decide +kernel
theorem d_P_firstNeedFault_31 : decode b_P_firstNeedFault 31 = .ok (.goto (-29), 3) := by decide +kernel
theorem d_P_firstNeedFault_34 : decode b_P_firstNeedFault 34 = .ok (.iconst 0, 1) := by decide +kernel
theorem d_P_firstNeedFault_35 : decode b_P_firstNeedFault 35 = .ok (.ireturn, 1) := by decide +kernel
theorem d_P_firstNeedUnmet_0 : decode b_P_firstNeedUnmet 0 = .ok (.iconst 1, 1) := by decide +kernel
theorem d_P_firstNeedUnmet_1 : decode b_P_firstNeedUnmet 1 = .ok (.istore_n 3, 1) := by decide +kernel
theorem d_P_firstNeedUnmet_2 : decode b_P_firstNeedUnmet 2 = .ok (.iload_n 3, 1) := by decide +kernel
theorem d_P_firstNeedUnmet_3 : decode b_P_firstNeedUnmet 3 = .ok (.iconst 3, 1) := by decide +kernel
theorem d_P_firstNeedUnmet_4 : decode b_P_firstNeedUnmet 4 = .ok (.if_icmp .gt 21, 3) := by decide +kernel
theorem d_P_firstNeedUnmet_7 : decode b_P_firstNeedUnmet 7 = .ok (.aload_n 0, 1) := by decide +kernel
theorem d_P_firstNeedUnmet_8 : decode b_P_firstNeedUnmet 8 = .ok (.aload_n 1, 1) := by decide +kernel
theorem d_P_firstNeedUnmet_9 : decode b_P_firstNeedUnmet 9 = .ok (.iload_n 2, 1) := by decide +kernel
theorem d_P_firstNeedUnmet_10 : decode b_P_firstNeedUnmet 10 = .ok (.iload_n 3, 1) := by decide +kernel
theorem d_P_firstNeedUnmet_11 : decode b_P_firstNeedUnmet 11 = .ok (.invokevirtual 82, 3) := by decide +kernel
theorem d_P_firstNeedUnmet_14 : decode b_P_firstNeedUnmet 14 = .ok (.ifCond .ne 5, 3) := by decide +kernel
theorem d_P_firstNeedUnmet_17 : decode b_P_firstNeedUnmet 17 = .ok (.iload_n 3, 1) := by decide +kernel
theorem d_P_firstNeedUnmet_18 : decode b_P_firstNeedUnmet 18 = .ok (.ireturn, 1) := by decide +kernel
theorem d_P_firstNeedUnmet_19 : decode b_P_firstNeedUnmet 19 = .ok (.iinc 3 1, 3) := by decide +kernel
theorem d_P_firstNeedUnmet_22 : decode b_P_firstNeedUnmet 22 = .ok (.goto (-20), 3) := by decide +kernel
theorem d_P_firstNeedUnmet_25 : decode b_P_firstNeedUnmet 25 = .ok (.iconst 0, 1) := by decide +kernel
theorem d_P_firstNeedUnmet_26 : decode b_P_firstNeedUnmet 26 = .ok (.ireturn, 1) := by decide +kernel
theorem d_P_meetsNeed_0 : decode b_P_meetsNeed 0 = .ok (.iconst 0, 1) := by decide +kernel
theorem d_P_meetsNeed_1 : decode b_P_meetsNeed 1 = .ok (.istore 4, 2) := by decide +kernel
theorem d_P_meetsNeed_3 : decode b_P_meetsNeed 3 = .ok (.iconst 0, 1) := by decide +kernel
theorem d_P_meetsNeed_4 : decode b_P_meetsNeed 4 = .ok (.istore 5, 2) := by decide +kernel
theorem d_P_meetsNeed_6 : decode b_P_meetsNeed 6 = .ok (.iconst 0, 1) := by decide +kernel
theorem d_P_meetsNeed_7 : decode b_P_meetsNeed 7 = .ok (.istore 6, 2) := by decide +kernel
theorem d_P_meetsNeed_9 : decode b_P_meetsNeed 9 = .ok (.iload 6, 2) := by decide +kernel
theorem d_P_meetsNeed_11 : decode b_P_meetsNeed 11 = .ok (.aload_n 0, 1) := by decide +kernel
theorem d_P_meetsNeed_12 : decode b_P_meetsNeed 12 = .ok (.getfield 9, 3) := by decide +kernel
theorem d_P_meetsNeed_15 : decode b_P_meetsNeed 15 = .ok (.if_icmp .ge 36, 3) := by decide +kernel
theorem d_P_meetsNeed_18 : decode b_P_meetsNeed 18 = .ok (.aload_n 1, 1) := by decide +kernel
theorem d_P_meetsNeed_19 : decode b_P_meetsNeed 19 = .ok (.iload 6, 2) := by decide +kernel
theorem d_P_meetsNeed_21 : decode b_P_meetsNeed 21 = .ok (.iload_n 2, 1) := by decide +kernel
theorem d_P_meetsNeed_22 : decode b_P_meetsNeed 22 = .ok (.invokestatic 86, 3) := by decide +kernel
theorem d_P_meetsNeed_25 : decode b_P_meetsNeed 25 = .ok (.iaload, 1) := by decide +kernel
theorem d_P_meetsNeed_26 : decode b_P_meetsNeed 26 = .ok (.iload_n 3, 1) := by decide +kernel
theorem d_P_meetsNeed_27 : decode b_P_meetsNeed 27 = .ok (.if_icmp .ne 18, 3) := by decide +kernel
theorem d_P_meetsNeed_30 : decode b_P_meetsNeed 30 = .ok (.iinc 4 1, 3) := by decide +kernel
theorem d_P_meetsNeed_33 : decode b_P_meetsNeed 33 = .ok (.iload 5, 2) := by decide +kernel
theorem d_P_meetsNeed_35 : decode b_P_meetsNeed 35 = .ok (.aload_n 0, 1) := by decide +kernel
theorem d_P_meetsNeed_36 : decode b_P_meetsNeed 36 = .ok (.getfield 30, 3) := by decide +kernel
theorem d_P_meetsNeed_39 : decode b_P_meetsNeed 39 = .ok (.iload 6, 2) := by decide +kernel
theorem d_P_meetsNeed_41 : decode b_P_meetsNeed 41 = .ok (.iaload, 1) := by decide +kernel
theorem d_P_meetsNeed_42 : decode b_P_meetsNeed 42 = .ok (.ior, 1) := by decide +kernel
theorem d_P_meetsNeed_43 : decode b_P_meetsNeed 43 = .ok (.istore 5, 2) := by decide +kernel
theorem d_P_meetsNeed_45 : decode b_P_meetsNeed 45 = .ok (.iinc 6 1, 3) := by decide +kernel
theorem d_P_meetsNeed_48 : decode b_P_meetsNeed 48 = .ok (.goto (-39), 3) := by decide +kernel
theorem d_P_meetsNeed_51 : decode b_P_meetsNeed 51 = .ok (.aload_n 0, 1) := by decide +kernel
theorem d_P_meetsNeed_52 : decode b_P_meetsNeed 52 = .ok (.getfield 40, 3) := by decide +kernel
theorem d_P_meetsNeed_55 : decode b_P_meetsNeed 55 = .ok (.iload_n 2, 1) := by decide +kernel
theorem d_P_meetsNeed_56 : decode b_P_meetsNeed 56 = .ok (.iload_n 3, 1) := by decide +kernel
theorem d_P_meetsNeed_57 : decode b_P_meetsNeed 57 = .ok (.invokestatic 54, 3) := by decide +kernel
theorem d_P_meetsNeed_60 : decode b_P_meetsNeed 60 = .ok (.iaload, 1) := by decide +kernel
theorem d_P_meetsNeed_61 : decode b_P_meetsNeed 61 = .ok (.istore 6, 2) := by decide +kernel
theorem d_P_meetsNeed_63 : decode b_P_meetsNeed 63 = .ok (.iload 4, 2) := by decide +kernel
theorem d_P_meetsNeed_65 : decode b_P_meetsNeed 65 = .ok (.aload_n 0, 1) := by decide +kernel
theorem d_P_meetsNeed_66 : decode b_P_meetsNeed 66 = .ok (.getfield 37, 3) := by decide +kernel
theorem d_P_meetsNeed_69 : decode b_P_meetsNeed 69 = .ok (.iload_n 2, 1) := by decide +kernel
theorem d_P_meetsNeed_70 : decode b_P_meetsNeed 70 = .ok (.iload_n 3, 1) := by decide +kernel
theorem d_P_meetsNeed_71 : decode b_P_meetsNeed 71 = .ok (.invokestatic 54, 3) := by decide +kernel
theorem d_P_meetsNeed_74 : decode b_P_meetsNeed 74 = .ok (.iaload, 1) := by decide +kernel
theorem d_P_meetsNeed_75 : decode b_P_meetsNeed 75 = .ok (.if_icmp .lt 17, 3) := by decide +kernel
theorem d_P_meetsNeed_78 : decode b_P_meetsNeed 78 = .ok (.iload 5, 2) := by decide +kernel
theorem d_P_meetsNeed_80 : decode b_P_meetsNeed 80 = .ok (.iload 6, 2) := by decide +kernel
theorem d_P_meetsNeed_82 : decode b_P_meetsNeed 82 = .ok (.iand, 1) := by decide +kernel
theorem d_P_meetsNeed_83 : decode b_P_meetsNeed 83 = .ok (.iload 6, 2) := by decide +kernel
theorem d_P_meetsNeed_85 : decode b_P_meetsNeed 85 = .ok (.if_icmp .ne 7, 3) := by decide +kernel
theorem d_P_meetsNeed_88 : decode b_P_meetsNeed 88 = .ok (.iconst 1, 1) := by decide +kernel
theorem d_P_meetsNeed_89 : decode b_P_meetsNeed 89 = .ok (.goto 4, 3) := by decide +kernel
theorem d_P_meetsNeed_92 : decode b_P_meetsNeed 92 = .ok (.iconst 0, 1) := by decide +kernel
theorem d_P_meetsNeed_93 : decode b_P_meetsNeed 93 = .ok (.ireturn, 1) := by decide +kernel
theorem d_P_firstRestFault_0 : decode b_P_firstRestFault 0 = .ok (.iconst 0, 1) := by decide +kernel
theorem d_P_firstRestFault_1 : decode b_P_firstRestFault 1 = .ok (.istore_n 2, 1) := by decide +kernel
theorem d_P_firstRestFault_2 : decode b_P_firstRestFault 2 = .ok (.iload_n 2, 1) := by decide +kernel
theorem d_P_firstRestFault_3 : decode b_P_firstRestFault 3 = .ok (.aload_n 0, 1) := by decide +kernel
theorem d_P_firstRestFault_4 : decode b_P_firstRestFault 4 = .ok (.getfield 9, 3) := by decide +kernel
theorem d_P_firstRestFault_7 : decode b_P_firstRestFault 7 = .ok (.if_icmp .ge 55, 3) := by decide +kernel
theorem d_P_firstRestFault_10 : decode b_P_firstRestFault 10 = .ok (.iconst 1, 1) := by decide +kernel
theorem d_P_firstRestFault_11 : decode b_P_firstRestFault 11 = .ok (.istore_n 3, 1) := by decide +kernel
theorem d_P_firstRestFault_12 : decode b_P_firstRestFault 12 = .ok (.iload_n 3, 1) := by decide +kernel
theorem d_P_firstRestFault_13 : decode b_P_firstRestFault 13 = .ok (.aload_n 0, 1) := by decide +kernel
theorem d_P_firstRestFault_14 : decode b_P_firstRestFault 14 = .ok (.getfield 15, 3) := by decide +kernel
theorem d_P_firstRestFault_17 : decode b_P_firstRestFault 17 = .ok (.if_icmp .ge 39, 3) := by decide +kernel
theorem d_P_firstRestFault_20 : decode b_P_firstRestFault 20 = .ok (.aload_n 0, 1) := by decide +kernel
theorem d_P_firstRestFault_21 : decode b_P_firstRestFault 21 = .ok (.aload_n 1, 1) := by decide +kernel
theorem d_P_firstRestFault_22 : decode b_P_firstRestFault 22 = .ok (.iload_n 2, 1) := by decide +kernel
theorem d_P_firstRestFault_23 : decode b_P_firstRestFault 23 = .ok (.iload_n 3, 1) := by decide +kernel
theorem d_P_firstRestFault_24 : decode b_P_firstRestFault 24 = .ok (.iconst 1, 1) := by decide +kernel
theorem d_P_firstRestFault_25 : decode b_P_firstRestFault 25 = .ok (.isub, 1) := by decide +kernel
theorem d_P_firstRestFault_26 : decode b_P_firstRestFault 26 = .ok (.invokestatic 86, 3) := by decide +kernel
theorem d_P_firstRestFault_29 : decode b_P_firstRestFault 29 = .ok (.iaload, 1) := by decide +kernel
theorem d_P_firstRestFault_30 : decode b_P_firstRestFault 30 = .ok (.aload_n 1, 1) := by decide +kernel
theorem d_P_firstRestFault_31 : decode b_P_firstRestFault 31 = .ok (.iload_n 2, 1) := by decide +kernel
theorem d_P_firstRestFault_32 : decode b_P_firstRestFault 32 = .ok (.iload_n 3, 1) := by decide +kernel
theorem d_P_firstRestFault_33 : decode b_P_firstRestFault 33 = .ok (.invokestatic 86, 3) := by decide +kernel
theorem d_P_firstRestFault_36 : decode b_P_firstRestFault 36 = .ok (.iaload, 1) := by decide +kernel
theorem d_P_firstRestFault_37 : decode b_P_firstRestFault 37 = .ok (.invokevirtual 89, 3) := by decide +kernel
theorem d_P_firstRestFault_40 : decode b_P_firstRestFault 40 = .ok (.ifCond .eq 10, 3) := by decide +kernel
theorem d_P_firstRestFault_43 : decode b_P_firstRestFault 43 = .ok (.iconst 2, 1) := by decide +kernel
theorem d_P_firstRestFault_44 : decode b_P_firstRestFault 44 = .ok (.iload_n 2, 1) := by decide +kernel
theorem d_P_firstRestFault_45 : decode b_P_firstRestFault 45 = .ok (.iload_n 3, 1) := by decide +kernel
theorem d_P_firstRestFault_46 : decode b_P_firstRestFault 46 = .ok (.invokestatic 78, 3) := by decide +kernel
theorem d_P_firstRestFault_49 : decode b_P_firstRestFault 49 = .ok (.ireturn, 1) := by decide +kernel
theorem d_P_firstRestFault_50 : decode b_P_firstRestFault 50 = .ok (.iinc 3 1, 3) := by decide +kernel
theorem d_P_firstRestFault_53 : decode b_P_firstRestFault 53 = .ok (.goto (-41), 3) := by decide +kernel
theorem d_P_firstRestFault_56 : decode b_P_firstRestFault 56 = .ok (.iinc 2 1, 3) := by decide +kernel
theorem d_P_firstRestFault_59 : decode b_P_firstRestFault 59 = .ok (.goto (-57), 3) := by decide +kernel
theorem d_P_firstRestFault_62 : decode b_P_firstRestFault 62 = .ok (.iconst 0, 1) := by decide +kernel
theorem d_P_firstRestFault_63 : decode b_P_firstRestFault 63 = .ok (.ireturn, 1) := by decide +kernel
theorem d_P_breaksRest_0 : decode b_P_breaksRest 0 = .ok (.iload_n 1, 1) := by decide +kernel
theorem d_P_breaksRest_1 : decode b_P_breaksRest 1 = .ok (.ifCond .eq 23, 3) := by decide +kernel
theorem d_P_breaksRest_4 : decode b_P_breaksRest 4 = .ok (.iload_n 2, 1) := by decide +kernel
theorem d_P_breaksRest_5 : decode b_P_breaksRest 5 = .ok (.ifCond .eq 19, 3) := by decide +kernel
theorem d_P_breaksRest_8 : decode b_P_breaksRest 8 = .ok (.iload_n 1, 1) := by decide +kernel
theorem d_P_breaksRest_9 : decode b_P_breaksRest 9 = .ok (.iload_n 2, 1) := by decide +kernel
theorem d_P_breaksRest_10 : decode b_P_breaksRest 10 = .ok (.invokestatic 93, 3) := by decide +kernel
theorem d_P_breaksRest_13 : decode b_P_breaksRest 13 = .ok (.aload_n 0, 1) := by decide +kernel
theorem d_P_breaksRest_14 : decode b_P_breaksRest 14 = .ok (.getfield 18, 3) := by decide +kernel
theorem d_P_breaksRest_17 : decode b_P_breaksRest 17 = .ok (.if_icmp .ge 7, 3) := by decide +kernel
theorem d_P_breaksRest_20 : decode b_P_breaksRest 20 = .ok (.iconst 1, 1) := by decide +kernel
theorem d_P_breaksRest_21 : decode b_P_breaksRest 21 = .ok (.goto 4, 3) := by decide +kernel
theorem d_P_breaksRest_24 : decode b_P_breaksRest 24 = .ok (.iconst 0, 1) := by decide +kernel
theorem d_P_breaksRest_25 : decode b_P_breaksRest 25 = .ok (.ireturn, 1) := by decide +kernel
theorem d_P_hoursBetween_0 : decode b_P_hoursBetween 0 = .ok (.bipush 16, 2) := by decide +kernel
theorem d_P_hoursBetween_2 : decode b_P_hoursBetween 2 = .ok (.bipush 8, 2) := by decide +kernel
theorem d_P_hoursBetween_4 : decode b_P_hoursBetween 4 = .ok (.iload_n 1, 1) := by decide +kernel
theorem d_P_hoursBetween_5 : decode b_P_hoursBetween 5 = .ok (.iload_n 0, 1) := by decide +kernel
theorem d_P_hoursBetween_6 : decode b_P_hoursBetween 6 = .ok (.isub, 1) := by decide +kernel
theorem d_P_hoursBetween_7 : decode b_P_hoursBetween 7 = .ok (.imul, 1) := by decide +kernel
theorem d_P_hoursBetween_8 : decode b_P_hoursBetween 8 = .ok (.iadd, 1) := by decide +kernel
theorem d_P_hoursBetween_9 : decode b_P_hoursBetween 9 = .ok (.ireturn, 1) := by decide +kernel
theorem d_P_firstMostFault_0 : decode b_P_firstMostFault 0 = .ok (.iconst 0, 1) := by decide +kernel
theorem d_P_firstMostFault_1 : decode b_P_firstMostFault 1 = .ok (.istore_n 2, 1) := by decide +kernel
theorem d_P_firstMostFault_2 : decode b_P_firstMostFault 2 = .ok (.iload_n 2, 1) := by decide +kernel
theorem d_P_firstMostFault_3 : decode b_P_firstMostFault 3 = .ok (.aload_n 0, 1) := by decide +kernel
theorem d_P_firstMostFault_4 : decode b_P_firstMostFault 4 = .ok (.getfield 9, 3) := by decide +kernel
theorem d_P_firstMostFault_7 : decode b_P_firstMostFault 7 = .ok (.if_icmp .ge 66, 3) := by decide +kernel
theorem d_P_firstMostFault_10 : decode b_P_firstMostFault 10 = .ok (.iconst 0, 1) := by decide +kernel
theorem d_P_firstMostFault_11 : decode b_P_firstMostFault 11 = .ok (.istore_n 3, 1) := by decide +kernel
theorem d_P_firstMostFault_12 : decode b_P_firstMostFault 12 = .ok (.iconst 0, 1) := by decide +kernel
theorem d_P_firstMostFault_13 : decode b_P_firstMostFault 13 = .ok (.istore 4, 2) := by decide +kernel
theorem d_P_firstMostFault_15 : decode b_P_firstMostFault 15 = .ok (.iconst 0, 1) := by decide +kernel
theorem d_P_firstMostFault_16 : decode b_P_firstMostFault 16 = .ok (.istore 5, 2) := by decide +kernel
theorem d_P_firstMostFault_18 : decode b_P_firstMostFault 18 = .ok (.iload 5, 2) := by decide +kernel
theorem d_P_firstMostFault_20 : decode b_P_firstMostFault 20 = .ok (.aload_n 0, 1) := by decide +kernel
theorem d_P_firstMostFault_21 : decode b_P_firstMostFault 21 = .ok (.getfield 15, 3) := by decide +kernel
theorem d_P_firstMostFault_24 : decode b_P_firstMostFault 24 = .ok (.if_icmp .ge 27, 3) := by decide +kernel
theorem d_P_firstMostFault_27 : decode b_P_firstMostFault 27 = .ok (.aload_n 1, 1) := by decide +kernel
theorem d_P_firstMostFault_28 : decode b_P_firstMostFault 28 = .ok (.iload_n 2, 1) := by decide +kernel
theorem d_P_firstMostFault_29 : decode b_P_firstMostFault 29 = .ok (.iload 5, 2) := by decide +kernel
theorem d_P_firstMostFault_31 : decode b_P_firstMostFault 31 = .ok (.invokestatic 86, 3) := by decide +kernel
theorem d_P_firstMostFault_34 : decode b_P_firstMostFault 34 = .ok (.iaload, 1) := by decide +kernel
theorem d_P_firstMostFault_35 : decode b_P_firstMostFault 35 = .ok (.ifCond .eq 10, 3) := by decide +kernel
theorem d_P_firstMostFault_38 : decode b_P_firstMostFault 38 = .ok (.iinc 3 1, 3) := by decide +kernel
theorem d_P_firstMostFault_41 : decode b_P_firstMostFault 41 = .ok (.iload 5, 2) := by decide +kernel
theorem d_P_firstMostFault_43 : decode b_P_firstMostFault 43 = .ok (.istore 4, 2) := by decide +kernel
theorem d_P_firstMostFault_45 : decode b_P_firstMostFault 45 = .ok (.iinc 5 1, 3) := by decide +kernel
theorem d_P_firstMostFault_48 : decode b_P_firstMostFault 48 = .ok (.goto (-30), 3) := by decide +kernel
theorem d_P_firstMostFault_51 : decode b_P_firstMostFault 51 = .ok (.iload_n 3, 1) := by decide +kernel
theorem d_P_firstMostFault_52 : decode b_P_firstMostFault 52 = .ok (.aload_n 0, 1) := by decide +kernel
theorem d_P_firstMostFault_53 : decode b_P_firstMostFault 53 = .ok (.getfield 21, 3) := by decide +kernel
theorem d_P_firstMostFault_56 : decode b_P_firstMostFault 56 = .ok (.if_icmp .le 11, 3) := by decide +kernel
theorem d_P_firstMostFault_59 : decode b_P_firstMostFault 59 = .ok (.iconst 3, 1) := by decide +kernel
theorem d_P_firstMostFault_60 : decode b_P_firstMostFault 60 = .ok (.iload_n 2, 1) := by decide +kernel
theorem d_P_firstMostFault_61 : decode b_P_firstMostFault 61 = .ok (.iload 4, 2) := by decide +kernel
theorem d_P_firstMostFault_63 : decode b_P_firstMostFault 63 = .ok (.invokestatic 78, 3) := by decide +kernel
theorem d_P_firstMostFault_66 : decode b_P_firstMostFault 66 = .ok (.ireturn, 1) := by decide +kernel
theorem d_P_firstMostFault_67 : decode b_P_firstMostFault 67 = .ok (.iinc 2 1, 3) := by decide +kernel
theorem d_P_firstMostFault_70 : decode b_P_firstMostFault 70 = .ok (.goto (-68), 3) := by decide +kernel
theorem d_P_firstMostFault_73 : decode b_P_firstMostFault 73 = .ok (.iconst 0, 1) := by decide +kernel
theorem d_P_firstMostFault_74 : decode b_P_firstMostFault 74 = .ok (.ireturn, 1) := by decide +kernel
theorem d_P_firstNightsFault_0 : decode b_P_firstNightsFault 0 = .ok (.iconst 0, 1) := by decide +kernel
theorem d_P_firstNightsFault_1 : decode b_P_firstNightsFault 1 = .ok (.istore_n 2, 1) := by decide +kernel
theorem d_P_firstNightsFault_2 : decode b_P_firstNightsFault 2 = .ok (.iload_n 2, 1) := by decide +kernel
theorem d_P_firstNightsFault_3 : decode b_P_firstNightsFault 3 = .ok (.aload_n 0, 1) := by decide +kernel
theorem d_P_firstNightsFault_4 : decode b_P_firstNightsFault 4 = .ok (.getfield 9, 3) := by decide +kernel
theorem d_P_firstNightsFault_7 : decode b_P_firstNightsFault 7 = .ok (.if_icmp .ge 65, 3) := by decide +kernel
theorem d_P_firstNightsFault_10 : decode b_P_firstNightsFault 10 = .ok (.iconst 0, 1) := by decide +kernel
theorem d_P_firstNightsFault_11 : decode b_P_firstNightsFault 11 = .ok (.istore_n 3, 1) := by decide +kernel
theorem d_P_firstNightsFault_12 : decode b_P_firstNightsFault 12 = .ok (.iconst 0, 1) := by decide +kernel
theorem d_P_firstNightsFault_13 : decode b_P_firstNightsFault 13 = .ok (.istore 4, 2) := by decide +kernel
theorem d_P_firstNightsFault_15 : decode b_P_firstNightsFault 15 = .ok (.iload 4, 2) := by decide +kernel
theorem d_P_firstNightsFault_17 : decode b_P_firstNightsFault 17 = .ok (.aload_n 0, 1) := by decide +kernel
theorem d_P_firstNightsFault_18 : decode b_P_firstNightsFault 18 = .ok (.getfield 15, 3) := by decide +kernel
theorem d_P_firstNightsFault_21 : decode b_P_firstNightsFault 21 = .ok (.if_icmp .ge 45, 3) := by decide +kernel
theorem d_P_firstNightsFault_24 : decode b_P_firstNightsFault 24 = .ok (.aload_n 1, 1) := by decide +kernel
theorem d_P_firstNightsFault_25 : decode b_P_firstNightsFault 25 = .ok (.iload_n 2, 1) := by decide +kernel
theorem d_P_firstNightsFault_26 : decode b_P_firstNightsFault 26 = .ok (.iload 4, 2) := by decide +kernel
theorem d_P_firstNightsFault_28 : decode b_P_firstNightsFault 28 = .ok (.invokestatic 86, 3) := by decide +kernel
theorem d_P_firstNightsFault_31 : decode b_P_firstNightsFault 31 = .ok (.iaload, 1) := by decide +kernel
theorem d_P_firstNightsFault_32 : decode b_P_firstNightsFault 32 = .ok (.iconst 3, 1) := by decide +kernel
theorem d_P_firstNightsFault_33 : decode b_P_firstNightsFault 33 = .ok (.if_icmp .ne 9, 3) := by decide +kernel
theorem d_P_firstNightsFault_36 : decode b_P_firstNightsFault 36 = .ok (.iload_n 3, 1) := by decide +kernel
theorem d_P_firstNightsFault_37 : decode b_P_firstNightsFault 37 = .ok (.iconst 1, 1) := by decide +kernel
theorem d_P_firstNightsFault_38 : decode b_P_firstNightsFault 38 = .ok (.iadd, 1) := by decide +kernel
theorem d_P_firstNightsFault_39 : decode b_P_firstNightsFault 39 = .ok (.goto 4, 3) := by decide +kernel
theorem d_P_firstNightsFault_42 : decode b_P_firstNightsFault 42 = .ok (.iconst 0, 1) := by decide +kernel
theorem d_P_firstNightsFault_43 : decode b_P_firstNightsFault 43 = .ok (.istore_n 3, 1) := by decide +kernel
theorem d_P_firstNightsFault_44 : decode b_P_firstNightsFault 44 = .ok (.iload_n 3, 1) := by decide +kernel
theorem d_P_firstNightsFault_45 : decode b_P_firstNightsFault 45 = .ok (.aload_n 0, 1) := by decide +kernel
theorem d_P_firstNightsFault_46 : decode b_P_firstNightsFault 46 = .ok (.getfield 24, 3) := by decide +kernel
theorem d_P_firstNightsFault_49 : decode b_P_firstNightsFault 49 = .ok (.if_icmp .le 11, 3) := by decide +kernel
theorem d_P_firstNightsFault_52 : decode b_P_firstNightsFault 52 = .ok (.iconst 4, 1) := by decide +kernel
theorem d_P_firstNightsFault_53 : decode b_P_firstNightsFault 53 = .ok (.iload_n 2, 1) := by decide +kernel
theorem d_P_firstNightsFault_54 : decode b_P_firstNightsFault 54 = .ok (.iload 4, 2) := by decide +kernel
theorem d_P_firstNightsFault_56 : decode b_P_firstNightsFault 56 = .ok (.invokestatic 78, 3) := by decide +kernel
theorem d_P_firstNightsFault_59 : decode b_P_firstNightsFault 59 = .ok (.ireturn, 1) := by decide +kernel
theorem d_P_firstNightsFault_60 : decode b_P_firstNightsFault 60 = .ok (.iinc 4 1, 3) := by decide +kernel
theorem d_P_firstNightsFault_63 : decode b_P_firstNightsFault 63 = .ok (.goto (-48), 3) := by decide +kernel
theorem d_P_firstNightsFault_66 : decode b_P_firstNightsFault 66 = .ok (.iinc 2 1, 3) := by decide +kernel
theorem d_P_firstNightsFault_69 : decode b_P_firstNightsFault 69 = .ok (.goto (-67), 3) := by decide +kernel
theorem d_P_firstNightsFault_72 : decode b_P_firstNightsFault 72 = .ok (.iconst 0, 1) := by decide +kernel
theorem d_P_firstNightsFault_73 : decode b_P_firstNightsFault 73 = .ok (.ireturn, 1) := by decide +kernel
theorem d_P_firstBarFault_0 : decode b_P_firstBarFault 0 = .ok (.iconst 0, 1) := by decide +kernel
theorem d_P_firstBarFault_1 : decode b_P_firstBarFault 1 = .ok (.istore_n 2, 1) := by decide +kernel
theorem d_P_firstBarFault_2 : decode b_P_firstBarFault 2 = .ok (.iload_n 2, 1) := by decide +kernel
theorem d_P_firstBarFault_3 : decode b_P_firstBarFault 3 = .ok (.aload_n 0, 1) := by decide +kernel
theorem d_P_firstBarFault_4 : decode b_P_firstBarFault 4 = .ok (.getfield 9, 3) := by decide +kernel
theorem d_P_firstBarFault_7 : decode b_P_firstBarFault 7 = .ok (.if_icmp .ge 52, 3) := by decide +kernel
theorem d_P_firstBarFault_10 : decode b_P_firstBarFault 10 = .ok (.iconst 0, 1) := by decide +kernel
theorem d_P_firstBarFault_11 : decode b_P_firstBarFault 11 = .ok (.istore_n 3, 1) := by decide +kernel
theorem d_P_firstBarFault_12 : decode b_P_firstBarFault 12 = .ok (.iload_n 3, 1) := by decide +kernel
theorem d_P_firstBarFault_13 : decode b_P_firstBarFault 13 = .ok (.aload_n 0, 1) := by decide +kernel
theorem d_P_firstBarFault_14 : decode b_P_firstBarFault 14 = .ok (.getfield 15, 3) := by decide +kernel
theorem d_P_firstBarFault_17 : decode b_P_firstBarFault 17 = .ok (.if_icmp .ge 36, 3) := by decide +kernel
theorem d_P_firstBarFault_20 : decode b_P_firstBarFault 20 = .ok (.aload_n 0, 1) := by decide +kernel
theorem d_P_firstBarFault_21 : decode b_P_firstBarFault 21 = .ok (.getfield 43, 3) := by decide +kernel
theorem d_P_firstBarFault_24 : decode b_P_firstBarFault 24 = .ok (.iload_n 2, 1) := by decide +kernel
theorem d_P_firstBarFault_25 : decode b_P_firstBarFault 25 = .ok (.iload_n 3, 1) := by decide +kernel
theorem d_P_firstBarFault_26 : decode b_P_firstBarFault 26 = .ok (.aload_n 1, 1) := by decide +kernel
theorem d_P_firstBarFault_27 : decode b_P_firstBarFault 27 = .ok (.iload_n 2, 1) := by decide +kernel
theorem d_P_firstBarFault_28 : decode b_P_firstBarFault 28 = .ok (.iload_n 3, 1) := by decide +kernel
theorem d_P_firstBarFault_29 : decode b_P_firstBarFault 29 = .ok (.invokestatic 86, 3) := by decide +kernel
theorem d_P_firstBarFault_32 : decode b_P_firstBarFault 32 = .ok (.iaload, 1) := by decide +kernel
theorem d_P_firstBarFault_33 : decode b_P_firstBarFault 33 = .ok (.invokestatic 96, 3) := by decide +kernel
theorem d_P_firstBarFault_36 : decode b_P_firstBarFault 36 = .ok (.baload, 1) := by decide +kernel
theorem d_P_firstBarFault_37 : decode b_P_firstBarFault 37 = .ok (.ifCond .eq 10, 3) := by decide +kernel
theorem d_P_firstBarFault_40 : decode b_P_firstBarFault 40 = .ok (.iconst 5, 1) := by decide +kernel
theorem d_P_firstBarFault_41 : decode b_P_firstBarFault 41 = .ok (.iload_n 2, 1) := by decide +kernel
theorem d_P_firstBarFault_42 : decode b_P_firstBarFault 42 = .ok (.iload_n 3, 1) := by decide +kernel
theorem d_P_firstBarFault_43 : decode b_P_firstBarFault 43 = .ok (.invokestatic 78, 3) := by decide +kernel
theorem d_P_firstBarFault_46 : decode b_P_firstBarFault 46 = .ok (.ireturn, 1) := by decide +kernel
theorem d_P_firstBarFault_47 : decode b_P_firstBarFault 47 = .ok (.iinc 3 1, 3) := by decide +kernel
theorem d_P_firstBarFault_50 : decode b_P_firstBarFault 50 = .ok (.goto (-38), 3) := by decide +kernel
theorem d_P_firstBarFault_53 : decode b_P_firstBarFault 53 = .ok (.iinc 2 1, 3) := by decide +kernel
theorem d_P_firstBarFault_56 : decode b_P_firstBarFault 56 = .ok (.goto (-54), 3) := by decide +kernel
theorem d_P_firstBarFault_59 : decode b_P_firstBarFault 59 = .ok (.iconst 0, 1) := by decide +kernel
theorem d_P_firstBarFault_60 : decode b_P_firstBarFault 60 = .ok (.ireturn, 1) := by decide +kernel
theorem d_P_faultNumber_0 : decode b_P_faultNumber 0 = .ok (.bipush 100, 2) := by decide +kernel
theorem d_P_faultNumber_2 : decode b_P_faultNumber 2 = .ok (.iload_n 0, 1) := by decide +kernel
theorem d_P_faultNumber_3 : decode b_P_faultNumber 3 = .ok (.imul, 1) := by decide +kernel
theorem d_P_faultNumber_4 : decode b_P_faultNumber 4 = .ok (.bipush 10, 2) := by decide +kernel
theorem d_P_faultNumber_6 : decode b_P_faultNumber 6 = .ok (.iload_n 1, 1) := by decide +kernel
theorem d_P_faultNumber_7 : decode b_P_faultNumber 7 = .ok (.imul, 1) := by decide +kernel
theorem d_P_faultNumber_8 : decode b_P_faultNumber 8 = .ok (.iadd, 1) := by decide +kernel
theorem d_P_faultNumber_9 : decode b_P_faultNumber 9 = .ok (.iload_n 2, 1) := by decide +kernel
theorem d_P_faultNumber_10 : decode b_P_faultNumber 10 = .ok (.iadd, 1) := by decide +kernel
theorem d_P_faultNumber_11 : decode b_P_faultNumber 11 = .ok (.ireturn, 1) := by decide +kernel
theorem d_P_unmetSum_0 : decode b_P_unmetSum 0 = .ok (.iconst 0, 1) := by decide +kernel
theorem d_P_unmetSum_1 : decode b_P_unmetSum 1 = .ok (.istore_n 2, 1) := by decide +kernel
theorem d_P_unmetSum_2 : decode b_P_unmetSum 2 = .ok (.iconst 0, 1) := by decide +kernel
theorem d_P_unmetSum_3 : decode b_P_unmetSum 3 = .ok (.istore_n 3, 1) := by decide +kernel
theorem d_P_unmetSum_4 : decode b_P_unmetSum 4 = .ok (.iload_n 3, 1) := by decide +kernel
theorem d_P_unmetSum_5 : decode b_P_unmetSum 5 = .ok (.aload_n 0, 1) := by decide +kernel
theorem d_P_unmetSum_6 : decode b_P_unmetSum 6 = .ok (.getfield 15, 3) := by decide +kernel
theorem d_P_unmetSum_9 : decode b_P_unmetSum 9 = .ok (.if_icmp .ge 49, 3) := by decide +kernel
theorem d_P_unmetSum_12 : decode b_P_unmetSum 12 = .ok (.iconst 0, 1) := by decide +kernel
theorem d_P_unmetSum_13 : decode b_P_unmetSum 13 = .ok (.istore 4, 2) := by decide +kernel
theorem d_P_unmetSum_15 : decode b_P_unmetSum 15 = .ok (.iload 4, 2) := by decide +kernel
theorem d_P_unmetSum_17 : decode b_P_unmetSum 17 = .ok (.aload_n 0, 1) := by decide +kernel
theorem d_P_unmetSum_18 : decode b_P_unmetSum 18 = .ok (.getfield 9, 3) := by decide +kernel
theorem d_P_unmetSum_21 : decode b_P_unmetSum 21 = .ok (.if_icmp .ge 31, 3) := by decide +kernel
theorem d_P_unmetSum_24 : decode b_P_unmetSum 24 = .ok (.iload_n 2, 1) := by decide +kernel
theorem d_P_unmetSum_25 : decode b_P_unmetSum 25 = .ok (.aload_n 0, 1) := by decide +kernel
theorem d_P_unmetSum_26 : decode b_P_unmetSum 26 = .ok (.getfield 47, 3) := by decide +kernel
theorem d_P_unmetSum_29 : decode b_P_unmetSum 29 = .ok (.iload 4, 2) := by decide +kernel
theorem d_P_unmetSum_31 : decode b_P_unmetSum 31 = .ok (.iload_n 3, 1) := by decide +kernel
theorem d_P_unmetSum_32 : decode b_P_unmetSum 32 = .ok (.aload_n 1, 1) := by decide +kernel
theorem d_P_unmetSum_33 : decode b_P_unmetSum 33 = .ok (.iload 4, 2) := by decide +kernel
theorem d_P_unmetSum_35 : decode b_P_unmetSum 35 = .ok (.iload_n 3, 1) := by decide +kernel
theorem d_P_unmetSum_36 : decode b_P_unmetSum 36 = .ok (.invokestatic 86, 3) := by decide +kernel
theorem d_P_unmetSum_39 : decode b_P_unmetSum 39 = .ok (.iaload, 1) := by decide +kernel
theorem d_P_unmetSum_40 : decode b_P_unmetSum 40 = .ok (.invokestatic 96, 3) := by decide +kernel
theorem d_P_unmetSum_43 : decode b_P_unmetSum 43 = .ok (.iaload, 1) := by decide +kernel
theorem d_P_unmetSum_44 : decode b_P_unmetSum 44 = .ok (.iadd, 1) := by decide +kernel
theorem d_P_unmetSum_45 : decode b_P_unmetSum 45 = .ok (.istore_n 2, 1) := by decide +kernel
theorem d_P_unmetSum_46 : decode b_P_unmetSum 46 = .ok (.iinc 4 1, 3) := by decide +kernel
theorem d_P_unmetSum_49 : decode b_P_unmetSum 49 = .ok (.goto (-34), 3) := by decide +kernel
theorem d_P_unmetSum_52 : decode b_P_unmetSum 52 = .ok (.iinc 3 1, 3) := by decide +kernel
theorem d_P_unmetSum_55 : decode b_P_unmetSum 55 = .ok (.goto (-51), 3) := by decide +kernel
theorem d_P_unmetSum_58 : decode b_P_unmetSum 58 = .ok (.iload_n 2, 1) := by decide +kernel
theorem d_P_unmetSum_59 : decode b_P_unmetSum 59 = .ok (.ireturn, 1) := by decide +kernel
theorem d_P_costOfAll_0 : decode b_P_costOfAll 0 = .ok (.iconst 0, 1) := by decide +kernel
theorem d_P_costOfAll_1 : decode b_P_costOfAll 1 = .ok (.istore_n 2, 1) := by decide +kernel
theorem d_P_costOfAll_2 : decode b_P_costOfAll 2 = .ok (.iconst 0, 1) := by decide +kernel
theorem d_P_costOfAll_3 : decode b_P_costOfAll 3 = .ok (.istore_n 3, 1) := by decide +kernel
theorem d_P_costOfAll_4 : decode b_P_costOfAll 4 = .ok (.iload_n 3, 1) := by decide +kernel
theorem d_P_costOfAll_5 : decode b_P_costOfAll 5 = .ok (.aload_n 0, 1) := by decide +kernel
theorem d_P_costOfAll_6 : decode b_P_costOfAll 6 = .ok (.getfield 9, 3) := by decide +kernel
theorem d_P_costOfAll_9 : decode b_P_costOfAll 9 = .ok (.if_icmp .ge 18, 3) := by decide +kernel
theorem d_P_costOfAll_12 : decode b_P_costOfAll 12 = .ok (.iload_n 2, 1) := by decide +kernel
theorem d_P_costOfAll_13 : decode b_P_costOfAll 13 = .ok (.aload_n 0, 1) := by decide +kernel
theorem d_P_costOfAll_14 : decode b_P_costOfAll 14 = .ok (.aload_n 1, 1) := by decide +kernel
theorem d_P_costOfAll_15 : decode b_P_costOfAll 15 = .ok (.iload_n 3, 1) := by decide +kernel
theorem d_P_costOfAll_16 : decode b_P_costOfAll 16 = .ok (.invokevirtual 99, 3) := by decide +kernel
theorem d_P_costOfAll_19 : decode b_P_costOfAll 19 = .ok (.iadd, 1) := by decide +kernel
theorem d_P_costOfAll_20 : decode b_P_costOfAll 20 = .ok (.istore_n 2, 1) := by decide +kernel
theorem d_P_costOfAll_21 : decode b_P_costOfAll 21 = .ok (.iinc 3 1, 3) := by decide +kernel
theorem d_P_costOfAll_24 : decode b_P_costOfAll 24 = .ok (.goto (-20), 3) := by decide +kernel
theorem d_P_costOfAll_27 : decode b_P_costOfAll 27 = .ok (.iload_n 2, 1) := by decide +kernel
theorem d_P_costOfAll_28 : decode b_P_costOfAll 28 = .ok (.ireturn, 1) := by decide +kernel
theorem d_P_costOfOne_0 : decode b_P_costOfOne 0 = .ok (.iconst 0, 1) := by decide +kernel
theorem d_P_costOfOne_1 : decode b_P_costOfOne 1 = .ok (.istore_n 3, 1) := by decide +kernel
theorem d_P_costOfOne_2 : decode b_P_costOfOne 2 = .ok (.iconst 0, 1) := by decide +kernel
theorem d_P_costOfOne_3 : decode b_P_costOfOne 3 = .ok (.istore 4, 2) := by decide +kernel
theorem d_P_costOfOne_5 : decode b_P_costOfOne 5 = .ok (.iload 4, 2) := by decide +kernel
theorem d_P_costOfOne_7 : decode b_P_costOfOne 7 = .ok (.aload_n 0, 1) := by decide +kernel
theorem d_P_costOfOne_8 : decode b_P_costOfOne 8 = .ok (.getfield 15, 3) := by decide +kernel
theorem d_P_costOfOne_11 : decode b_P_costOfOne 11 = .ok (.if_icmp .ge 23, 3) := by decide +kernel
theorem d_P_costOfOne_14 : decode b_P_costOfOne 14 = .ok (.aload_n 1, 1) := by decide +kernel
theorem d_P_costOfOne_15 : decode b_P_costOfOne 15 = .ok (.iload_n 2, 1) := by decide +kernel
theorem d_P_costOfOne_16 : decode b_P_costOfOne 16 = .ok (.iload 4, 2) := by decide +kernel
theorem d_P_costOfOne_18 : decode b_P_costOfOne 18 = .ok (.invokestatic 86, 3) := by decide +kernel
theorem d_P_costOfOne_21 : decode b_P_costOfOne 21 = .ok (.iaload, 1) := by decide +kernel
theorem d_P_costOfOne_22 : decode b_P_costOfOne 22 = .ok (.ifCond .eq 6, 3) := by decide +kernel
theorem d_P_costOfOne_25 : decode b_P_costOfOne 25 = .ok (.iinc 3 1, 3) := by decide +kernel
theorem d_P_costOfOne_28 : decode b_P_costOfOne 28 = .ok (.iinc 4 1, 3) := by decide +kernel
theorem d_P_costOfOne_31 : decode b_P_costOfOne 31 = .ok (.goto (-26), 3) := by decide +kernel
theorem d_P_costOfOne_34 : decode b_P_costOfOne 34 = .ok (.iload_n 3, 1) := by decide +kernel
theorem d_P_costOfOne_35 : decode b_P_costOfOne 35 = .ok (.bipush 8, 2) := by decide +kernel
theorem d_P_costOfOne_37 : decode b_P_costOfOne 37 = .ok (.imul, 1) := by decide +kernel
theorem d_P_costOfOne_38 : decode b_P_costOfOne 38 = .ok (.aload_n 0, 1) := by decide +kernel
theorem d_P_costOfOne_39 : decode b_P_costOfOne 39 = .ok (.getfield 34, 3) := by decide +kernel
theorem d_P_costOfOne_42 : decode b_P_costOfOne 42 = .ok (.iload_n 2, 1) := by decide +kernel
theorem d_P_costOfOne_43 : decode b_P_costOfOne 43 = .ok (.iaload, 1) := by decide +kernel
theorem d_P_costOfOne_44 : decode b_P_costOfOne 44 = .ok (.imul, 1) := by decide +kernel
theorem d_P_costOfOne_45 : decode b_P_costOfOne 45 = .ok (.ireturn, 1) := by decide +kernel
theorem d_S_init_0 : decode b_S_init 0 = .ok (.aload_n 0, 1) := by decide +kernel
theorem d_S_init_1 : decode b_S_init 1 = .ok (.invokespecial 3, 3) := by decide +kernel
theorem d_S_init_4 : decode b_S_init 4 = .ok (.aload_n 0, 1) := by decide +kernel
theorem d_S_init_5 : decode b_S_init 5 = .ok (.aload_n 1, 1) := by decide +kernel
theorem d_S_init_6 : decode b_S_init 6 = .ok (.putfield 9, 3) := by decide +kernel
theorem d_S_init_9 : decode b_S_init 9 = .ok (.aload_n 0, 1) := by decide +kernel
theorem d_S_init_10 : decode b_S_init 10 = .ok (.bipush 42, 2) := by decide +kernel
theorem d_S_init_12 : decode b_S_init 12 = .ok (.newarray .int, 2) := by decide +kernel
theorem d_S_init_14 : decode b_S_init 14 = .ok (.putfield 15, 3) := by decide +kernel
theorem d_S_init_17 : decode b_S_init 17 = .ok (.aload_n 0, 1) := by decide +kernel
theorem d_S_init_18 : decode b_S_init 18 = .ok (.bipush 42, 2) := by decide +kernel
theorem d_S_init_20 : decode b_S_init 20 = .ok (.newarray .int, 2) := by decide +kernel
theorem d_S_init_22 : decode b_S_init 22 = .ok (.putfield 19, 3) := by decide +kernel
theorem d_S_init_25 : decode b_S_init 25 = .ok (.aload_n 0, 1) := by decide +kernel
theorem d_S_init_26 : decode b_S_init 26 = .ok (.bipush 42, 2) := by decide +kernel
theorem d_S_init_28 : decode b_S_init 28 = .ok (.newarray .int, 2) := by decide +kernel
theorem d_S_init_30 : decode b_S_init 30 = .ok (.putfield 22, 3) := by decide +kernel
theorem d_S_init_33 : decode b_S_init 33 = .ok (.aload_n 0, 1) := by decide +kernel
theorem d_S_init_34 : decode b_S_init 34 = .ok (.bipush 42, 2) := by decide +kernel
theorem d_S_init_36 : decode b_S_init 36 = .ok (.newarray .int, 2) := by decide +kernel
theorem d_S_init_38 : decode b_S_init 38 = .ok (.putfield 25, 3) := by decide +kernel
theorem d_S_init_41 : decode b_S_init 41 = .ok (.aload_n 0, 1) := by decide +kernel
theorem d_S_init_42 : decode b_S_init 42 = .ok (.bipush 42, 2) := by decide +kernel
theorem d_S_init_44 : decode b_S_init 44 = .ok (.newarray .int, 2) := by decide +kernel
theorem d_S_init_46 : decode b_S_init 46 = .ok (.putfield 28, 3) := by decide +kernel
theorem d_S_init_49 : decode b_S_init 49 = .ok (.aload_n 0, 1) := by decide +kernel
theorem d_S_init_50 : decode b_S_init 50 = .ok (.bipush 42, 2) := by decide +kernel
theorem d_S_init_52 : decode b_S_init 52 = .ok (.newarray .int, 2) := by decide +kernel
theorem d_S_init_54 : decode b_S_init 54 = .ok (.putfield 31, 3) := by decide +kernel
theorem d_S_init_57 : decode b_S_init 57 = .ok (.aload_n 0, 1) := by decide +kernel
theorem d_S_init_58 : decode b_S_init 58 = .ok (.bipush 42, 2) := by decide +kernel
theorem d_S_init_60 : decode b_S_init 60 = .ok (.newarray .int, 2) := by decide +kernel
theorem d_S_init_62 : decode b_S_init 62 = .ok (.putfield 34, 3) := by decide +kernel
theorem d_S_init_65 : decode b_S_init 65 = .ok (.aload_n 0, 1) := by decide +kernel
theorem d_S_init_66 : decode b_S_init 66 = .ok (.iconst 0, 1) := by decide +kernel
theorem d_S_init_67 : decode b_S_init 67 = .ok (.putfield 37, 3) := by decide +kernel
theorem d_S_init_70 : decode b_S_init 70 = .ok (.aload_n 0, 1) := by decide +kernel
theorem d_S_init_71 : decode b_S_init 71 = .ok (.iconst 0, 1) := by decide +kernel
theorem d_S_init_72 : decode b_S_init 72 = .ok (.putfield 41, 3) := by decide +kernel
theorem d_S_init_75 : decode b_S_init 75 = .ok (.aload_n 0, 1) := by decide +kernel
theorem d_S_init_76 : decode b_S_init 76 = .ok (.iconst 0, 1) := by decide +kernel
theorem d_S_init_77 : decode b_S_init 77 = .ok (.putfield 44, 3) := by decide +kernel
theorem d_S_init_80 : decode b_S_init 80 = .ok (.aload_n 0, 1) := by decide +kernel
theorem d_S_init_81 : decode b_S_init 81 = .ok (.iconst 0, 1) := by decide +kernel
theorem d_S_init_82 : decode b_S_init 82 = .ok (.putfield 47, 3) := by decide +kernel
theorem d_S_init_85 : decode b_S_init 85 = .ok (.aload_n 0, 1) := by decide +kernel
theorem d_S_init_86 : decode b_S_init 86 = .ok (.sipush 2001, 3) := by decide +kernel
theorem d_S_init_89 : decode b_S_init 89 = .ok (.putfield 50, 3) := by decide +kernel
theorem d_S_init_92 : decode b_S_init 92 = .ok (.aload_n 0, 1) := by decide +kernel
theorem d_S_init_93 : decode b_S_init 93 = .ok (.iconst 0, 1) := by decide +kernel
theorem d_S_init_94 : decode b_S_init 94 = .ok (.putfield 53, 3) := by decide +kernel
theorem d_S_init_97 : decode b_S_init 97 = .ok (.aload_n 0, 1) := by decide +kernel
theorem d_S_init_98 : decode b_S_init 98 = .ok (.iconst 0, 1) := by decide +kernel
theorem d_S_init_99 : decode b_S_init 99 = .ok (.putfield 57, 3) := by decide +kernel
theorem d_S_init_102 : decode b_S_init 102 = .ok (.return_, 1) := by decide +kernel
theorem d_S_run_0 : decode b_S_run 0 = .ok (.aload_n 1, 1) := by decide +kernel
theorem d_S_run_1 : decode b_S_run 1 = .ok (.iconst 0, 1) := by decide +kernel
theorem d_S_run_2 : decode b_S_run 2 = .ok (.aload_n 0, 1) := by decide +kernel
theorem d_S_run_3 : decode b_S_run 3 = .ok (.getfield 19, 3) := by decide +kernel
theorem d_S_run_6 : decode b_S_run 6 = .ok (.iconst 0, 1) := by decide +kernel
theorem d_S_run_7 : decode b_S_run 7 = .ok (.bipush 42, 2) := by decide +kernel
theorem d_S_run_9 : decode b_S_run 9 = .ok (.invokestatic 60, 3) := by decide +kernel
theorem d_S_run_12 : decode b_S_run 12 = .ok (.aload_n 0, 1) := by decide +kernel
theorem d_S_run_13 : decode b_S_run 13 = .ok (.iload_n 2, 1) := by decide +kernel
theorem d_S_run_14 : decode b_S_run 14 = .ok (.putfield 41, 3) := by decide +kernel
theorem d_S_run_17 : decode b_S_run 17 = .ok (.aload_n 0, 1) := by decide +kernel
theorem d_S_run_18 : decode b_S_run 18 = .ok (.iload_n 3, 1) := by decide +kernel
theorem d_S_run_19 : decode b_S_run 19 = .ok (.putfield 37, 3) := by decide +kernel
theorem d_S_run_22 : decode b_S_run 22 = .ok (.aload_n 0, 1) := by decide +kernel
theorem d_S_run_23 : decode b_S_run 23 = .ok (.iconst 0, 1) := by decide +kernel
theorem d_S_run_24 : decode b_S_run 24 = .ok (.putfield 44, 3) := by decide +kernel
theorem d_S_run_27 : decode b_S_run 27 = .ok (.aload_n 0, 1) := by decide +kernel
theorem d_S_run_28 : decode b_S_run 28 = .ok (.iconst 0, 1) := by decide +kernel
theorem d_S_run_29 : decode b_S_run 29 = .ok (.putfield 47, 3) := by decide +kernel
theorem d_S_run_32 : decode b_S_run 32 = .ok (.aload_n 0, 1) := by decide +kernel
theorem d_S_run_33 : decode b_S_run 33 = .ok (.sipush 2001, 3) := by decide +kernel
theorem d_S_run_36 : decode b_S_run 36 = .ok (.putfield 50, 3) := by decide +kernel
theorem d_S_run_39 : decode b_S_run 39 = .ok (.aload_n 0, 1) := by decide +kernel
theorem d_S_run_40 : decode b_S_run 40 = .ok (.iconst 0, 1) := by decide +kernel
theorem d_S_run_41 : decode b_S_run 41 = .ok (.putfield 53, 3) := by decide +kernel
theorem d_S_run_44 : decode b_S_run 44 = .ok (.aload_n 0, 1) := by decide +kernel
theorem d_S_run_45 : decode b_S_run 45 = .ok (.getfield 9, 3) := by decide +kernel
theorem d_S_run_48 : decode b_S_run 48 = .ok (.getfield 66, 3) := by decide +kernel
theorem d_S_run_51 : decode b_S_run 51 = .ok (.ifCond .eq 13, 3) := by decide +kernel
theorem d_S_run_54 : decode b_S_run 54 = .ok (.aload_n 0, 1) := by decide +kernel
theorem d_S_run_55 : decode b_S_run 55 = .ok (.getfield 9, 3) := by decide +kernel
theorem d_S_run_58 : decode b_S_run 58 = .ok (.getfield 71, 3) := by decide +kernel
theorem d_S_run_61 : decode b_S_run 61 = .ok (.ifCond .ne 10, 3) := by decide +kernel
theorem d_S_run_64 : decode b_S_run 64 = .ok (.aload_n 0, 1) := by decide +kernel
theorem d_S_run_65 : decode b_S_run 65 = .ok (.invokevirtual 74, 3) := by decide +kernel
theorem d_S_run_68 : decode b_S_run 68 = .ok (.goto 8, 3) := by decide +kernel
theorem d_S_run_71 : decode b_S_run 71 = .ok (.aload_n 0, 1) := by decide +kernel
theorem d_S_run_72 : decode b_S_run 72 = .ok (.aload_n 1, 1) := by decide +kernel
theorem d_S_run_73 : decode b_S_run 73 = .ok (.invokevirtual 77, 3) := by decide +kernel
theorem d_S_run_76 : decode b_S_run 76 = .ok (.aload_n 0, 1) := by decide +kernel
theorem d_S_run_77 : decode b_S_run 77 = .ok (.aload_n 0, 1) := by decide +kernel
theorem d_S_run_78 : decode b_S_run 78 = .ok (.getfield 53, 3) := by decide +kernel
theorem d_S_run_81 : decode b_S_run 81 = .ok (.ifCond .ne 7, 3) := by decide +kernel
theorem d_S_run_84 : decode b_S_run 84 = .ok (.iconst 1, 1) := by decide +kernel
theorem d_S_run_85 : decode b_S_run 85 = .ok (.goto 4, 3) := by decide +kernel
theorem d_S_run_88 : decode b_S_run 88 = .ok (.iconst 0, 1) := by decide +kernel
theorem d_S_run_89 : decode b_S_run 89 = .ok (.putfield 57, 3) := by decide +kernel
theorem d_S_run_92 : decode b_S_run 92 = .ok (.return_, 1) := by decide +kernel
theorem d_S_takeOnlyRoster_0 : decode b_S_takeOnlyRoster 0 = .ok (.aload_n 0, 1) := by decide +kernel
theorem d_S_takeOnlyRoster_1 : decode b_S_takeOnlyRoster 1 = .ok (.getfield 9, 3) := by decide +kernel
theorem d_S_takeOnlyRoster_4 : decode b_S_takeOnlyRoster 4 = .ok (.aload_n 0, 1) := by decide +kernel
theorem d_S_takeOnlyRoster_5 : decode b_S_takeOnlyRoster 5 = .ok (.getfield 19, 3) := by decide +kernel
theorem d_S_takeOnlyRoster_8 : decode b_S_takeOnlyRoster 8 = .ok (.invokevirtual 81, 3) := by decide +kernel
theorem d_S_takeOnlyRoster_11 : decode b_S_takeOnlyRoster 11 = .ok (.ifCond .ne 8, 3) := by decide +kernel
theorem d_S_takeOnlyRoster_14 : decode b_S_takeOnlyRoster 14 = .ok (.aload_n 0, 1) := by decide +kernel
theorem d_S_takeOnlyRoster_15 : decode b_S_takeOnlyRoster 15 = .ok (.iconst 0, 1) := by decide +kernel
theorem d_S_takeOnlyRoster_16 : decode b_S_takeOnlyRoster 16 = .ok (.invokevirtual 85, 3) := by decide +kernel
theorem d_S_takeOnlyRoster_19 : decode b_S_takeOnlyRoster 19 = .ok (.return_, 1) := by decide +kernel
theorem d_S_goThrough_0 : decode b_S_goThrough 0 = .ok (.iconst 0, 1) := by decide +kernel
theorem d_S_goThrough_1 : decode b_S_goThrough 1 = .ok (.istore_n 2, 1) := by decide +kernel
theorem d_S_goThrough_2 : decode b_S_goThrough 2 = .ok (.iconst 0, 1) := by decide +kernel
theorem d_S_goThrough_3 : decode b_S_goThrough 3 = .ok (.istore_n 3, 1) := by decide +kernel
theorem d_S_goThrough_4 : decode b_S_goThrough 4 = .ok (.aload_n 0, 1) := by decide +kernel
theorem d_S_goThrough_5 : decode b_S_goThrough 5 = .ok (.aload_n 1, 1) := by decide +kernel
theorem d_S_goThrough_6 : decode b_S_goThrough 6 = .ok (.iload_n 3, 1) := by decide +kernel
theorem d_S_goThrough_7 : decode b_S_goThrough 7 = .ok (.iload_n 2, 1) := by decide +kernel
theorem d_S_goThrough_8 : decode b_S_goThrough 8 = .ok (.invokevirtual 89, 3) := by decide +kernel
theorem d_S_goThrough_11 : decode b_S_goThrough 11 = .ok (.iconst 0, 1) := by decide +kernel
theorem d_S_goThrough_12 : decode b_S_goThrough 12 = .ok (.istore 4, 2) := by decide +kernel
theorem d_S_goThrough_14 : decode b_S_goThrough 14 = .ok (.iload 4, 2) := by decide +kernel
theorem d_S_goThrough_16 : decode b_S_goThrough 16 = .ok (.ldc 93, 2) := by decide +kernel
theorem d_S_goThrough_18 : decode b_S_goThrough 18 = .ok (.if_icmp .ge 192, 3) := by decide +kernel
theorem d_S_goThrough_21 : decode b_S_goThrough 21 = .ok (.iload_n 2, 1) := by decide +kernel
theorem d_S_goThrough_22 : decode b_S_goThrough 22 = .ok (.ifCond .lt 188, 3) := by decide +kernel
theorem d_S_goThrough_25 : decode b_S_goThrough 25 = .ok (.aload_n 0, 1) := by decide +kernel
theorem d_S_goThrough_26 : decode b_S_goThrough 26 = .ok (.getfield 53, 3) := by decide +kernel
theorem d_S_goThrough_29 : decode b_S_goThrough 29 = .ok (.ifCond .ne 181, 3) := by decide +kernel
theorem d_S_goThrough_32 : decode b_S_goThrough 32 = .ok (.iload_n 3, 1) := by decide +kernel
theorem d_S_goThrough_33 : decode b_S_goThrough 33 = .ok (.iload_n 2, 1) := by decide +kernel
theorem d_S_goThrough_34 : decode b_S_goThrough 34 = .ok (.invokestatic 94, 3) := by decide +kernel
theorem d_S_goThrough_37 : decode b_S_goThrough 37 = .ok (.istore 5, 2) := by decide +kernel
theorem d_S_goThrough_39 : decode b_S_goThrough 39 = .ok (.iload_n 3, 1) := by decide +kernel
theorem d_S_goThrough_40 : decode b_S_goThrough 40 = .ok (.aload_n 0, 1) := by decide +kernel
theorem d_S_goThrough_41 : decode b_S_goThrough 41 = .ok (.getfield 9, 3) := by decide +kernel
theorem d_S_goThrough_44 : decode b_S_goThrough 44 = .ok (.getfield 66, 3) := by decide +kernel
theorem d_S_goThrough_47 : decode b_S_goThrough 47 = .ok (.iconst 1, 1) := by decide +kernel
theorem d_S_goThrough_48 : decode b_S_goThrough 48 = .ok (.isub, 1) := by decide +kernel
theorem d_S_goThrough_49 : decode b_S_goThrough 49 = .ok (.if_icmp .ne 7, 3) := by decide +kernel
theorem d_S_goThrough_52 : decode b_S_goThrough 52 = .ok (.iconst 1, 1) := by decide +kernel
theorem d_S_goThrough_53 : decode b_S_goThrough 53 = .ok (.goto 4, 3) := by decide +kernel
theorem d_S_goThrough_56 : decode b_S_goThrough 56 = .ok (.iconst 0, 1) := by decide +kernel
theorem d_S_goThrough_57 : decode b_S_goThrough 57 = .ok (.istore 6, 2) := by decide +kernel
theorem d_S_goThrough_59 : decode b_S_goThrough 59 = .ok (.aload_n 0, 1) := by decide +kernel
theorem d_S_goThrough_60 : decode b_S_goThrough 60 = .ok (.getfield 22, 3) := by decide +kernel
theorem d_S_goThrough_63 : decode b_S_goThrough 63 = .ok (.iload 5, 2) := by decide +kernel
theorem d_S_goThrough_65 : decode b_S_goThrough 65 = .ok (.iaload, 1) := by decide +kernel
theorem d_S_goThrough_66 : decode b_S_goThrough 66 = .ok (.aload_n 0, 1) := by decide +kernel
theorem d_S_goThrough_67 : decode b_S_goThrough 67 = .ok (.getfield 25, 3) := by decide +kernel
theorem d_S_goThrough_70 : decode b_S_goThrough 70 = .ok (.iload 5, 2) := by decide +kernel
theorem d_S_goThrough_72 : decode b_S_goThrough 72 = .ok (.iaload, 1) := by decide +kernel
theorem d_S_goThrough_73 : decode b_S_goThrough 73 = .ok (.if_icmp .le 38, 3) := by decide +kernel
theorem d_S_goThrough_76 : decode b_S_goThrough 76 = .ok (.iload_n 3, 1) := by decide +kernel
theorem d_S_goThrough_77 : decode b_S_goThrough 77 = .ok (.ifCond .ne 9, 3) := by decide +kernel
theorem d_S_goThrough_80 : decode b_S_goThrough 80 = .ok (.iload_n 2, 1) := by decide +kernel
theorem d_S_goThrough_81 : decode b_S_goThrough 81 = .ok (.iconst 1, 1) := by decide +kernel
theorem d_S_goThrough_82 : decode b_S_goThrough 82 = .ok (.isub, 1) := by decide +kernel
theorem d_S_goThrough_83 : decode b_S_goThrough 83 = .ok (.goto 4, 3) := by decide +kernel
theorem d_S_goThrough_86 : decode b_S_goThrough 86 = .ok (.iload_n 2, 1) := by decide +kernel
theorem d_S_goThrough_87 : decode b_S_goThrough 87 = .ok (.istore_n 2, 1) := by decide +kernel
theorem d_S_goThrough_88 : decode b_S_goThrough 88 = .ok (.iload_n 3, 1) := by decide +kernel
theorem d_S_goThrough_89 : decode b_S_goThrough 89 = .ok (.ifCond .ne 15, 3) := by decide +kernel
theorem d_S_goThrough_92 : decode b_S_goThrough 92 = .ok (.aload_n 0, 1) := by decide +kernel
theorem d_S_goThrough_93 : decode b_S_goThrough 93 = .ok (.getfield 9, 3) := by decide +kernel
theorem d_S_goThrough_96 : decode b_S_goThrough 96 = .ok (.getfield 66, 3) := by decide +kernel
theorem d_S_goThrough_99 : decode b_S_goThrough 99 = .ok (.iconst 1, 1) := by decide +kernel
theorem d_S_goThrough_100 : decode b_S_goThrough 100 = .ok (.isub, 1) := by decide +kernel
theorem d_S_goThrough_101 : decode b_S_goThrough 101 = .ok (.goto 6, 3) := by decide +kernel
theorem d_S_goThrough_104 : decode b_S_goThrough 104 = .ok (.iload_n 3, 1) := by decide +kernel
theorem d_S_goThrough_105 : decode b_S_goThrough 105 = .ok (.iconst 1, 1) := by decide +kernel
theorem d_S_goThrough_106 : decode b_S_goThrough 106 = .ok (.isub, 1) := by decide +kernel
theorem d_S_goThrough_107 : decode b_S_goThrough 107 = .ok (.istore_n 3, 1) := by decide +kernel
theorem d_S_goThrough_108 : decode b_S_goThrough 108 = .ok (.goto 96, 3) := by decide +kernel
theorem d_S_goThrough_111 : decode b_S_goThrough 111 = .ok (.aload_n 0, 1) := by decide +kernel
theorem d_S_goThrough_112 : decode b_S_goThrough 112 = .ok (.getfield 44, 3) := by decide +kernel
theorem d_S_goThrough_115 : decode b_S_goThrough 115 = .ok (.aload_n 0, 1) := by decide +kernel
theorem d_S_goThrough_116 : decode b_S_goThrough 116 = .ok (.getfield 37, 3) := by decide +kernel
theorem d_S_goThrough_119 : decode b_S_goThrough 119 = .ok (.if_icmp .lt 11, 3) := by decide +kernel
theorem d_S_goThrough_122 : decode b_S_goThrough 122 = .ok (.aload_n 0, 1) := by decide +kernel
theorem d_S_goThrough_123 : decode b_S_goThrough 123 = .ok (.iconst 1, 1) := by decide +kernel
theorem d_S_goThrough_124 : decode b_S_goThrough 124 = .ok (.putfield 53, 3) := by decide +kernel
theorem d_S_goThrough_127 : decode b_S_goThrough 127 = .ok (.goto 77, 3) := by decide +kernel
theorem d_S_goThrough_130 : decode b_S_goThrough 130 = .ok (.aload_n 0, 1) := by decide +kernel
theorem d_S_goThrough_131 : decode b_S_goThrough 131 = .ok (.iload_n 3, 1) := by decide +kernel
theorem d_S_goThrough_132 : decode b_S_goThrough 132 = .ok (.iload_n 2, 1) := by decide +kernel
theorem d_S_goThrough_133 : decode b_S_goThrough 133 = .ok (.invokevirtual 98, 3) := by decide +kernel
theorem d_S_goThrough_136 : decode b_S_goThrough 136 = .ok (.ifCond .eq 68, 3) := by decide +kernel
theorem d_S_goThrough_139 : decode b_S_goThrough 139 = .ok (.iload 6, 2) := by decide +kernel
theorem d_S_goThrough_141 : decode b_S_goThrough 141 = .ok (.ifCond .eq 30, 3) := by decide +kernel
theorem d_S_goThrough_144 : decode b_S_goThrough 144 = .ok (.iload_n 2, 1) := by decide +kernel
theorem d_S_goThrough_145 : decode b_S_goThrough 145 = .ok (.aload_n 0, 1) := by decide +kernel
theorem d_S_goThrough_146 : decode b_S_goThrough 146 = .ok (.getfield 9, 3) := by decide +kernel
theorem d_S_goThrough_149 : decode b_S_goThrough 149 = .ok (.getfield 71, 3) := by decide +kernel
theorem d_S_goThrough_152 : decode b_S_goThrough 152 = .ok (.iconst 1, 1) := by decide +kernel
theorem d_S_goThrough_153 : decode b_S_goThrough 153 = .ok (.isub, 1) := by decide +kernel
theorem d_S_goThrough_154 : decode b_S_goThrough 154 = .ok (.if_icmp .ne 17, 3) := by decide +kernel
theorem d_S_goThrough_157 : decode b_S_goThrough 157 = .ok (.aload_n 0, 1) := by decide +kernel
theorem d_S_goThrough_158 : decode b_S_goThrough 158 = .ok (.aload_n 0, 1) := by decide +kernel
theorem d_S_goThrough_159 : decode b_S_goThrough 159 = .ok (.getfield 34, 3) := by decide +kernel
theorem d_S_goThrough_162 : decode b_S_goThrough 162 = .ok (.iload 5, 2) := by decide +kernel
theorem d_S_goThrough_164 : decode b_S_goThrough 164 = .ok (.iaload, 1) := by decide +kernel
theorem d_S_goThrough_165 : decode b_S_goThrough 165 = .ok (.invokevirtual 85, 3) := by decide +kernel
theorem d_S_goThrough_168 : decode b_S_goThrough 168 = .ok (.goto 36, 3) := by decide +kernel
theorem d_S_goThrough_171 : decode b_S_goThrough 171 = .ok (.iload 6, 2) := by decide +kernel
theorem d_S_goThrough_173 : decode b_S_goThrough 173 = .ok (.ifCond .eq 9, 3) := by decide +kernel
theorem d_S_goThrough_176 : decode b_S_goThrough 176 = .ok (.iload_n 2, 1) := by decide +kernel
theorem d_S_goThrough_177 : decode b_S_goThrough 177 = .ok (.iconst 1, 1) := by decide +kernel
theorem d_S_goThrough_178 : decode b_S_goThrough 178 = .ok (.iadd, 1) := by decide +kernel
theorem d_S_goThrough_179 : decode b_S_goThrough 179 = .ok (.goto 4, 3) := by decide +kernel
theorem d_S_goThrough_182 : decode b_S_goThrough 182 = .ok (.iload_n 2, 1) := by decide +kernel
theorem d_S_goThrough_183 : decode b_S_goThrough 183 = .ok (.istore_n 2, 1) := by decide +kernel
theorem d_S_goThrough_184 : decode b_S_goThrough 184 = .ok (.iload 6, 2) := by decide +kernel
theorem d_S_goThrough_186 : decode b_S_goThrough 186 = .ok (.ifCond .eq 7, 3) := by decide +kernel
theorem d_S_goThrough_189 : decode b_S_goThrough 189 = .ok (.iconst 0, 1) := by decide +kernel
theorem d_S_goThrough_190 : decode b_S_goThrough 190 = .ok (.goto 6, 3) := by decide +kernel
theorem d_S_goThrough_193 : decode b_S_goThrough 193 = .ok (.iload_n 3, 1) := by decide +kernel
theorem d_S_goThrough_194 : decode b_S_goThrough 194 = .ok (.iconst 1, 1) := by decide +kernel
theorem d_S_goThrough_195 : decode b_S_goThrough 195 = .ok (.iadd, 1) := by decide +kernel
theorem d_S_goThrough_196 : decode b_S_goThrough 196 = .ok (.istore_n 3, 1) := by decide +kernel
theorem d_S_goThrough_197 : decode b_S_goThrough 197 = .ok (.aload_n 0, 1) := by decide +kernel
theorem d_S_goThrough_198 : decode b_S_goThrough 198 = .ok (.aload_n 1, 1) := by decide +kernel
theorem d_S_goThrough_199 : decode b_S_goThrough 199 = .ok (.iload_n 3, 1) := by decide +kernel
theorem d_S_goThrough_200 : decode b_S_goThrough 200 = .ok (.iload_n 2, 1) := by decide +kernel
theorem d_S_goThrough_201 : decode b_S_goThrough 201 = .ok (.invokevirtual 89, 3) := by decide +kernel
theorem d_S_goThrough_204 : decode b_S_goThrough 204 = .ok (.iinc 4 1, 3) := by decide +kernel
theorem d_S_goThrough_207 : decode b_S_goThrough 207 = .ok (.goto (-193), 3) := by decide +kernel
theorem d_S_goThrough_210 : decode b_S_goThrough 210 = .ok (.return_, 1) := by decide +kernel
theorem d_S_open_0 : decode b_S_open 0 = .ok (.iload_n 2, 1) := by decide +kernel
theorem d_S_open_1 : decode b_S_open 1 = .ok (.iload_n 3, 1) := by decide +kernel
theorem d_S_open_2 : decode b_S_open 2 = .ok (.invokestatic 94, 3) := by decide +kernel
theorem d_S_open_5 : decode b_S_open 5 = .ok (.istore 4, 2) := by decide +kernel
theorem d_S_open_7 : decode b_S_open 7 = .ok (.iload_n 3, 1) := by decide +kernel
theorem d_S_open_8 : decode b_S_open 8 = .ok (.aload_n 0, 1) := by decide +kernel
theorem d_S_open_9 : decode b_S_open 9 = .ok (.getfield 41, 3) := by decide +kernel
theorem d_S_open_12 : decode b_S_open 12 = .ok (.if_icmp .ge 7, 3) := by decide +kernel
theorem d_S_open_15 : decode b_S_open 15 = .ok (.iconst 1, 1) := by decide +kernel
theorem d_S_open_16 : decode b_S_open 16 = .ok (.goto 4, 3) := by decide +kernel
theorem d_S_open_19 : decode b_S_open 19 = .ok (.iconst 0, 1) := by decide +kernel
theorem d_S_open_20 : decode b_S_open 20 = .ok (.istore 5, 2) := by decide +kernel
theorem d_S_open_22 : decode b_S_open 22 = .ok (.aload_n 0, 1) := by decide +kernel
theorem d_S_open_23 : decode b_S_open 23 = .ok (.getfield 22, 3) := by decide +kernel
theorem d_S_open_26 : decode b_S_open 26 = .ok (.iload 4, 2) := by decide +kernel
theorem d_S_open_28 : decode b_S_open 28 = .ok (.iload 5, 2) := by decide +kernel
theorem d_S_open_30 : decode b_S_open 30 = .ok (.ifCond .eq 10, 3) := by decide +kernel
theorem d_S_open_33 : decode b_S_open 33 = .ok (.aload_n 1, 1) := by decide +kernel
theorem d_S_open_34 : decode b_S_open 34 = .ok (.iload 4, 2) := by decide +kernel
theorem d_S_open_36 : decode b_S_open 36 = .ok (.iaload, 1) := by decide +kernel
theorem d_S_open_37 : decode b_S_open 37 = .ok (.goto 4, 3) := by decide +kernel
theorem d_S_open_40 : decode b_S_open 40 = .ok (.iconst 0, 1) := by decide +kernel
theorem d_S_open_41 : decode b_S_open 41 = .ok (.iastore, 1) := by decide +kernel
theorem d_S_open_42 : decode b_S_open 42 = .ok (.aload_n 0, 1) := by decide +kernel
theorem d_S_open_43 : decode b_S_open 43 = .ok (.getfield 25, 3) := by decide +kernel
theorem d_S_open_46 : decode b_S_open 46 = .ok (.iload 4, 2) := by decide +kernel
theorem d_S_open_48 : decode b_S_open 48 = .ok (.iload 5, 2) := by decide +kernel
theorem d_S_open_50 : decode b_S_open 50 = .ok (.ifCond .eq 10, 3) := by decide +kernel
theorem d_S_open_53 : decode b_S_open 53 = .ok (.aload_n 1, 1) := by decide +kernel
theorem d_S_open_54 : decode b_S_open 54 = .ok (.iload 4, 2) := by decide +kernel
theorem d_S_open_56 : decode b_S_open 56 = .ok (.iaload, 1) := by decide +kernel
theorem d_S_open_57 : decode b_S_open 57 = .ok (.goto 4, 3) := by decide +kernel
theorem d_S_open_60 : decode b_S_open 60 = .ok (.iconst 3, 1) := by decide +kernel
theorem d_S_open_61 : decode b_S_open 61 = .ok (.iastore, 1) := by decide +kernel
theorem d_S_open_62 : decode b_S_open 62 = .ok (.return_, 1) := by decide +kernel
theorem d_S_standsNext_0 : decode b_S_standsNext 0 = .ok (.iload_n 1, 1) := by decide +kernel
theorem d_S_standsNext_1 : decode b_S_standsNext 1 = .ok (.iload_n 2, 1) := by decide +kernel
theorem d_S_standsNext_2 : decode b_S_standsNext 2 = .ok (.invokestatic 94, 3) := by decide +kernel
theorem d_S_standsNext_5 : decode b_S_standsNext 5 = .ok (.istore_n 3, 1) := by decide +kernel
theorem d_S_standsNext_6 : decode b_S_standsNext 6 = .ok (.aload_n 0, 1) := by decide +kernel
theorem d_S_standsNext_7 : decode b_S_standsNext 7 = .ok (.getfield 22, 3) := by decide +kernel
theorem d_S_standsNext_10 : decode b_S_standsNext 10 = .ok (.iload_n 3, 1) := by decide +kernel
theorem d_S_standsNext_11 : decode b_S_standsNext 11 = .ok (.iaload, 1) := by decide +kernel
theorem d_S_standsNext_12 : decode b_S_standsNext 12 = .ok (.istore 4, 2) := by decide +kernel
theorem d_S_standsNext_14 : decode b_S_standsNext 14 = .ok (.aload_n 0, 1) := by decide +kernel
theorem d_S_standsNext_15 : decode b_S_standsNext 15 = .ok (.getfield 22, 3) := by decide +kernel
theorem d_S_standsNext_18 : decode b_S_standsNext 18 = .ok (.iload_n 3, 1) := by decide +kernel
theorem d_S_standsNext_19 : decode b_S_standsNext 19 = .ok (.dup2, 1) := by decide +kernel
theorem d_S_standsNext_20 : decode b_S_standsNext 20 = .ok (.iaload, 1) := by decide +kernel
theorem d_S_standsNext_21 : decode b_S_standsNext 21 = .ok (.iconst 1, 1) := by decide +kernel
theorem d_S_standsNext_22 : decode b_S_standsNext 22 = .ok (.iadd, 1) := by decide +kernel
theorem d_S_standsNext_23 : decode b_S_standsNext 23 = .ok (.iastore, 1) := by decide +kernel
theorem d_S_standsNext_24 : decode b_S_standsNext 24 = .ok (.aload_n 0, 1) := by decide +kernel
theorem d_S_standsNext_25 : decode b_S_standsNext 25 = .ok (.dup, 1) := by decide +kernel
theorem d_S_standsNext_26 : decode b_S_standsNext 26 = .ok (.getfield 44, 3) := by decide +kernel
theorem d_S_standsNext_29 : decode b_S_standsNext 29 = .ok (.iconst 1, 1) := by decide +kernel
theorem d_S_standsNext_30 : decode b_S_standsNext 30 = .ok (.iadd, 1) := by decide +kernel
theorem d_S_standsNext_31 : decode b_S_standsNext 31 = .ok (.putfield 44, 3) := by decide +kernel
theorem d_S_standsNext_34 : decode b_S_standsNext 34 = .ok (.aload_n 0, 1) := by decide +kernel
theorem d_S_standsNext_35 : decode b_S_standsNext 35 = .ok (.getfield 19, 3) := by decide +kernel
theorem d_S_standsNext_38 : decode b_S_standsNext 38 = .ok (.iload_n 3, 1) := by decide +kernel
theorem d_S_standsNext_39 : decode b_S_standsNext 39 = .ok (.iload 4, 2) := by decide +kernel
theorem d_S_standsNext_41 : decode b_S_standsNext 41 = .ok (.iastore, 1) := by decide +kernel
theorem d_S_standsNext_42 : decode b_S_standsNext 42 = .ok (.aload_n 0, 1) := by decide +kernel
theorem d_S_standsNext_43 : decode b_S_standsNext 43 = .ok (.iload_n 1, 1) := by decide +kernel
theorem d_S_standsNext_44 : decode b_S_standsNext 44 = .ok (.iload_n 2, 1) := by decide +kernel
theorem d_S_standsNext_45 : decode b_S_standsNext 45 = .ok (.iload 4, 2) := by decide +kernel
theorem d_S_standsNext_47 : decode b_S_standsNext 47 = .ok (.invokevirtual 102, 3) := by decide +kernel
theorem d_S_standsNext_50 : decode b_S_standsNext 50 = .ok (.ifCond .eq 64, 3) := by decide +kernel
theorem d_S_standsNext_53 : decode b_S_standsNext 53 = .ok (.aload_n 0, 1) := by decide +kernel
theorem d_S_standsNext_54 : decode b_S_standsNext 54 = .ok (.getfield 9, 3) := by decide +kernel
theorem d_S_standsNext_57 : decode b_S_standsNext 57 = .ok (.getfield 106, 3) := by decide +kernel
theorem d_S_standsNext_60 : decode b_S_standsNext 60 = .ok (.iload_n 1, 1) := by decide +kernel
theorem d_S_standsNext_61 : decode b_S_standsNext 61 = .ok (.iload_n 2, 1) := by decide +kernel
theorem d_S_standsNext_62 : decode b_S_standsNext 62 = .ok (.iload 4, 2) := by decide +kernel
theorem d_S_standsNext_64 : decode b_S_standsNext 64 = .ok (.invokestatic 110, 3) := by decide +kernel
theorem d_S_standsNext_67 : decode b_S_standsNext 67 = .ok (.baload, 1) := by decide +kernel
theorem d_S_standsNext_68 : decode b_S_standsNext 68 = .ok (.ifCond .ne 46, 3) := by decide +kernel
theorem d_S_standsNext_71 : decode b_S_standsNext 71 = .ok (.aload_n 0, 1) := by decide +kernel
theorem d_S_standsNext_72 : decode b_S_standsNext 72 = .ok (.iload_n 1, 1) := by decide +kernel
theorem d_S_standsNext_73 : decode b_S_standsNext 73 = .ok (.iload_n 2, 1) := by decide +kernel
theorem d_S_standsNext_74 : decode b_S_standsNext 74 = .ok (.iload 4, 2) := by decide +kernel
theorem d_S_standsNext_76 : decode b_S_standsNext 76 = .ok (.invokevirtual 114, 3) := by decide +kernel
theorem d_S_standsNext_79 : decode b_S_standsNext 79 = .ok (.ifCond .eq 35, 3) := by decide +kernel
theorem d_S_standsNext_82 : decode b_S_standsNext 82 = .ok (.iload_n 1, 1) := by decide +kernel
theorem d_S_standsNext_83 : decode b_S_standsNext 83 = .ok (.aload_n 0, 1) := by decide +kernel
theorem d_S_standsNext_84 : decode b_S_standsNext 84 = .ok (.getfield 9, 3) := by decide +kernel
theorem d_S_standsNext_87 : decode b_S_standsNext 87 = .ok (.getfield 66, 3) := by decide +kernel
theorem d_S_standsNext_90 : decode b_S_standsNext 90 = .ok (.iconst 1, 1) := by decide +kernel
theorem d_S_standsNext_91 : decode b_S_standsNext 91 = .ok (.isub, 1) := by decide +kernel
theorem d_S_standsNext_92 : decode b_S_standsNext 92 = .ok (.if_icmp .lt 18, 3) := by decide +kernel
theorem d_S_standsNext_95 : decode b_S_standsNext 95 = .ok (.aload_n 0, 1) := by decide +kernel
theorem d_S_standsNext_96 : decode b_S_standsNext 96 = .ok (.getfield 9, 3) := by decide +kernel
theorem d_S_standsNext_99 : decode b_S_standsNext 99 = .ok (.aload_n 0, 1) := by decide +kernel
theorem d_S_standsNext_100 : decode b_S_standsNext 100 = .ok (.getfield 19, 3) := by decide +kernel
theorem d_S_standsNext_103 : decode b_S_standsNext 103 = .ok (.iload_n 2, 1) := by decide +kernel
theorem d_S_standsNext_104 : decode b_S_standsNext 104 = .ok (.invokevirtual 117, 3) := by decide +kernel
theorem d_S_standsNext_107 : decode b_S_standsNext 107 = .ok (.ifCond .ne 7, 3) := by decide +kernel
theorem d_S_standsNext_110 : decode b_S_standsNext 110 = .ok (.iconst 1, 1) := by decide +kernel
theorem d_S_standsNext_111 : decode b_S_standsNext 111 = .ok (.goto 4, 3) := by decide +kernel
theorem d_S_standsNext_114 : decode b_S_standsNext 114 = .ok (.iconst 0, 1) := by decide +kernel
theorem d_S_standsNext_115 : decode b_S_standsNext 115 = .ok (.ireturn, 1) := by decide +kernel
theorem d_S_keepsRules_0 : decode b_S_keepsRules 0 = .ok (.iload_n 1, 1) := by decide +kernel
theorem d_S_keepsRules_1 : decode b_S_keepsRules 1 = .ok (.iload_n 2, 1) := by decide +kernel
theorem d_S_keepsRules_2 : decode b_S_keepsRules 2 = .ok (.invokestatic 94, 3) := by decide +kernel
theorem d_S_keepsRules_5 : decode b_S_keepsRules 5 = .ok (.istore 4, 2) := by decide +kernel
theorem d_S_keepsRules_7 : decode b_S_keepsRules 7 = .ok (.iload_n 1, 1) := by decide +kernel
theorem d_S_keepsRules_8 : decode b_S_keepsRules 8 = .ok (.iload_n 2, 1) := by decide +kernel
theorem d_S_keepsRules_9 : decode b_S_keepsRules 9 = .ok (.iconst 1, 1) := by decide +kernel
theorem d_S_keepsRules_10 : decode b_S_keepsRules 10 = .ok (.isub, 1) := by decide +kernel
theorem d_S_keepsRules_11 : decode b_S_keepsRules 11 = .ok (.invokestatic 94, 3) := by decide +kernel
theorem d_S_keepsRules_14 : decode b_S_keepsRules 14 = .ok (.istore 5, 2) := by decide +kernel
theorem d_S_keepsRules_16 : decode b_S_keepsRules 16 = .ok (.iload_n 2, 1) := by decide +kernel
theorem d_S_keepsRules_17 : decode b_S_keepsRules 17 = .ok (.ifCond .ne 7, 3) := by decide +kernel
theorem d_S_keepsRules_20 : decode b_S_keepsRules 20 = .ok (.iconst 0, 1) := by decide +kernel
theorem d_S_keepsRules_21 : decode b_S_keepsRules 21 = .ok (.goto 10, 3) := by decide +kernel
theorem d_S_keepsRules_24 : decode b_S_keepsRules 24 = .ok (.aload_n 0, 1) := by decide +kernel
theorem d_S_keepsRules_25 : decode b_S_keepsRules 25 = .ok (.getfield 28, 3) := by decide +kernel
theorem d_S_keepsRules_28 : decode b_S_keepsRules 28 = .ok (.iload 5, 2) := by decide +kernel
theorem d_S_keepsRules_30 : decode b_S_keepsRules 30 = .ok (.iaload, 1) := by decide +kernel
theorem d_S_keepsRules_31 : decode b_S_keepsRules 31 = .ok (.istore 6, 2) := by decide +kernel
theorem d_S_keepsRules_33 : decode b_S_keepsRules 33 = .ok (.iload_n 2, 1) := by decide +kernel
theorem d_S_keepsRules_34 : decode b_S_keepsRules 34 = .ok (.ifCond .ne 7, 3) := by decide +kernel
theorem d_S_keepsRules_37 : decode b_S_keepsRules 37 = .ok (.iconst 0, 1) := by decide +kernel
theorem d_S_keepsRules_38 : decode b_S_keepsRules 38 = .ok (.goto 10, 3) := by decide +kernel
theorem d_S_keepsRules_41 : decode b_S_keepsRules 41 = .ok (.aload_n 0, 1) := by decide +kernel
theorem d_S_keepsRules_42 : decode b_S_keepsRules 42 = .ok (.getfield 31, 3) := by decide +kernel
theorem d_S_keepsRules_45 : decode b_S_keepsRules 45 = .ok (.iload 5, 2) := by decide +kernel
theorem d_S_keepsRules_47 : decode b_S_keepsRules 47 = .ok (.iaload, 1) := by decide +kernel
theorem d_S_keepsRules_48 : decode b_S_keepsRules 48 = .ok (.istore 7, 2) := by decide +kernel
theorem d_S_keepsRules_50 : decode b_S_keepsRules 50 = .ok (.iload_n 2, 1) := by decide +kernel
theorem d_S_keepsRules_51 : decode b_S_keepsRules 51 = .ok (.ifCond .ne 7, 3) := by decide +kernel
theorem d_S_keepsRules_54 : decode b_S_keepsRules 54 = .ok (.iconst 0, 1) := by decide +kernel
theorem d_S_keepsRules_55 : decode b_S_keepsRules 55 = .ok (.goto 10, 3) := by decide +kernel
theorem d_S_keepsRules_58 : decode b_S_keepsRules 58 = .ok (.aload_n 0, 1) := by decide +kernel
theorem d_S_keepsRules_59 : decode b_S_keepsRules 59 = .ok (.getfield 19, 3) := by decide +kernel
theorem d_S_keepsRules_62 : decode b_S_keepsRules 62 = .ok (.iload 5, 2) := by decide +kernel
theorem d_S_keepsRules_64 : decode b_S_keepsRules 64 = .ok (.iaload, 1) := by decide +kernel
theorem d_S_keepsRules_65 : decode b_S_keepsRules 65 = .ok (.istore 8, 2) := by decide +kernel
theorem d_S_keepsRules_67 : decode b_S_keepsRules 67 = .ok (.aload_n 0, 1) := by decide +kernel
theorem d_S_keepsRules_68 : decode b_S_keepsRules 68 = .ok (.getfield 28, 3) := by decide +kernel
theorem d_S_keepsRules_71 : decode b_S_keepsRules 71 = .ok (.iload 4, 2) := by decide +kernel
theorem d_S_keepsRules_73 : decode b_S_keepsRules 73 = .ok (.iload_n 3, 1) := by decide +kernel
theorem d_S_keepsRules_74 : decode b_S_keepsRules 74 = .ok (.ifCond .ne 8, 3) := by decide +kernel
theorem d_S_keepsRules_77 : decode b_S_keepsRules 77 = .ok (.iload 6, 2) := by decide +kernel
theorem d_S_keepsRules_79 : decode b_S_keepsRules 79 = .ok (.goto 7, 3) := by decide +kernel
theorem d_S_keepsRules_82 : decode b_S_keepsRules 82 = .ok (.iload 6, 2) := by decide +kernel
theorem d_S_keepsRules_84 : decode b_S_keepsRules 84 = .ok (.iconst 1, 1) := by decide +kernel
theorem d_S_keepsRules_85 : decode b_S_keepsRules 85 = .ok (.iadd, 1) := by decide +kernel
theorem d_S_keepsRules_86 : decode b_S_keepsRules 86 = .ok (.iastore, 1) := by decide +kernel
theorem d_S_keepsRules_87 : decode b_S_keepsRules 87 = .ok (.aload_n 0, 1) := by decide +kernel
theorem d_S_keepsRules_88 : decode b_S_keepsRules 88 = .ok (.getfield 31, 3) := by decide +kernel
theorem d_S_keepsRules_91 : decode b_S_keepsRules 91 = .ok (.iload 4, 2) := by decide +kernel
theorem d_S_keepsRules_93 : decode b_S_keepsRules 93 = .ok (.iload_n 3, 1) := by decide +kernel
theorem d_S_keepsRules_94 : decode b_S_keepsRules 94 = .ok (.iconst 3, 1) := by decide +kernel
theorem d_S_keepsRules_95 : decode b_S_keepsRules 95 = .ok (.if_icmp .ne 10, 3) := by decide +kernel
theorem d_S_keepsRules_98 : decode b_S_keepsRules 98 = .ok (.iload 7, 2) := by decide +kernel
theorem d_S_keepsRules_100 : decode b_S_keepsRules 100 = .ok (.iconst 1, 1) := by decide +kernel
theorem d_S_keepsRules_101 : decode b_S_keepsRules 101 = .ok (.iadd, 1) := by decide +kernel
theorem d_S_keepsRules_102 : decode b_S_keepsRules 102 = .ok (.goto 4, 3) := by decide +kernel
theorem d_S_keepsRules_105 : decode b_S_keepsRules 105 = .ok (.iconst 0, 1) := by decide +kernel
theorem d_S_keepsRules_106 : decode b_S_keepsRules 106 = .ok (.iastore, 1) := by decide +kernel
theorem d_S_keepsRules_107 : decode b_S_keepsRules 107 = .ok (.aload_n 0, 1) := by decide +kernel
theorem d_S_keepsRules_108 : decode b_S_keepsRules 108 = .ok (.getfield 28, 3) := by decide +kernel
theorem d_S_keepsRules_111 : decode b_S_keepsRules 111 = .ok (.iload 4, 2) := by decide +kernel
theorem d_S_keepsRules_113 : decode b_S_keepsRules 113 = .ok (.iaload, 1) := by decide +kernel
theorem d_S_keepsRules_114 : decode b_S_keepsRules 114 = .ok (.aload_n 0, 1) := by decide +kernel
theorem d_S_keepsRules_115 : decode b_S_keepsRules 115 = .ok (.getfield 9, 3) := by decide +kernel
theorem d_S_keepsRules_118 : decode b_S_keepsRules 118 = .ok (.getfield 121, 3) := by decide +kernel
theorem d_S_keepsRules_121 : decode b_S_keepsRules 121 = .ok (.if_icmp .gt 37, 3) := by decide +kernel
theorem d_S_keepsRules_124 : decode b_S_keepsRules 124 = .ok (.aload_n 0, 1) := by decide +kernel
theorem d_S_keepsRules_125 : decode b_S_keepsRules 125 = .ok (.getfield 31, 3) := by decide +kernel
theorem d_S_keepsRules_128 : decode b_S_keepsRules 128 = .ok (.iload 4, 2) := by decide +kernel
theorem d_S_keepsRules_130 : decode b_S_keepsRules 130 = .ok (.iaload, 1) := by decide +kernel
theorem d_S_keepsRules_131 : decode b_S_keepsRules 131 = .ok (.aload_n 0, 1) := by decide +kernel
theorem d_S_keepsRules_132 : decode b_S_keepsRules 132 = .ok (.getfield 9, 3) := by decide +kernel
theorem d_S_keepsRules_135 : decode b_S_keepsRules 135 = .ok (.getfield 124, 3) := by decide +kernel
theorem d_S_keepsRules_138 : decode b_S_keepsRules 138 = .ok (.if_icmp .gt 20, 3) := by decide +kernel
theorem d_S_keepsRules_141 : decode b_S_keepsRules 141 = .ok (.aload_n 0, 1) := by decide +kernel
theorem d_S_keepsRules_142 : decode b_S_keepsRules 142 = .ok (.getfield 9, 3) := by decide +kernel
theorem d_S_keepsRules_145 : decode b_S_keepsRules 145 = .ok (.iload 8, 2) := by decide +kernel
theorem d_S_keepsRules_147 : decode b_S_keepsRules 147 = .ok (.iload_n 3, 1) := by decide +kernel
theorem d_S_keepsRules_148 : decode b_S_keepsRules 148 = .ok (.invokevirtual 127, 3) := by decide +kernel
theorem d_S_keepsRules_151 : decode b_S_keepsRules 151 = .ok (.ifCond .ne 7, 3) := by decide +kernel
theorem d_S_keepsRules_154 : decode b_S_keepsRules 154 = .ok (.iconst 1, 1) := by decide +kernel
theorem d_S_keepsRules_155 : decode b_S_keepsRules 155 = .ok (.goto 4, 3) := by decide +kernel
theorem d_S_keepsRules_158 : decode b_S_keepsRules 158 = .ok (.iconst 0, 1) := by decide +kernel
theorem d_S_keepsRules_159 : decode b_S_keepsRules 159 = .ok (.ireturn, 1) := by decide +kernel
theorem d_S_staysBelowBest_0 : decode b_S_staysBelowBest 0 = .ok (.iload_n 1, 1) := by decide +kernel
theorem d_S_staysBelowBest_1 : decode b_S_staysBelowBest 1 = .ok (.iload_n 2, 1) := by decide +kernel
theorem d_S_staysBelowBest_2 : decode b_S_staysBelowBest 2 = .ok (.invokestatic 94, 3) := by decide +kernel
theorem d_S_staysBelowBest_5 : decode b_S_staysBelowBest 5 = .ok (.istore 4, 2) := by decide +kernel
theorem d_S_staysBelowBest_7 : decode b_S_staysBelowBest 7 = .ok (.aload_n 0, 1) := by decide +kernel
theorem d_S_staysBelowBest_8 : decode b_S_staysBelowBest 8 = .ok (.getfield 34, 3) := by decide +kernel
theorem d_S_staysBelowBest_11 : decode b_S_staysBelowBest 11 = .ok (.iload 4, 2) := by decide +kernel
theorem d_S_staysBelowBest_13 : decode b_S_staysBelowBest 13 = .ok (.aload_n 0, 1) := by decide +kernel
theorem d_S_staysBelowBest_14 : decode b_S_staysBelowBest 14 = .ok (.iload_n 1, 1) := by decide +kernel
theorem d_S_staysBelowBest_15 : decode b_S_staysBelowBest 15 = .ok (.iload_n 2, 1) := by decide +kernel
theorem d_S_staysBelowBest_16 : decode b_S_staysBelowBest 16 = .ok (.invokevirtual 130, 3) := by decide +kernel
theorem d_S_staysBelowBest_19 : decode b_S_staysBelowBest 19 = .ok (.aload_n 0, 1) := by decide +kernel
theorem d_S_staysBelowBest_20 : decode b_S_staysBelowBest 20 = .ok (.getfield 9, 3) := by decide +kernel
theorem d_S_staysBelowBest_23 : decode b_S_staysBelowBest 23 = .ok (.getfield 133, 3) := by decide +kernel
theorem d_S_staysBelowBest_26 : decode b_S_staysBelowBest 26 = .ok (.iload_n 1, 1) := by decide +kernel
theorem d_S_staysBelowBest_27 : decode b_S_staysBelowBest 27 = .ok (.iload_n 2, 1) := by decide +kernel
theorem d_S_staysBelowBest_28 : decode b_S_staysBelowBest 28 = .ok (.iload_n 3, 1) := by decide +kernel
theorem d_S_staysBelowBest_29 : decode b_S_staysBelowBest 29 = .ok (.invokestatic 110, 3) := by decide +kernel
theorem d_S_staysBelowBest_32 : decode b_S_staysBelowBest 32 = .ok (.iaload, 1) := by decide +kernel
theorem d_S_staysBelowBest_33 : decode b_S_staysBelowBest 33 = .ok (.iadd, 1) := by decide +kernel
theorem d_S_staysBelowBest_34 : decode b_S_staysBelowBest 34 = .ok (.iastore, 1) := by decide +kernel
theorem d_S_staysBelowBest_35 : decode b_S_staysBelowBest 35 = .ok (.aload_n 0, 1) := by decide +kernel
theorem d_S_staysBelowBest_36 : decode b_S_staysBelowBest 36 = .ok (.getfield 34, 3) := by decide +kernel
theorem d_S_staysBelowBest_39 : decode b_S_staysBelowBest 39 = .ok (.iload 4, 2) := by decide +kernel
theorem d_S_staysBelowBest_41 : decode b_S_staysBelowBest 41 = .ok (.iaload, 1) := by decide +kernel
theorem d_S_staysBelowBest_42 : decode b_S_staysBelowBest 42 = .ok (.aload_n 0, 1) := by decide +kernel
theorem d_S_staysBelowBest_43 : decode b_S_staysBelowBest 43 = .ok (.getfield 50, 3) := by decide +kernel
theorem d_S_staysBelowBest_46 : decode b_S_staysBelowBest 46 = .ok (.if_icmp .ge 7, 3) := by decide +kernel
theorem d_S_staysBelowBest_49 : decode b_S_staysBelowBest 49 = .ok (.iconst 1, 1) := by decide +kernel
theorem d_S_staysBelowBest_50 : decode b_S_staysBelowBest 50 = .ok (.goto 4, 3) := by decide +kernel
theorem d_S_staysBelowBest_53 : decode b_S_staysBelowBest 53 = .ok (.iconst 0, 1) := by decide +kernel
theorem d_S_staysBelowBest_54 : decode b_S_staysBelowBest 54 = .ok (.ireturn, 1) := by decide +kernel
theorem d_S_unmetBefore_0 : decode b_S_unmetBefore 0 = .ok (.iload_n 1, 1) := by decide +kernel
theorem d_S_unmetBefore_1 : decode b_S_unmetBefore 1 = .ok (.ifCond .le 16, 3) := by decide +kernel
theorem d_S_unmetBefore_4 : decode b_S_unmetBefore 4 = .ok (.aload_n 0, 1) := by decide +kernel
theorem d_S_unmetBefore_5 : decode b_S_unmetBefore 5 = .ok (.getfield 34, 3) := by decide +kernel
theorem d_S_unmetBefore_8 : decode b_S_unmetBefore 8 = .ok (.iload_n 1, 1) := by decide +kernel
theorem d_S_unmetBefore_9 : decode b_S_unmetBefore 9 = .ok (.iconst 1, 1) := by decide +kernel
theorem d_S_unmetBefore_10 : decode b_S_unmetBefore 10 = .ok (.isub, 1) := by decide +kernel
theorem d_S_unmetBefore_11 : decode b_S_unmetBefore 11 = .ok (.iload_n 2, 1) := by decide +kernel
theorem d_S_unmetBefore_12 : decode b_S_unmetBefore 12 = .ok (.invokestatic 94, 3) := by decide +kernel
theorem d_S_unmetBefore_15 : decode b_S_unmetBefore 15 = .ok (.iaload, 1) := by decide +kernel
theorem d_S_unmetBefore_16 : decode b_S_unmetBefore 16 = .ok (.ireturn, 1) := by decide +kernel
theorem d_S_unmetBefore_17 : decode b_S_unmetBefore 17 = .ok (.iload_n 2, 1) := by decide +kernel
theorem d_S_unmetBefore_18 : decode b_S_unmetBefore 18 = .ok (.ifCond .ne 7, 3) := by decide +kernel
theorem d_S_unmetBefore_21 : decode b_S_unmetBefore 21 = .ok (.iconst 0, 1) := by decide +kernel
theorem d_S_unmetBefore_22 : decode b_S_unmetBefore 22 = .ok (.goto 23, 3) := by decide +kernel
theorem d_S_unmetBefore_25 : decode b_S_unmetBefore 25 = .ok (.aload_n 0, 1) := by decide +kernel
theorem d_S_unmetBefore_26 : decode b_S_unmetBefore 26 = .ok (.getfield 34, 3) := by decide +kernel
theorem d_S_unmetBefore_29 : decode b_S_unmetBefore 29 = .ok (.aload_n 0, 1) := by decide +kernel
theorem d_S_unmetBefore_30 : decode b_S_unmetBefore 30 = .ok (.getfield 9, 3) := by decide +kernel
theorem d_S_unmetBefore_33 : decode b_S_unmetBefore 33 = .ok (.getfield 66, 3) := by decide +kernel
theorem d_S_unmetBefore_36 : decode b_S_unmetBefore 36 = .ok (.iconst 1, 1) := by decide +kernel
theorem d_S_unmetBefore_37 : decode b_S_unmetBefore 37 = .ok (.isub, 1) := by decide +kernel
theorem d_S_unmetBefore_38 : decode b_S_unmetBefore 38 = .ok (.iload_n 2, 1) := by decide +kernel
theorem d_S_unmetBefore_39 : decode b_S_unmetBefore 39 = .ok (.iconst 1, 1) := by decide +kernel
theorem d_S_unmetBefore_40 : decode b_S_unmetBefore 40 = .ok (.isub, 1) := by decide +kernel
theorem d_S_unmetBefore_41 : decode b_S_unmetBefore 41 = .ok (.invokestatic 94, 3) := by decide +kernel
theorem d_S_unmetBefore_44 : decode b_S_unmetBefore 44 = .ok (.iaload, 1) := by decide +kernel
theorem d_S_unmetBefore_45 : decode b_S_unmetBefore 45 = .ok (.ireturn, 1) := by decide +kernel
theorem d_S_keepTrial_0 : decode b_S_keepTrial 0 = .ok (.aload_n 0, 1) := by decide +kernel
theorem d_S_keepTrial_1 : decode b_S_keepTrial 1 = .ok (.getfield 19, 3) := by decide +kernel
theorem d_S_keepTrial_4 : decode b_S_keepTrial 4 = .ok (.iconst 0, 1) := by decide +kernel
theorem d_S_keepTrial_5 : decode b_S_keepTrial 5 = .ok (.aload_n 0, 1) := by decide +kernel
theorem d_S_keepTrial_6 : decode b_S_keepTrial 6 = .ok (.getfield 15, 3) := by decide +kernel
theorem d_S_keepTrial_9 : decode b_S_keepTrial 9 = .ok (.iconst 0, 1) := by decide +kernel
theorem d_S_keepTrial_10 : decode b_S_keepTrial 10 = .ok (.bipush 42, 2) := by decide +kernel
theorem d_S_keepTrial_12 : decode b_S_keepTrial 12 = .ok (.invokestatic 60, 3) := by decide +kernel
theorem d_S_keepTrial_15 : decode b_S_keepTrial 15 = .ok (.aload_n 0, 1) := by decide +kernel
theorem d_S_keepTrial_16 : decode b_S_keepTrial 16 = .ok (.iload_n 1, 1) := by decide +kernel
theorem d_S_keepTrial_17 : decode b_S_keepTrial 17 = .ok (.putfield 50, 3) := by decide +kernel
theorem d_S_keepTrial_20 : decode b_S_keepTrial 20 = .ok (.aload_n 0, 1) := by decide +kernel
theorem d_S_keepTrial_21 : decode b_S_keepTrial 21 = .ok (.dup, 1) := by decide +kernel
theorem d_S_keepTrial_22 : decode b_S_keepTrial 22 = .ok (.getfield 47, 3) := by decide +kernel
theorem d_S_keepTrial_25 : decode b_S_keepTrial 25 = .ok (.iconst 1, 1) := by decide +kernel
theorem d_S_keepTrial_26 : decode b_S_keepTrial 26 = .ok (.iadd, 1) := by decide +kernel
theorem d_S_keepTrial_27 : decode b_S_keepTrial 27 = .ok (.putfield 47, 3) := by decide +kernel
theorem d_S_keepTrial_30 : decode b_S_keepTrial 30 = .ok (.return_, 1) := by decide +kernel
end
section
theorem nI_or (a b : Nat) : nI a ||| nI b = nI (a ||| b) := by
  apply Int32.toBitVec_inj.1
  show BitVec.ofNat 32 a ||| BitVec.ofNat 32 b = BitVec.ofNat 32 (a ||| b)
  apply BitVec.eq_of_getLsbD_eq
  intro i hi
  simp [hi]
theorem nI_and (a b : Nat) : nI a &&& nI b = nI (a &&& b) := by
  apply Int32.toBitVec_inj.1
  show BitVec.ofNat 32 a &&& BitVec.ofNat 32 b = BitVec.ofNat 32 (a &&& b)
  apply BitVec.eq_of_getLsbD_eq
  intro i hi
  simp [hi]
section NR
variable {p : Program} {l : Launch} {e : Env} {R : Room} {s : State} {m : MethodId} {args : Array Value} {below : List Frame} {meth : Method} {c : Code} {H : Heap} {locs : List Loc} {cells slots : Nat} {Q : State → Prop}
variable {cc : ByteArray} {pc : Nat} {ls : Array Slot} {rest : List Value}
theorem nr_top {x y : Int32} (h : x = y) (k : W p l e R s m args below meth c H locs cells slots Q (F0 m pc ls (.int y :: rest))) : W p l e R s m args below meth c H locs cells slots Q (F0 m pc ls (.int x :: rest)) := by subst h; exact k
theorem nr_iadd (hx : p.tables.exec = Jvm.exec) (hb : c.code = cc) {a b : Nat} (hdg : decode cc pc = .ok (.iadd, 1)) (k : W p l e R s m args below meth c H locs cells slots Q (F0 m (pc + 1) ls (.int (nI (a + b)) :: rest))) : W p l e R s m args below meth c H locs cells slots Q (F0 m pc ls (.int (nI b) :: .int (nI a) :: rest)) := lv_iadd hx hb hdg (nr_top (nI_add a b) k)
theorem nr_imul (hx : p.tables.exec = Jvm.exec) (hb : c.code = cc) {a b : Nat} (hdg : decode cc pc = .ok (.imul, 1)) (k : W p l e R s m args below meth c H locs cells slots Q (F0 m (pc + 1) ls (.int (nI (a * b)) :: rest))) : W p l e R s m args below meth c H locs cells slots Q (F0 m pc ls (.int (nI b) :: .int (nI a) :: rest)) := lv_imul hx hb hdg (nr_top (pk_mul a b) k)
theorem nr_isub (hx : p.tables.exec = Jvm.exec) (hb : c.code = cc) {a b : Nat} (h : b ≤ a) (hdg : decode cc pc = .ok (.isub, 1)) (k : W p l e R s m args below meth c H locs cells slots Q (F0 m (pc + 1) ls (.int (nI (a - b)) :: rest))) : W p l e R s m args below meth c H locs cells slots Q (F0 m pc ls (.int (nI b) :: .int (nI a) :: rest)) := lv_isub hx hb hdg (nr_top (pk_sub h) k)
theorem nr_iand (hx : p.tables.exec = Jvm.exec) (hb : c.code = cc) {a b : Nat} (hdg : decode cc pc = .ok (.iand, 1)) (k : W p l e R s m args below meth c H locs cells slots Q (F0 m (pc + 1) ls (.int (nI (a &&& b)) :: rest))) : W p l e R s m args below meth c H locs cells slots Q (F0 m pc ls (.int (nI b) :: .int (nI a) :: rest)) := lv_iand hx hb hdg (nr_top (nI_and a b) k)
theorem nr_ior (hx : p.tables.exec = Jvm.exec) (hb : c.code = cc) {a b : Nat} (hdg : decode cc pc = .ok (.ior, 1)) (k : W p l e R s m args below meth c H locs cells slots Q (F0 m (pc + 1) ls (.int (nI (a ||| b)) :: rest))) : W p l e R s m args below meth c H locs cells slots Q (F0 m pc ls (.int (nI b) :: .int (nI a) :: rest)) := lv_ior hx hb hdg (nr_top (nI_or a b) k)
theorem nr_icmp_lt (hx : p.tables.exec = Jvm.exec) (hb : c.code = cc) {a b : Nat} {off : Int} {tgt : Nat} (ha : a < 2147483648) (hb2 : b < 2147483648) (hdg : decode cc pc = .ok (.if_icmp .lt off, 3)) (ht : (pc : Int) + off = (tgt : Int)) (kt : a < b → W p l e R s m args below meth c H locs cells slots Q (F0 m tgt ls rest)) (kf : b ≤ a → W p l e R s m args below meth c H locs cells slots Q (F0 m (pc + 3) ls rest)) : W p l e R s m args below meth c H locs cells slots Q (F0 m pc ls (.int (nI b) :: .int (nI a) :: rest)) := lv_icmp_lt hx hb hdg ht (fun h => kt ((nI_ltI ha hb2).mp h)) (fun h => kf (Nat.le_of_not_lt (fun q => h ((nI_ltI ha hb2).mpr q))))
theorem nr_icmp_ge (hx : p.tables.exec = Jvm.exec) (hb : c.code = cc) {a b : Nat} {off : Int} {tgt : Nat} (ha : a < 2147483648) (hb2 : b < 2147483648) (hdg : decode cc pc = .ok (.if_icmp .ge off, 3)) (ht : (pc : Int) + off = (tgt : Int)) (kt : b ≤ a → W p l e R s m args below meth c H locs cells slots Q (F0 m tgt ls rest)) (kf : a < b → W p l e R s m args below meth c H locs cells slots Q (F0 m (pc + 3) ls rest)) : W p l e R s m args below meth c H locs cells slots Q (F0 m pc ls (.int (nI b) :: .int (nI a) :: rest)) := lv_icmp_ge hx hb hdg ht (fun h => kt ((nI_leI hb2 ha).mp h)) (fun h => kf (Nat.lt_of_not_le (fun q => h ((nI_leI hb2 ha).mpr q))))
theorem nr_icmp_gt (hx : p.tables.exec = Jvm.exec) (hb : c.code = cc) {a b : Nat} {off : Int} {tgt : Nat} (ha : a < 2147483648) (hb2 : b < 2147483648) (hdg : decode cc pc = .ok (.if_icmp .gt off, 3)) (ht : (pc : Int) + off = (tgt : Int)) (kt : b < a → W p l e R s m args below meth c H locs cells slots Q (F0 m tgt ls rest)) (kf : a ≤ b → W p l e R s m args below meth c H locs cells slots Q (F0 m (pc + 3) ls rest)) : W p l e R s m args below meth c H locs cells slots Q (F0 m pc ls (.int (nI b) :: .int (nI a) :: rest)) := lv_icmp_gt hx hb hdg ht (fun h => kt ((nI_ltI hb2 ha).mp h)) (fun h => kf (Nat.le_of_not_lt (fun q => h ((nI_ltI hb2 ha).mpr q))))
theorem nr_icmp_le (hx : p.tables.exec = Jvm.exec) (hb : c.code = cc) {a b : Nat} {off : Int} {tgt : Nat} (ha : a < 2147483648) (hb2 : b < 2147483648) (hdg : decode cc pc = .ok (.if_icmp .le off, 3)) (ht : (pc : Int) + off = (tgt : Int)) (kt : a ≤ b → W p l e R s m args below meth c H locs cells slots Q (F0 m tgt ls rest)) (kf : b < a → W p l e R s m args below meth c H locs cells slots Q (F0 m (pc + 3) ls rest)) : W p l e R s m args below meth c H locs cells slots Q (F0 m pc ls (.int (nI b) :: .int (nI a) :: rest)) := lv_icmp_le hx hb hdg ht (fun h => kt ((nI_leI ha hb2).mp h)) (fun h => kf (Nat.lt_of_not_le (fun q => h ((nI_leI ha hb2).mpr q))))
theorem nr_icmp_eq (hx : p.tables.exec = Jvm.exec) (hb : c.code = cc) {a b : Nat} {off : Int} {tgt : Nat} (ha : a < 2147483648) (hb2 : b < 2147483648) (hdg : decode cc pc = .ok (.if_icmp .eq off, 3)) (ht : (pc : Int) + off = (tgt : Int)) (kt : a = b → W p l e R s m args below meth c H locs cells slots Q (F0 m tgt ls rest)) (kf : a ≠ b → W p l e R s m args below meth c H locs cells slots Q (F0 m (pc + 3) ls rest)) : W p l e R s m args below meth c H locs cells slots Q (F0 m pc ls (.int (nI b) :: .int (nI a) :: rest)) := lv_icmp_eq hx hb hdg ht (fun h => kt ((nI_eq ha hb2).mp h)) (fun h => kf (fun q => h ((nI_eq ha hb2).mpr q)))
theorem nr_icmp_ne (hx : p.tables.exec = Jvm.exec) (hb : c.code = cc) {a b : Nat} {off : Int} {tgt : Nat} (ha : a < 2147483648) (hb2 : b < 2147483648) (hdg : decode cc pc = .ok (.if_icmp .ne off, 3)) (ht : (pc : Int) + off = (tgt : Int)) (kt : a ≠ b → W p l e R s m args below meth c H locs cells slots Q (F0 m tgt ls rest)) (kf : a = b → W p l e R s m args below meth c H locs cells slots Q (F0 m (pc + 3) ls rest)) : W p l e R s m args below meth c H locs cells slots Q (F0 m pc ls (.int (nI b) :: .int (nI a) :: rest)) := lv_icmp_ne hx hb hdg ht (fun h => kt (fun q => h ((nI_eq ha hb2).mpr q))) (fun h => kf ((nI_eq ha hb2).mp h))
theorem nr_z {a : Nat} (ha : a < 2147483648) : nI a = 0 ↔ a = 0 := by rw [← nI_0]; exact nI_eq ha (by decide)
theorem nr_zle {a : Nat} (ha : a < 2147483648) : nI a ≤ 0 ↔ a = 0 := by rw [← nI_0]; exact (nI_leI ha (by decide)).trans (by omega)
theorem nr_if_eq (hx : p.tables.exec = Jvm.exec) (hb : c.code = cc) {a : Nat} {off : Int} {tgt : Nat} (ha : a < 2147483648) (hdg : decode cc pc = .ok (.ifCond .eq off, 3)) (ht : (pc : Int) + off = (tgt : Int)) (kt : a = 0 → W p l e R s m args below meth c H locs cells slots Q (F0 m tgt ls rest)) (kf : a ≠ 0 → W p l e R s m args below meth c H locs cells slots Q (F0 m (pc + 3) ls rest)) : W p l e R s m args below meth c H locs cells slots Q (F0 m pc ls (.int (nI a) :: rest)) := lv_if_eq hx hb hdg ht (fun h => kt ((nr_z ha).mp h)) (fun h => kf (fun q => h ((nr_z ha).mpr q)))
theorem nr_if_ne (hx : p.tables.exec = Jvm.exec) (hb : c.code = cc) {a : Nat} {off : Int} {tgt : Nat} (ha : a < 2147483648) (hdg : decode cc pc = .ok (.ifCond .ne off, 3)) (ht : (pc : Int) + off = (tgt : Int)) (kt : a ≠ 0 → W p l e R s m args below meth c H locs cells slots Q (F0 m tgt ls rest)) (kf : a = 0 → W p l e R s m args below meth c H locs cells slots Q (F0 m (pc + 3) ls rest)) : W p l e R s m args below meth c H locs cells slots Q (F0 m pc ls (.int (nI a) :: rest)) := lv_if_ne hx hb hdg ht (fun h => kt (fun q => h ((nr_z ha).mpr q))) (fun h => kf ((nr_z ha).mp h))
theorem nr_if_le (hx : p.tables.exec = Jvm.exec) (hb : c.code = cc) {a : Nat} {off : Int} {tgt : Nat} (ha : a < 2147483648) (hdg : decode cc pc = .ok (.ifCond .le off, 3)) (ht : (pc : Int) + off = (tgt : Int)) (kt : a = 0 → W p l e R s m args below meth c H locs cells slots Q (F0 m tgt ls rest)) (kf : 0 < a → W p l e R s m args below meth c H locs cells slots Q (F0 m (pc + 3) ls rest)) : W p l e R s m args below meth c H locs cells slots Q (F0 m pc ls (.int (nI a) :: rest)) := lv_if_le hx hb hdg ht (fun h => kt ((nr_zle ha).mp h)) (fun h => kf (Nat.pos_of_ne_zero (fun q => h ((nr_zle ha).mpr q))))
theorem nr_if_lt (hx : p.tables.exec = Jvm.exec) (hb : c.code = cc) {a : Nat} {off : Int} {tgt : Nat} (ha : a < 2147483648) (hdg : decode cc pc = .ok (.ifCond .lt off, 3)) (ht : (pc : Int) + off = (tgt : Int)) (kt : False → W p l e R s m args below meth c H locs cells slots Q (F0 m tgt ls rest)) (kf : True → W p l e R s m args below meth c H locs cells slots Q (F0 m (pc + 3) ls rest)) : W p l e R s m args below meth c H locs cells slots Q (F0 m pc ls (.int (nI a) :: rest)) := lv_if_lt hx hb hdg ht (fun h => kt (nI_pos ha h)) (fun h => kf (trivial))
theorem nr_if_ge (hx : p.tables.exec = Jvm.exec) (hb : c.code = cc) {a : Nat} {off : Int} {tgt : Nat} (ha : a < 2147483648) (hdg : decode cc pc = .ok (.ifCond .ge off, 3)) (ht : (pc : Int) + off = (tgt : Int)) (kt : True → W p l e R s m args below meth c H locs cells slots Q (F0 m tgt ls rest)) (kf : False → W p l e R s m args below meth c H locs cells slots Q (F0 m (pc + 3) ls rest)) : W p l e R s m args below meth c H locs cells slots Q (F0 m pc ls (.int (nI a) :: rest)) := lv_if_ge hx hb hdg ht (fun h => kt (trivial)) (fun h => kf (h (nI_pos' ha)))
theorem nr_iconst (hx : p.tables.exec = Jvm.exec) (hb : c.code = cc) (a : Nat) {n : Int} (hdg : decode cc pc = .ok (.iconst n, 1)) (hv : Int32.ofInt n = nI a) (k : W p l e R s m args below meth c H locs cells slots Q (F0 m (pc + 1) ls (.int (nI a) :: rest))) : W p l e R s m args below meth c H locs cells slots Q (F0 m pc ls rest) := lv_iconst hx hb hdg hv k
theorem nr_bipush (hx : p.tables.exec = Jvm.exec) (hb : c.code = cc) (a : Nat) {n : Int} (hdg : decode cc pc = .ok (.bipush n, 2)) (hv : (Int8.ofInt n).toInt32 = nI a) (k : W p l e R s m args below meth c H locs cells slots Q (F0 m (pc + 2) ls (.int (nI a) :: rest))) : W p l e R s m args below meth c H locs cells slots Q (F0 m pc ls rest) := lv_bipush hx hb hdg hv k
theorem nr_sipush (hx : p.tables.exec = Jvm.exec) (hb : c.code = cc) (a : Nat) {n : Int} (hdg : decode cc pc = .ok (.sipush n, 3)) (hv : (Int16.ofInt n).toInt32 = nI a) (k : W p l e R s m args below meth c H locs cells slots Q (F0 m (pc + 3) ls (.int (nI a) :: rest))) : W p l e R s m args below meth c H locs cells slots Q (F0 m pc ls rest) := lv_sipush hx hb hdg hv k
theorem nr_iinc (hx : p.tables.exec = Jvm.exec) (hb : c.code = cc) {i nL k a : Nat} {lv lv' : List (Nat × Value)} (hdg : decode cc pc = .ok (.iinc i 1, 3)) (h : lv_has ls nL lv) (hk : lv[k]? = some (i, .int (nI a))) (hn : i < nL) (hl : (i, Value.int (nI (a + 1))) :: lv.filter (fun q => !(q.1 == i) && !(q.1 + 1 == i && q.2.category == 2)) = lv') (kk : ∀ ls' : Array Slot, lv_has ls' nL lv' → W p l e R s m args below meth c H locs cells slots Q (F0 m (pc + 3) ls' rest)) : W p l e R s m args below meth c H locs cells slots Q (F0 m pc ls rest) := lv_iinc (k := k) (v := nI (a + 1)) hx hb hdg h hk (by rw [← nI_1]; rfl) hn hl kk
variable {D : va_G} {cl : List vw_C} {A : Nat → Prop} {a : Nat} {tys : List (ClassId × FieldType)} {ws : va_W} {H0 : Heap}
theorem nr_iald (hx : p.tables.exec = Jvm.exec) (hb : c.code = cc) (hK : va_K D cl tys s) (hP : va_P D cl ws H) (q0 t0 : Nat) {cA : ClassId} {n : Nat} {f : Nat → Nat} (ha : ws[q0]? = some (a, .inl (cA, n, .inl (fun k => nI (f k))))) (ht : tys[t0]? = some (cA, .int)) {i : Nat} (hin : i < n) (hn : n < 2147483648) (hdg : decode cc pc = .ok (.iaload, 1)) (kk : W p l e R s m args below meth c H locs cells slots Q (F0 m (pc + 1) ls (.int (nI (f i)) :: rest))) : W p l e R s m args below meth c H locs cells slots Q (F0 m pc ls (.int (nI i) :: .ref a :: rest)) := va_iald hx hb hK hP q0 t0 ha ht (vp_in_nI hin hn) hdg (nr_top (by rw [nI_clamp (Nat.lt_trans hin hn)]) kk)
theorem nr_zald (hx : p.tables.exec = Jvm.exec) (hb : c.code = cc) (hK : va_K D cl tys s) (hP : va_P D cl ws H) (q0 t0 : Nat) {cA : ClassId} {n : Nat} {f : Nat → Nat} (ha : ws[q0]? = some (a, .inl (cA, n, .inl (fun k => nI (f k))))) (ht : tys[t0]? = some (cA, .boolean)) {i : Nat} (hin : i < n) (hn : n < 2147483648) (hdg : decode cc pc = .ok (.baload, 1)) (kk : W p l e R s m args below meth c H locs cells slots Q (F0 m (pc + 1) ls (.int (nI (f i)) :: rest))) : W p l e R s m args below meth c H locs cells slots Q (F0 m pc ls (.int (nI i) :: .ref a :: rest)) := va_zald hx hb hK hP q0 t0 ha ht (vp_in_nI hin hn) hdg (nr_top (by rw [nI_clamp (Nat.lt_trans hin hn)]) kk)
theorem nr_upd (f : Nat → Nat) {i x : Nat} (hi : i < 2147483648) : upd (fun k => nI (f k)) (nI i).toNatClampNeg (nI x) = fun k => nI (if k = i then x else f k) := by rw [nI_clamp hi]; funext k; simp only [upd]; split <;> rfl
theorem nr_iast (hx : p.tables.exec = Jvm.exec) (hb : c.code = cc) (hK : va_K D cl tys s) (hP : va_P D cl ws H) (hD : va_D A ws) (hS : va_S A H0 H locs) (q0 t0 : Nat) {cA : ClassId} {n : Nat} {f : Nat → Nat} (ha : ws[q0]? = some (a, .inl (cA, n, .inl (fun k => nI (f k))))) (ht : tys[t0]? = some (cA, .int)) {i x : Nat} (hin : i < n) (hn : n < 2147483648) (hdg : decode cc pc = .ok (.iastore, 1)) (kk : ∀ (H1 : Heap) (locs1 : List Loc), va_P D cl (ws.set q0 (a, .inl (cA, n, .inl (fun k => nI (if k = i then x else f k))))) H1 → va_D A (ws.set q0 (a, .inl (cA, n, .inl (fun k => nI (if k = i then x else f k))))) → va_S A H0 H1 locs1 → W p l e R s m args below meth c H1 locs1 cells slots Q (F0 m (pc + 1) ls rest)) : W p l e R s m args below meth c H locs cells slots Q (F0 m pc ls (.int (nI x) :: .int (nI i) :: .ref a :: rest)) := va_iast hx hb hK hP hD hS q0 t0 ha ht (vp_in_nI hin hn) hdg (by rw [nr_upd f (Nat.lt_trans hin hn)]; exact kk)
theorem nr_zast (hx : p.tables.exec = Jvm.exec) (hb : c.code = cc) (hK : va_K D cl tys s) (hP : va_P D cl ws H) (hD : va_D A ws) (hS : va_S A H0 H locs) (q0 t0 : Nat) {cA : ClassId} {n : Nat} {f : Nat → Nat} (ha : ws[q0]? = some (a, .inl (cA, n, .inl (fun k => nI (f k))))) (ht : tys[t0]? = some (cA, .boolean)) {i x : Nat} (hin : i < n) (hn : n < 2147483648) (hx1 : x < 2) (hdg : decode cc pc = .ok (.bastore, 1)) (kk : ∀ (H1 : Heap) (locs1 : List Loc), va_P D cl (ws.set q0 (a, .inl (cA, n, .inl (fun k => nI (if k = i then x else f k))))) H1 → va_D A (ws.set q0 (a, .inl (cA, n, .inl (fun k => nI (if k = i then x else f k))))) → va_S A H0 H1 locs1 → W p l e R s m args below meth c H1 locs1 cells slots Q (F0 m (pc + 1) ls rest)) : W p l e R s m args below meth c H locs cells slots Q (F0 m pc ls (.int (nI x) :: .int (nI i) :: .ref a :: rest)) := va_zast hx hb hK hP hD hS q0 t0 ha ht (vp_in_nI hin hn) hdg (by rw [show vp_nar .boolean (nI x) = nI x by rcases (show x = 0 ∨ x = 1 by omega) with rfl | rfl <;> rfl, nr_upd f (Nat.lt_trans hin hn)]; exact kk)
theorem nr_idiv (hx : p.tables.exec = Jvm.exec) (hb : c.code = cc) {a b : Nat} (ha : a < 2147483648) (h0 : 0 < b) (hb2 : b < 2147483648) (hdg : decode cc pc = .ok (.idiv, 1)) (k : W p l e R s m args below meth c H locs cells slots Q (F0 m (pc + 1) ls (.int (nI (a / b)) :: rest))) : W p l e R s m args below meth c H locs cells slots Q (F0 m pc ls (.int (nI b) :: .int (nI a) :: rest)) := lv_idiv hx hb hdg (fun q => absurd ((nr_z hb2).mp q) (by omega)) (nr_top (pk_div ha h0 hb2) k)
theorem nr_irem (hx : p.tables.exec = Jvm.exec) (hb : c.code = cc) {a b : Nat} (ha : a < 2147483648) (h0 : 0 < b) (hb2 : b < 2147483648) (hdg : decode cc pc = .ok (.irem, 1)) (k : W p l e R s m args below meth c H locs cells slots Q (F0 m (pc + 1) ls (.int (nI (a % b)) :: rest))) : W p l e R s m args below meth c H locs cells slots Q (F0 m pc ls (.int (nI b) :: .int (nI a) :: rest)) := lv_irem hx hb hdg (fun q => absurd ((nr_z hb2).mp q) (by omega)) (nr_top (pk_rem ha h0 hb2) k)
end NR
section NC
variable {p : Program} {l : Launch} {e : Env} {R : Room} {s : State} {m : MethodId} {args : Array Value} {below : List Frame} {meth : Method} {c : Code} {H : Heap} {locs : List Loc} {cells slots : Nat} {Q : State → Prop} {pc : Nat} {ls : Array Slot} {rest st0 : List Value}
theorem nr_calli {post : Int32 → Prop} {a : Array Value} (hr : va_Run p l e R s m args below meth c H locs cells slots 0 0 (F0 m pc ls st0) rest (vp_Si post a) (fun _ => False)) (kk : ∀ r : Int32, post r → W p l e R s m args below meth c H locs cells slots Q (F0 m (pc + 3) ls (.int r :: rest))) : W p l e R s m args below meth c H locs cells slots Q (F0 m pc ls st0) := by
  intro T hT X
  obtain ⟨v, st₀, t, T', L, h0, X', hL, e1, e2, ⟨r, hv, hp, hh⟩, st⟩ := hr T hT X
  have hLn : L = [] := by
    cases L with
    | nil => rfl
    | cons q L => exact absurd (hL q List.mem_cons_self) id
  subst hLn
  cases hv
  rw [List.append_nil] at X'
  obtain ⟨t2, a1, b1⟩ := kk r hp T' (by rw [e1, hh, h0]) X'
  exact ⟨t2, st t2 a1, b1⟩
end NC
/-- the nest mates' links, the texts: words that a call carries as they are -/
def xw : List Cond := tables_1.filter isNest
def NX (U : State) : Prop := ∀ w ∈ xw, va_Nw w U
theorem NX.warm {s U : State} (hW : s.WarmedH U.vm) (h : NX s) : NX U := by
  intro w hw
  have h1 := h w hw
  have h2 : isNest w = true := (List.mem_filter.mp hw).2
  cases w <;> first | exact va_Nw.warmF hW h1 | exact va_Nw.warmM hW h1 | (simp [isNest] at h2)
theorem NX.calling {U : State} {g : JFrame} {mk : MethodId} {a : Array Value} (h : NX U) : NX (U.calling g mk a) := by
  intro w hw
  have h2 : isNest w = true := (List.mem_filter.mp hw).2
  have ho : w.onTables = true := by cases w <;> first | rfl | (simp [isNest] at h2)
  exact va_Nw.same ho (show U.vm = (U.calling g mk a).vm from rfl) (h w hw)
theorem NX.at {s : State} {w : Cond} {args : Array Value} (h : NX s) (hw : w ∈ tables_1) (hn : isNest w = true) (ho : w.onTables = true) : w.before args s = true := va_Nw.use ho (h w (List.mem_filter.mpr ⟨hw, hn⟩))
/-- the start of a contract that only reads -/
def ro_P (av : List Value) (D : va_G) (ws : va_W) (tys : List (ClassId × FieldType)) : Array Value → State → Prop := va_Pc av (fun U => NX U ∧ va_P D cls ws U.heap ∧ va_K D cls tys U)
theorem ro_blind {av : List Value} {D : va_G} {ws : va_W} {tys : List (ClassId × FieldType)} : FrameBlind (ro_P av D ws tys) := fun a U g mk q => ⟨q.1, q.2.1.calling, q.2.2.1, va_K.moved (u := U) (U := U.calling g mk a) (Vm.Alike.refl U.vm) q.2.2.2⟩
theorem ro_pre {s : State} {H : Heap} {av : List Value} {D : va_G} {ws : va_W} {tys : List (ClassId × FieldType)} (hN : NX s) (hP : va_P D cls ws H) (hK : va_K D cls tys s) : ∀ U : State, U.heap = H → s.WarmedH U.vm → ro_P av D ws tys av.toArray U := fun U hU hW => ⟨rfl, hN.warm hW, by rw [hU]; exact hP, va_K.moved hW.alike hK⟩
/-- one place of a table of naturals is put -/
def up2 (S : Nat → Nat → Nat) (a i x : Nat) : Nat → Nat → Nat := fun r k => if r = a then (if k = i then x else S r k) else S r k
/-- a row of a table is put -/
def upr (S : Nat → Nat → Nat) (a : Nat) (f : Nat → Nat) : Nat → Nat → Nat := fun r k => if r = a then f k else S r k
end
section
/-! What the plan's reading methods answer, over naturals. P: row 0 persons, days, rest, most, nights, wishes; rows 1 skills, 2 rates, 3 needed persons, 4 needed skills, 5 bars, 6 what a choice leaves unmet. sh: the shifts, by day * 6 + person. -/
def okP (P : Nat → Nat → Nat) : Prop := P 0 0 ≤ 6 ∧ P 0 1 ≤ 7 ∧ P 0 2 ≤ 24 ∧ P 0 3 ≤ 7 ∧ P 0 4 ≤ 7 ∧ P 0 5 ≤ 20 ∧ (∀ k, P 1 k < 16) ∧ (∀ k, P 2 k ≤ 10000) ∧ (∀ k, P 3 k ≤ 6) ∧ (∀ k, P 4 k < 16) ∧ (∀ k, P 5 k ≤ 1) ∧ (∀ k, P 6 k ≤ 2000)
def mt (P : Nat → Nat → Nat) (sh : Nat → Nat) (d s : Nat) : Nat → Nat → Nat → Nat → Nat × Nat
  | 0, _, th, sk => (th, sk)
  | k + 1, i, th, sk => if sh (d * 6 + i) = s then mt P sh d s k (i + 1) (th + 1) (sk ||| P 1 i) else mt P sh d s k (i + 1) th sk
def meets (P : Nat → Nat → Nat) (sh : Nat → Nat) (d s : Nat) : Bool := decide (P 3 (d * 4 + s) ≤ (mt P sh d s (P 0 0) 0 0 0).1) && decide ((mt P sh d s (P 0 0) 0 0 0).2 &&& P 4 (d * 4 + s) = P 4 (d * 4 + s))
/-- the first shift from s on, k of them, whose need isn't met; 0: none -/
def nu (P : Nat → Nat → Nat) (sh : Nat → Nat) (d : Nat) : Nat → Nat → Nat
  | 0, _ => 0
  | k + 1, s => if meets P sh d s = true then nu P sh d k (s + 1) else s
def needUnmet (P : Nat → Nat → Nat) (sh : Nat → Nat) (d : Nat) : Nat := nu P sh d 3 1
def nf (P : Nat → Nat → Nat) (sh : Nat → Nat) : Nat → Nat → Nat
  | 0, _ => 0
  | k + 1, d => if needUnmet P sh d = 0 then nf P sh k (d + 1) else 100 * 1 + 10 * needUnmet P sh d + d
def needFault (P : Nat → Nat → Nat) (sh : Nat → Nat) : Nat := nf P sh (P 0 1) 0
def breaks (P : Nat → Nat → Nat) (b s : Nat) : Bool := decide (b ≠ 0) && (decide (s ≠ 0) && decide (16 + 8 * s - 8 * b < P 0 2))
def rf1 (P : Nat → Nat → Nat) (sh : Nat → Nat) (p : Nat) : Nat → Nat → Nat
  | 0, _ => 0
  | k + 1, d => if breaks P (sh ((d - 1) * 6 + p)) (sh (d * 6 + p)) = true then 100 * 2 + 10 * p + d else rf1 P sh p k (d + 1)
def rf (P : Nat → Nat → Nat) (sh : Nat → Nat) : Nat → Nat → Nat
  | 0, _ => 0
  | k + 1, p => if rf1 P sh p (P 0 1 - 1) 1 = 0 then rf P sh k (p + 1) else rf1 P sh p (P 0 1 - 1) 1
def restFault (P : Nat → Nat → Nat) (sh : Nat → Nat) : Nat := rf P sh (P 0 0) 0
def mh (sh : Nat → Nat) (p : Nat) : Nat → Nat → Nat → Nat → Nat × Nat
  | 0, _, had, last => (had, last)
  | k + 1, d, had, last => if sh (d * 6 + p) = 0 then mh sh p k (d + 1) had last else mh sh p k (d + 1) (had + 1) d
def mf (P : Nat → Nat → Nat) (sh : Nat → Nat) : Nat → Nat → Nat
  | 0, _ => 0
  | k + 1, p => if (mh sh p (P 0 1) 0 0 0).1 ≤ P 0 3 then mf P sh k (p + 1) else 100 * 3 + 10 * p + (mh sh p (P 0 1) 0 0 0).2
def mostFault (P : Nat → Nat → Nat) (sh : Nat → Nat) : Nat := mf P sh (P 0 0) 0
def gf1 (P : Nat → Nat → Nat) (sh : Nat → Nat) (p : Nat) : Nat → Nat → Nat → Nat
  | 0, _, _ => 0
  | k + 1, d, row => if (if sh (d * 6 + p) = 3 then row + 1 else 0) ≤ P 0 4 then gf1 P sh p k (d + 1) (if sh (d * 6 + p) = 3 then row + 1 else 0) else 100 * 4 + 10 * p + d
def gf (P : Nat → Nat → Nat) (sh : Nat → Nat) : Nat → Nat → Nat
  | 0, _ => 0
  | k + 1, p => if gf1 P sh p (P 0 1) 0 0 = 0 then gf P sh k (p + 1) else gf1 P sh p (P 0 1) 0 0
def nightsFault (P : Nat → Nat → Nat) (sh : Nat → Nat) : Nat := gf P sh (P 0 0) 0
def bf1 (P : Nat → Nat → Nat) (sh : Nat → Nat) (p : Nat) : Nat → Nat → Nat
  | 0, _ => 0
  | k + 1, d => if P 5 ((d * 6 + p) * 4 + sh (d * 6 + p)) = 0 then bf1 P sh p k (d + 1) else 100 * 5 + 10 * p + d
def bf (P : Nat → Nat → Nat) (sh : Nat → Nat) : Nat → Nat → Nat
  | 0, _ => 0
  | k + 1, p => if bf1 P sh p (P 0 1) 0 = 0 then bf P sh k (p + 1) else bf1 P sh p (P 0 1) 0
def barFault (P : Nat → Nat → Nat) (sh : Nat → Nat) : Nat := bf P sh (P 0 0) 0
def firstFault (P : Nat → Nat → Nat) (sh : Nat → Nat) : Nat :=
  if needFault P sh ≠ 0 then needFault P sh else if restFault P sh ≠ 0 then restFault P sh else if mostFault P sh ≠ 0 then mostFault P sh else if nightsFault P sh ≠ 0 then nightsFault P sh else barFault P sh
def us1 (P : Nat → Nat → Nat) (sh : Nat → Nat) (d : Nat) : Nat → Nat → Nat → Nat
  | 0, _, acc => acc
  | k + 1, p, acc => us1 P sh d k (p + 1) (acc + P 6 ((d * 6 + p) * 4 + sh (d * 6 + p)))
def us (P : Nat → Nat → Nat) (sh : Nat → Nat) : Nat → Nat → Nat → Nat
  | 0, _, acc => acc
  | k + 1, d, acc => us P sh k (d + 1) (us1 P sh d (P 0 0) 0 acc)
def unmetSum (P : Nat → Nat → Nat) (sh : Nat → Nat) : Nat := us P sh (P 0 1) 0 0
def co (sh : Nat → Nat) (p : Nat) : Nat → Nat → Nat → Nat
  | 0, _, had => had
  | k + 1, d, had => if sh (d * 6 + p) = 0 then co sh p k (d + 1) had else co sh p k (d + 1) (had + 1)
def costOne (P : Nat → Nat → Nat) (sh : Nat → Nat) (p : Nat) : Nat := co sh p (P 0 1) 0 0 * 8 * P 2 p
def ca1 (P : Nat → Nat → Nat) (sh : Nat → Nat) : Nat → Nat → Nat → Nat
  | 0, _, acc => acc
  | k + 1, p, acc => ca1 P sh k (p + 1) (acc + costOne P sh p)
def costAll (P : Nat → Nat → Nat) (sh : Nat → Nat) : Nat := ca1 P sh (P 0 0) 0 0
theorem mt_lt {x y : Nat} (hx : x < 16) (hy : y < 16) : x ||| y < 16 := Nat.or_lt_two_pow (n := 4) hx hy
theorem b01_z {b : Bool} (h : (if b = true then 1 else 0 : Nat) = 0) : ¬ b = true := by cases b <;> simp_all
theorem b01_nz {b : Bool} (h : (if b = true then 1 else 0 : Nat) ≠ 0) : b = true := by cases b <;> simp_all
theorem b01_lt {b : Bool} : (if b = true then 1 else 0 : Nat) < 2147483648 := by cases b <;> decide
theorem nu_le {P : Nat → Nat → Nat} {sh : Nat → Nat} {d : Nat} : ∀ k s, s + k ≤ 4 → nu P sh d k s ≤ 3 := by
  intro k
  induction k with
  | zero => intro s h; simp [nu]
  | succ k ih =>
    intro s h
    rw [nu]
    split
    · exact ih _ (by omega)
    · omega
theorem needUnmet_le (P : Nat → Nat → Nat) (sh : Nat → Nat) (d : Nat) : needUnmet P sh d ≤ 3 := nu_le 3 1 (by omega)
theorem nf_le {P : Nat → Nat → Nat} {sh : Nat → Nat} : ∀ k d, d + k ≤ 7 → nf P sh k d ≤ 1000 := by
  intro k
  induction k with
  | zero => intro s h; simp [nf]
  | succ k ih =>
    intro d h
    rw [nf]
    split
    · exact ih _ (by omega)
    · have := needUnmet_le P sh d
      omega
theorem needFault_le {P : Nat → Nat → Nat} (sh : Nat → Nat) (h : P 0 1 ≤ 7) : needFault P sh ≤ 1000 := nf_le _ 0 (by omega)
theorem rf1_le {P : Nat → Nat → Nat} {sh : Nat → Nat} {p : Nat} (hp : p ≤ 6) : ∀ k d, d + k ≤ 8 → rf1 P sh p k d ≤ 1000 := by
  intro k
  induction k with
  | zero => intro s h; simp [rf1]
  | succ k ih =>
    intro d h
    rw [rf1]
    split
    · omega
    · exact ih _ (by omega)
theorem rf_le {P : Nat → Nat → Nat} {sh : Nat → Nat} (hd : P 0 1 ≤ 7) : ∀ k p, p + k ≤ 6 → rf P sh k p ≤ 1000 := by
  intro k
  induction k with
  | zero => intro s h; simp [rf]
  | succ k ih =>
    intro p h
    rw [rf]
    split
    · exact ih _ (by omega)
    · exact rf1_le (by omega) _ _ (by omega)
theorem restFault_le {P : Nat → Nat → Nat} (sh : Nat → Nat) (h0 : P 0 0 ≤ 6) (h : P 0 1 ≤ 7) : restFault P sh ≤ 1000 := rf_le h _ 0 (by omega)
theorem mh_le {sh : Nat → Nat} {p : Nat} : ∀ k d had last, d + k ≤ 7 → last ≤ 7 → (mh sh p k d had last).2 ≤ 7 := by
  intro k
  induction k with
  | zero => intro d had last h h2; simpa [mh] using h2
  | succ k ih =>
    intro d had last h h2
    rw [mh]
    split
    · exact ih _ _ _ (by omega) h2
    · exact ih _ _ _ (by omega) (by omega)
theorem mf_le {P : Nat → Nat → Nat} {sh : Nat → Nat} (hd : P 0 1 ≤ 7) : ∀ k p, p + k ≤ 6 → mf P sh k p ≤ 1000 := by
  intro k
  induction k with
  | zero => intro s h; simp [mf]
  | succ k ih =>
    intro p h
    rw [mf]
    split
    · exact ih _ (by omega)
    · have := mh_le (sh := sh) (p := p) (P 0 1) 0 0 0 (by omega) (by omega)
      omega
theorem mostFault_le {P : Nat → Nat → Nat} (sh : Nat → Nat) (h0 : P 0 0 ≤ 6) (h : P 0 1 ≤ 7) : mostFault P sh ≤ 1000 := mf_le h _ 0 (by omega)
theorem gf1_le {P : Nat → Nat → Nat} {sh : Nat → Nat} {p : Nat} (hp : p ≤ 6) : ∀ k d row, d + k ≤ 8 → gf1 P sh p k d row ≤ 1000 := by
  intro k
  induction k with
  | zero => intro s row h; simp [gf1]
  | succ k ih =>
    intro d row h
    rw [gf1]
    by_cases h3 : (if sh (d * 6 + p) = 3 then row + 1 else 0) ≤ P 0 4
    · rw [if_pos h3]; exact ih _ _ (by omega)
    · rw [if_neg h3]; omega
theorem gf_le {P : Nat → Nat → Nat} {sh : Nat → Nat} (hd : P 0 1 ≤ 7) : ∀ k p, p + k ≤ 6 → gf P sh k p ≤ 1000 := by
  intro k
  induction k with
  | zero => intro s h; simp [gf]
  | succ k ih =>
    intro p h
    rw [gf]
    split
    · exact ih _ (by omega)
    · exact gf1_le (by omega) _ _ _ (by omega)
theorem nightsFault_le {P : Nat → Nat → Nat} (sh : Nat → Nat) (h0 : P 0 0 ≤ 6) (h : P 0 1 ≤ 7) : nightsFault P sh ≤ 1000 := gf_le h _ 0 (by omega)
end
section
abbrev wP (ad : Nat → Nat) (ca : Nat → ClassId) (P : Nat → Nat → Nat) : va_W := [(ad 1, .inr (0, [.int (nI (P 0 0)), .int (nI (P 0 1)), .int (nI (P 0 2)), .int (nI (P 0 3)), .int (nI (P 0 4)), .int (nI (P 0 5)), .ref (ad 3), .ref (ad 4), .ref (ad 5), .ref (ad 6), .ref (ad 7), .ref (ad 8)])), (ad 3, .inl (ca 0, 6, .inl (fun k => nI (P 1 k)))), (ad 4, .inl (ca 1, 6, .inl (fun k => nI (P 2 k)))), (ad 5, .inl (ca 2, 28, .inl (fun k => nI (P 3 k)))), (ad 6, .inl (ca 3, 28, .inl (fun k => nI (P 4 k)))), (ad 7, .inl (ca 4, 168, .inl (fun k => nI (P 5 k)))), (ad 8, .inl (ca 5, 168, .inl (fun k => nI (P 6 k))))]
abbrev wPS (ad : Nat → Nat) (ca : Nat → ClassId) (P : Nat → Nat → Nat) (a : Nat) (cS : ClassId) (sh : Nat → Nat) : va_W := wP ad ca P ++ [(a, .inl (cS, 42, .inl (fun k => nI (sh k))))]
abbrev tP (ca : Nat → ClassId) : List (ClassId × FieldType) := [(ca 0, .int), (ca 1, .int), (ca 2, .int), (ca 3, .int), (ca 4, .boolean), (ca 5, .int)]
abbrev tPS (ca : Nat → ClassId) (cS : ClassId) : List (ClassId × FieldType) := tP ca ++ [(cS, .int)]
theorem NX.nw {s : State} {w : Cond} (h : NX s) (hw : w ∈ tables_1) (hn : isNest w = true) : va_Nw w s := h w (List.mem_filter.mpr ⟨hw, hn⟩)
theorem nr_bool {x : Nat} (h : x < 2) : narrow .boolean (.int (nI x)) = .int (nI x) := by rcases (show x = 0 ∨ x = 1 by omega) with rfl | rfl <;> rfl
theorem nr_boolF {x : Nat} (h : x < 2) : fits .boolean (.int (nI x)) = true := by rcases (show x = 0 ∨ x = 1 by omega) with rfl | rfl <;> rfl
theorem hours_eq {a b : Nat} (ha : a ≤ 3) (hb1 : 1 ≤ b) (hb3 : b ≤ 3) : nI 16 + nI 8 * (nI b - nI a) = nI (16 + 8 * b - 8 * a) := by rcases (show a = 0 ∨ a = 1 ∨ a = 2 ∨ a = 3 by omega) with rfl | rfl | rfl | rfl <;> rcases (show b = 1 ∨ b = 2 ∨ b = 3 by omega) with rfl | rfl | rfl <;> decide
theorem hd_R_init : y_R_init.cls ≠ "java/lang/invoke/MethodHandle" ∧ y_R_init.cls ≠ "java/lang/invoke/VarHandle" ∧ (parseMethodDescriptor y_R_init.desc).map (fun d => d.parameters.length) = some 0 := by decide +kernel
theorem hd_P_init : y_P_init.cls ≠ "java/lang/invoke/MethodHandle" ∧ y_P_init.cls ≠ "java/lang/invoke/VarHandle" ∧ (parseMethodDescriptor y_P_init.desc).map (fun d => d.parameters.length) = some 0 := by decide +kernel
theorem hd_S_init : y_S_init.cls ≠ "java/lang/invoke/MethodHandle" ∧ y_S_init.cls ≠ "java/lang/invoke/VarHandle" ∧ (parseMethodDescriptor y_S_init.desc).map (fun d => d.parameters.length) = some 1 := by decide +kernel
theorem hd_R_wrong : y_R_wrong.cls ≠ "java/lang/invoke/MethodHandle" ∧ y_R_wrong.cls ≠ "java/lang/invoke/VarHandle" ∧ (parseMethodDescriptor y_R_wrong.desc).map (fun d => d.parameters.length) = some 0 := by decide +kernel
theorem hd_P_firstFault : y_P_firstFault.cls ≠ "java/lang/invoke/MethodHandle" ∧ y_P_firstFault.cls ≠ "java/lang/invoke/VarHandle" ∧ (parseMethodDescriptor y_P_firstFault.desc).map (fun d => d.parameters.length) = some 1 := by decide +kernel
theorem hd_P_firstNeedFault : y_P_firstNeedFault.cls ≠ "java/lang/invoke/MethodHandle" ∧ y_P_firstNeedFault.cls ≠ "java/lang/invoke/VarHandle" ∧ (parseMethodDescriptor y_P_firstNeedFault.desc).map (fun d => d.parameters.length) = some 1 := by decide +kernel
theorem hd_P_firstNeedUnmet : y_P_firstNeedUnmet.cls ≠ "java/lang/invoke/MethodHandle" ∧ y_P_firstNeedUnmet.cls ≠ "java/lang/invoke/VarHandle" ∧ (parseMethodDescriptor y_P_firstNeedUnmet.desc).map (fun d => d.parameters.length) = some 2 := by decide +kernel
theorem hd_P_meetsNeed : y_P_meetsNeed.cls ≠ "java/lang/invoke/MethodHandle" ∧ y_P_meetsNeed.cls ≠ "java/lang/invoke/VarHandle" ∧ (parseMethodDescriptor y_P_meetsNeed.desc).map (fun d => d.parameters.length) = some 3 := by decide +kernel
theorem hd_R_cell : y_R_cell.cls ≠ "java/lang/invoke/MethodHandle" ∧ y_R_cell.cls ≠ "java/lang/invoke/VarHandle" ∧ (parseMethodDescriptor y_R_cell.desc).map (fun d => d.parameters.length) = some 2 := by decide +kernel
theorem hd_R_slot : y_R_slot.cls ≠ "java/lang/invoke/MethodHandle" ∧ y_R_slot.cls ≠ "java/lang/invoke/VarHandle" ∧ (parseMethodDescriptor y_R_slot.desc).map (fun d => d.parameters.length) = some 2 := by decide +kernel
theorem hd_P_faultNumber : y_P_faultNumber.cls ≠ "java/lang/invoke/MethodHandle" ∧ y_P_faultNumber.cls ≠ "java/lang/invoke/VarHandle" ∧ (parseMethodDescriptor y_P_faultNumber.desc).map (fun d => d.parameters.length) = some 3 := by decide +kernel
theorem hd_P_firstRestFault : y_P_firstRestFault.cls ≠ "java/lang/invoke/MethodHandle" ∧ y_P_firstRestFault.cls ≠ "java/lang/invoke/VarHandle" ∧ (parseMethodDescriptor y_P_firstRestFault.desc).map (fun d => d.parameters.length) = some 1 := by decide +kernel
theorem hd_P_breaksRest : y_P_breaksRest.cls ≠ "java/lang/invoke/MethodHandle" ∧ y_P_breaksRest.cls ≠ "java/lang/invoke/VarHandle" ∧ (parseMethodDescriptor y_P_breaksRest.desc).map (fun d => d.parameters.length) = some 2 := by decide +kernel
theorem hd_P_hoursBetween : y_P_hoursBetween.cls ≠ "java/lang/invoke/MethodHandle" ∧ y_P_hoursBetween.cls ≠ "java/lang/invoke/VarHandle" ∧ (parseMethodDescriptor y_P_hoursBetween.desc).map (fun d => d.parameters.length) = some 2 := by decide +kernel
theorem hd_P_firstMostFault : y_P_firstMostFault.cls ≠ "java/lang/invoke/MethodHandle" ∧ y_P_firstMostFault.cls ≠ "java/lang/invoke/VarHandle" ∧ (parseMethodDescriptor y_P_firstMostFault.desc).map (fun d => d.parameters.length) = some 1 := by decide +kernel
theorem hd_P_firstNightsFault : y_P_firstNightsFault.cls ≠ "java/lang/invoke/MethodHandle" ∧ y_P_firstNightsFault.cls ≠ "java/lang/invoke/VarHandle" ∧ (parseMethodDescriptor y_P_firstNightsFault.desc).map (fun d => d.parameters.length) = some 1 := by decide +kernel
theorem hd_P_firstBarFault : y_P_firstBarFault.cls ≠ "java/lang/invoke/MethodHandle" ∧ y_P_firstBarFault.cls ≠ "java/lang/invoke/VarHandle" ∧ (parseMethodDescriptor y_P_firstBarFault.desc).map (fun d => d.parameters.length) = some 1 := by decide +kernel
theorem hd_R_choice : y_R_choice.cls ≠ "java/lang/invoke/MethodHandle" ∧ y_R_choice.cls ≠ "java/lang/invoke/VarHandle" ∧ (parseMethodDescriptor y_R_choice.desc).map (fun d => d.parameters.length) = some 3 := by decide +kernel
theorem hd_R_unmet : y_R_unmet.cls ≠ "java/lang/invoke/MethodHandle" ∧ y_R_unmet.cls ≠ "java/lang/invoke/VarHandle" ∧ (parseMethodDescriptor y_R_unmet.desc).map (fun d => d.parameters.length) = some 0 := by decide +kernel
theorem hd_P_unmetSum : y_P_unmetSum.cls ≠ "java/lang/invoke/MethodHandle" ∧ y_P_unmetSum.cls ≠ "java/lang/invoke/VarHandle" ∧ (parseMethodDescriptor y_P_unmetSum.desc).map (fun d => d.parameters.length) = some 1 := by decide +kernel
theorem hd_R_cost : y_R_cost.cls ≠ "java/lang/invoke/MethodHandle" ∧ y_R_cost.cls ≠ "java/lang/invoke/VarHandle" ∧ (parseMethodDescriptor y_R_cost.desc).map (fun d => d.parameters.length) = some 0 := by decide +kernel
theorem hd_P_costOfAll : y_P_costOfAll.cls ≠ "java/lang/invoke/MethodHandle" ∧ y_P_costOfAll.cls ≠ "java/lang/invoke/VarHandle" ∧ (parseMethodDescriptor y_P_costOfAll.desc).map (fun d => d.parameters.length) = some 1 := by decide +kernel
theorem hd_P_costOfOne : y_P_costOfOne.cls ≠ "java/lang/invoke/MethodHandle" ∧ y_P_costOfOne.cls ≠ "java/lang/invoke/VarHandle" ∧ (parseMethodDescriptor y_P_costOfOne.desc).map (fun d => d.parameters.length) = some 2 := by decide +kernel
theorem hd_R_publish : y_R_publish.cls ≠ "java/lang/invoke/MethodHandle" ∧ y_R_publish.cls ≠ "java/lang/invoke/VarHandle" ∧ (parseMethodDescriptor y_R_publish.desc).map (fun d => d.parameters.length) = some 0 := by decide +kernel
theorem hd_L_days : y_L_days.cls ≠ "java/lang/invoke/MethodHandle" ∧ y_L_days.cls ≠ "java/lang/invoke/VarHandle" ∧ (parseMethodDescriptor y_L_days.desc).map (fun d => d.parameters.length) = some 2 := by decide +kernel
theorem hd_R_days : y_R_days.cls ≠ "java/lang/invoke/MethodHandle" ∧ y_R_days.cls ≠ "java/lang/invoke/VarHandle" ∧ (parseMethodDescriptor y_R_days.desc).map (fun d => d.parameters.length) = some 1 := by decide +kernel
theorem hd_R_refuseOutside : y_R_refuseOutside.cls ≠ "java/lang/invoke/MethodHandle" ∧ y_R_refuseOutside.cls ≠ "java/lang/invoke/VarHandle" ∧ (parseMethodDescriptor y_R_refuseOutside.desc).map (fun d => d.parameters.length) = some 3 := by decide +kernel
theorem hd_P_startDays : y_P_startDays.cls ≠ "java/lang/invoke/MethodHandle" ∧ y_P_startDays.cls ≠ "java/lang/invoke/VarHandle" ∧ (parseMethodDescriptor y_P_startDays.desc).map (fun d => d.parameters.length) = some 1 := by decide +kernel
theorem hd_R_clearRow : y_R_clearRow.cls ≠ "java/lang/invoke/MethodHandle" ∧ y_R_clearRow.cls ≠ "java/lang/invoke/VarHandle" ∧ (parseMethodDescriptor y_R_clearRow.desc).map (fun d => d.parameters.length) = some 1 := by decide +kernel
theorem hd_L_person : y_L_person.cls ≠ "java/lang/invoke/MethodHandle" ∧ y_L_person.cls ≠ "java/lang/invoke/VarHandle" ∧ (parseMethodDescriptor y_L_person.desc).map (fun d => d.parameters.length) = some 4 := by decide +kernel
theorem hd_R_person : y_R_person.cls ≠ "java/lang/invoke/MethodHandle" ∧ y_R_person.cls ≠ "java/lang/invoke/VarHandle" ∧ (parseMethodDescriptor y_R_person.desc).map (fun d => d.parameters.length) = some 2 := by decide +kernel
theorem hd_R_refuseFull : y_R_refuseFull.cls ≠ "java/lang/invoke/MethodHandle" ∧ y_R_refuseFull.cls ≠ "java/lang/invoke/VarHandle" ∧ (parseMethodDescriptor y_R_refuseFull.desc).map (fun d => d.parameters.length) = some 2 := by decide +kernel
theorem hd_P_addPerson : y_P_addPerson.cls ≠ "java/lang/invoke/MethodHandle" ∧ y_P_addPerson.cls ≠ "java/lang/invoke/VarHandle" ∧ (parseMethodDescriptor y_P_addPerson.desc).map (fun d => d.parameters.length) = some 2 := by decide +kernel
theorem hd_L_need : y_L_need.cls ≠ "java/lang/invoke/MethodHandle" ∧ y_L_need.cls ≠ "java/lang/invoke/VarHandle" ∧ (parseMethodDescriptor y_L_need.desc).map (fun d => d.parameters.length) = some 5 := by decide +kernel
theorem hd_R_need : y_R_need.cls ≠ "java/lang/invoke/MethodHandle" ∧ y_R_need.cls ≠ "java/lang/invoke/VarHandle" ∧ (parseMethodDescriptor y_R_need.desc).map (fun d => d.parameters.length) = some 4 := by decide +kernel
theorem hd_R_refuseUnknownDay : y_R_refuseUnknownDay.cls ≠ "java/lang/invoke/MethodHandle" ∧ y_R_refuseUnknownDay.cls ≠ "java/lang/invoke/VarHandle" ∧ (parseMethodDescriptor y_R_refuseUnknownDay.desc).map (fun d => d.parameters.length) = some 1 := by decide +kernel
theorem hd_R_refuseUnknown : y_R_refuseUnknown.cls ≠ "java/lang/invoke/MethodHandle" ∧ y_R_refuseUnknown.cls ≠ "java/lang/invoke/VarHandle" ∧ (parseMethodDescriptor y_R_refuseUnknown.desc).map (fun d => d.parameters.length) = some 3 := by decide +kernel
theorem hd_P_putNeed : y_P_putNeed.cls ≠ "java/lang/invoke/MethodHandle" ∧ y_P_putNeed.cls ≠ "java/lang/invoke/VarHandle" ∧ (parseMethodDescriptor y_P_putNeed.desc).map (fun d => d.parameters.length) = some 4 := by decide +kernel
theorem hd_L_rules : y_L_rules.cls ≠ "java/lang/invoke/MethodHandle" ∧ y_L_rules.cls ≠ "java/lang/invoke/VarHandle" ∧ (parseMethodDescriptor y_L_rules.desc).map (fun d => d.parameters.length) = some 4 := by decide +kernel
theorem hd_R_rules : y_R_rules.cls ≠ "java/lang/invoke/MethodHandle" ∧ y_R_rules.cls ≠ "java/lang/invoke/VarHandle" ∧ (parseMethodDescriptor y_R_rules.desc).map (fun d => d.parameters.length) = some 3 := by decide +kernel
theorem hd_P_putRules : y_P_putRules.cls ≠ "java/lang/invoke/MethodHandle" ∧ y_P_putRules.cls ≠ "java/lang/invoke/VarHandle" ∧ (parseMethodDescriptor y_P_putRules.desc).map (fun d => d.parameters.length) = some 3 := by decide +kernel
theorem hd_L_bar : y_L_bar.cls ≠ "java/lang/invoke/MethodHandle" ∧ y_L_bar.cls ≠ "java/lang/invoke/VarHandle" ∧ (parseMethodDescriptor y_L_bar.desc).map (fun d => d.parameters.length) = some 5 := by decide +kernel
theorem hd_R_bar : y_R_bar.cls ≠ "java/lang/invoke/MethodHandle" ∧ y_R_bar.cls ≠ "java/lang/invoke/VarHandle" ∧ (parseMethodDescriptor y_R_bar.desc).map (fun d => d.parameters.length) = some 4 := by decide +kernel
theorem hd_R_refuseUnknownPerson : y_R_refuseUnknownPerson.cls ≠ "java/lang/invoke/MethodHandle" ∧ y_R_refuseUnknownPerson.cls ≠ "java/lang/invoke/VarHandle" ∧ (parseMethodDescriptor y_R_refuseUnknownPerson.desc).map (fun d => d.parameters.length) = some 1 := by decide +kernel
theorem hd_L_wish : y_L_wish.cls ≠ "java/lang/invoke/MethodHandle" ∧ y_L_wish.cls ≠ "java/lang/invoke/VarHandle" ∧ (parseMethodDescriptor y_L_wish.desc).map (fun d => d.parameters.length) = some 7 := by decide +kernel
theorem hd_R_wish : y_R_wish.cls ≠ "java/lang/invoke/MethodHandle" ∧ y_R_wish.cls ≠ "java/lang/invoke/VarHandle" ∧ (parseMethodDescriptor y_R_wish.desc).map (fun d => d.parameters.length) = some 5 := by decide +kernel
theorem hd_R_refuseFrozen : y_R_refuseFrozen.cls ≠ "java/lang/invoke/MethodHandle" ∧ y_R_refuseFrozen.cls ≠ "java/lang/invoke/VarHandle" ∧ (parseMethodDescriptor y_R_refuseFrozen.desc).map (fun d => d.parameters.length) = some 1 := by decide +kernel
theorem hd_P_addWish : y_P_addWish.cls ≠ "java/lang/invoke/MethodHandle" ∧ y_P_addWish.cls ≠ "java/lang/invoke/VarHandle" ∧ (parseMethodDescriptor y_P_addWish.desc).map (fun d => d.parameters.length) = some 4 := by decide +kernel
theorem hd_L_freeze : y_L_freeze.cls ≠ "java/lang/invoke/MethodHandle" ∧ y_L_freeze.cls ≠ "java/lang/invoke/VarHandle" ∧ (parseMethodDescriptor y_L_freeze.desc).map (fun d => d.parameters.length) = some 2 := by decide +kernel
theorem hd_R_freeze : y_R_freeze.cls ≠ "java/lang/invoke/MethodHandle" ∧ y_R_freeze.cls ≠ "java/lang/invoke/VarHandle" ∧ (parseMethodDescriptor y_R_freeze.desc).map (fun d => d.parameters.length) = some 1 := by decide +kernel
theorem hd_L_set : y_L_set.cls ≠ "java/lang/invoke/MethodHandle" ∧ y_L_set.cls ≠ "java/lang/invoke/VarHandle" ∧ (parseMethodDescriptor y_L_set.desc).map (fun d => d.parameters.length) = some 4 := by decide +kernel
theorem hd_R_set : y_R_set.cls ≠ "java/lang/invoke/MethodHandle" ∧ y_R_set.cls ≠ "java/lang/invoke/VarHandle" ∧ (parseMethodDescriptor y_R_set.desc).map (fun d => d.parameters.length) = some 3 := by decide +kernel
theorem hd_L_solve : y_L_solve.cls ≠ "java/lang/invoke/MethodHandle" ∧ y_L_solve.cls ≠ "java/lang/invoke/VarHandle" ∧ (parseMethodDescriptor y_L_solve.desc).map (fun d => d.parameters.length) = some 3 := by decide +kernel
theorem hd_R_solve : y_R_solve.cls ≠ "java/lang/invoke/MethodHandle" ∧ y_R_solve.cls ≠ "java/lang/invoke/VarHandle" ∧ (parseMethodDescriptor y_R_solve.desc).map (fun d => d.parameters.length) = some 1 := by decide +kernel
theorem hd_S_run : y_S_run.cls ≠ "java/lang/invoke/MethodHandle" ∧ y_S_run.cls ≠ "java/lang/invoke/VarHandle" ∧ (parseMethodDescriptor y_S_run.desc).map (fun d => d.parameters.length) = some 3 := by decide +kernel
theorem hd_S_takeOnlyRoster : y_S_takeOnlyRoster.cls ≠ "java/lang/invoke/MethodHandle" ∧ y_S_takeOnlyRoster.cls ≠ "java/lang/invoke/VarHandle" ∧ (parseMethodDescriptor y_S_takeOnlyRoster.desc).map (fun d => d.parameters.length) = some 0 := by decide +kernel
theorem hd_S_keepTrial : y_S_keepTrial.cls ≠ "java/lang/invoke/MethodHandle" ∧ y_S_keepTrial.cls ≠ "java/lang/invoke/VarHandle" ∧ (parseMethodDescriptor y_S_keepTrial.desc).map (fun d => d.parameters.length) = some 1 := by decide +kernel
theorem hd_S_goThrough : y_S_goThrough.cls ≠ "java/lang/invoke/MethodHandle" ∧ y_S_goThrough.cls ≠ "java/lang/invoke/VarHandle" ∧ (parseMethodDescriptor y_S_goThrough.desc).map (fun d => d.parameters.length) = some 1 := by decide +kernel
theorem hd_S_open : y_S_open.cls ≠ "java/lang/invoke/MethodHandle" ∧ y_S_open.cls ≠ "java/lang/invoke/VarHandle" ∧ (parseMethodDescriptor y_S_open.desc).map (fun d => d.parameters.length) = some 3 := by decide +kernel
theorem hd_S_standsNext : y_S_standsNext.cls ≠ "java/lang/invoke/MethodHandle" ∧ y_S_standsNext.cls ≠ "java/lang/invoke/VarHandle" ∧ (parseMethodDescriptor y_S_standsNext.desc).map (fun d => d.parameters.length) = some 2 := by decide +kernel
theorem hd_S_keepsRules : y_S_keepsRules.cls ≠ "java/lang/invoke/MethodHandle" ∧ y_S_keepsRules.cls ≠ "java/lang/invoke/VarHandle" ∧ (parseMethodDescriptor y_S_keepsRules.desc).map (fun d => d.parameters.length) = some 3 := by decide +kernel
theorem hd_S_staysBelowBest : y_S_staysBelowBest.cls ≠ "java/lang/invoke/MethodHandle" ∧ y_S_staysBelowBest.cls ≠ "java/lang/invoke/VarHandle" ∧ (parseMethodDescriptor y_S_staysBelowBest.desc).map (fun d => d.parameters.length) = some 3 := by decide +kernel
theorem hd_S_unmetBefore : y_S_unmetBefore.cls ≠ "java/lang/invoke/MethodHandle" ∧ y_S_unmetBefore.cls ≠ "java/lang/invoke/VarHandle" ∧ (parseMethodDescriptor y_S_unmetBefore.desc).map (fun d => d.parameters.length) = some 2 := by decide +kernel
theorem hd_L_solved : y_L_solved.cls ≠ "java/lang/invoke/MethodHandle" ∧ y_L_solved.cls ≠ "java/lang/invoke/VarHandle" ∧ (parseMethodDescriptor y_L_solved.desc).map (fun d => d.parameters.length) = some 3 := by decide +kernel
theorem hd_R_solved : y_R_solved.cls ≠ "java/lang/invoke/MethodHandle" ∧ y_R_solved.cls ≠ "java/lang/invoke/VarHandle" ∧ (parseMethodDescriptor y_R_solved.desc).map (fun d => d.parameters.length) = some 1 := by decide +kernel
theorem hd_L_swap : y_L_swap.cls ≠ "java/lang/invoke/MethodHandle" ∧ y_L_swap.cls ≠ "java/lang/invoke/VarHandle" ∧ (parseMethodDescriptor y_L_swap.desc).map (fun d => d.parameters.length) = some 4 := by decide +kernel
theorem hd_R_swap : y_R_swap.cls ≠ "java/lang/invoke/MethodHandle" ∧ y_R_swap.cls ≠ "java/lang/invoke/VarHandle" ∧ (parseMethodDescriptor y_R_swap.desc).map (fun d => d.parameters.length) = some 3 := by decide +kernel
theorem hd_R_refuseSame : y_R_refuseSame.cls ≠ "java/lang/invoke/MethodHandle" ∧ y_R_refuseSame.cls ≠ "java/lang/invoke/VarHandle" ∧ (parseMethodDescriptor y_R_refuseSame.desc).map (fun d => d.parameters.length) = some 2 := by decide +kernel
theorem hd_R_exchange : y_R_exchange.cls ≠ "java/lang/invoke/MethodHandle" ∧ y_R_exchange.cls ≠ "java/lang/invoke/VarHandle" ∧ (parseMethodDescriptor y_R_exchange.desc).map (fun d => d.parameters.length) = some 2 := by decide +kernel
theorem hd_L_shift : y_L_shift.cls ≠ "java/lang/invoke/MethodHandle" ∧ y_L_shift.cls ≠ "java/lang/invoke/VarHandle" ∧ (parseMethodDescriptor y_L_shift.desc).map (fun d => d.parameters.length) = some 4 := by decide +kernel
theorem hd_R_shift : y_R_shift.cls ≠ "java/lang/invoke/MethodHandle" ∧ y_R_shift.cls ≠ "java/lang/invoke/VarHandle" ∧ (parseMethodDescriptor y_R_shift.desc).map (fun d => d.parameters.length) = some 2 := by decide +kernel
theorem hd_L_share : y_L_share.cls ≠ "java/lang/invoke/MethodHandle" ∧ y_L_share.cls ≠ "java/lang/invoke/VarHandle" ∧ (parseMethodDescriptor y_L_share.desc).map (fun d => d.parameters.length) = some 3 := by decide +kernel
theorem hd_R_share : y_R_share.cls ≠ "java/lang/invoke/MethodHandle" ∧ y_R_share.cls ≠ "java/lang/invoke/VarHandle" ∧ (parseMethodDescriptor y_R_share.desc).map (fun d => d.parameters.length) = some 1 := by decide +kernel
theorem hd_L_count : y_L_count.cls ≠ "java/lang/invoke/MethodHandle" ∧ y_L_count.cls ≠ "java/lang/invoke/VarHandle" ∧ (parseMethodDescriptor y_L_count.desc).map (fun d => d.parameters.length) = some 3 := by decide +kernel
theorem hd_R_count : y_R_count.cls ≠ "java/lang/invoke/MethodHandle" ∧ y_R_count.cls ≠ "java/lang/invoke/VarHandle" ∧ (parseMethodDescriptor y_R_count.desc).map (fun d => d.parameters.length) = some 1 := by decide +kernel
theorem hd_M_init : y_M_init.cls ≠ "java/lang/invoke/MethodHandle" ∧ y_M_init.cls ≠ "java/lang/invoke/VarHandle" ∧ (parseMethodDescriptor y_M_init.desc).map (fun d => d.parameters.length) = some 0 := by decide +kernel
theorem hd_M_thrown : y_M_thrown.cls ≠ "java/lang/invoke/MethodHandle" ∧ y_M_thrown.cls ≠ "java/lang/invoke/VarHandle" ∧ (parseMethodDescriptor y_M_thrown.desc).map (fun d => d.parameters.length) = some 0 := by decide +kernel
theorem hd_M_days : y_M_days.cls ≠ "java/lang/invoke/MethodHandle" ∧ y_M_days.cls ≠ "java/lang/invoke/VarHandle" ∧ (parseMethodDescriptor y_M_days.desc).map (fun d => d.parameters.length) = some 1 := by decide +kernel
theorem hd_M_in : y_M_in.cls ≠ "java/lang/invoke/MethodHandle" ∧ y_M_in.cls ≠ "java/lang/invoke/VarHandle" ∧ (parseMethodDescriptor y_M_in.desc).map (fun d => d.parameters.length) = some 3 := by decide +kernel
theorem hd_M_throwing : y_M_throwing.cls ≠ "java/lang/invoke/MethodHandle" ∧ y_M_throwing.cls ≠ "java/lang/invoke/VarHandle" ∧ (parseMethodDescriptor y_M_throwing.desc).map (fun d => d.parameters.length) = some 4 := by decide +kernel
theorem hd_M_person : y_M_person.cls ≠ "java/lang/invoke/MethodHandle" ∧ y_M_person.cls ≠ "java/lang/invoke/VarHandle" ∧ (parseMethodDescriptor y_M_person.desc).map (fun d => d.parameters.length) = some 2 := by decide +kernel
theorem hd_M_need : y_M_need.cls ≠ "java/lang/invoke/MethodHandle" ∧ y_M_need.cls ≠ "java/lang/invoke/VarHandle" ∧ (parseMethodDescriptor y_M_need.desc).map (fun d => d.parameters.length) = some 4 := by decide +kernel
theorem hd_M_isDay : y_M_isDay.cls ≠ "java/lang/invoke/MethodHandle" ∧ y_M_isDay.cls ≠ "java/lang/invoke/VarHandle" ∧ (parseMethodDescriptor y_M_isDay.desc).map (fun d => d.parameters.length) = some 1 := by decide +kernel
theorem hd_M_rules : y_M_rules.cls ≠ "java/lang/invoke/MethodHandle" ∧ y_M_rules.cls ≠ "java/lang/invoke/VarHandle" ∧ (parseMethodDescriptor y_M_rules.desc).map (fun d => d.parameters.length) = some 3 := by decide +kernel
theorem hd_M_bar : y_M_bar.cls ≠ "java/lang/invoke/MethodHandle" ∧ y_M_bar.cls ≠ "java/lang/invoke/VarHandle" ∧ (parseMethodDescriptor y_M_bar.desc).map (fun d => d.parameters.length) = some 4 := by decide +kernel
theorem hd_M_isPerson : y_M_isPerson.cls ≠ "java/lang/invoke/MethodHandle" ∧ y_M_isPerson.cls ≠ "java/lang/invoke/VarHandle" ∧ (parseMethodDescriptor y_M_isPerson.desc).map (fun d => d.parameters.length) = some 1 := by decide +kernel
theorem hd_M_wish : y_M_wish.cls ≠ "java/lang/invoke/MethodHandle" ∧ y_M_wish.cls ≠ "java/lang/invoke/VarHandle" ∧ (parseMethodDescriptor y_M_wish.desc).map (fun d => d.parameters.length) = some 5 := by decide +kernel
theorem hd_M_freeze : y_M_freeze.cls ≠ "java/lang/invoke/MethodHandle" ∧ y_M_freeze.cls ≠ "java/lang/invoke/VarHandle" ∧ (parseMethodDescriptor y_M_freeze.desc).map (fun d => d.parameters.length) = some 1 := by decide +kernel
theorem hd_M_set : y_M_set.cls ≠ "java/lang/invoke/MethodHandle" ∧ y_M_set.cls ≠ "java/lang/invoke/VarHandle" ∧ (parseMethodDescriptor y_M_set.desc).map (fun d => d.parameters.length) = some 3 := by decide +kernel
theorem hd_M_solve : y_M_solve.cls ≠ "java/lang/invoke/MethodHandle" ∧ y_M_solve.cls ≠ "java/lang/invoke/VarHandle" ∧ (parseMethodDescriptor y_M_solve.desc).map (fun d => d.parameters.length) = some 1 := by decide +kernel
theorem hd_M_areMet : y_M_areMet.cls ≠ "java/lang/invoke/MethodHandle" ∧ y_M_areMet.cls ≠ "java/lang/invoke/VarHandle" ∧ (parseMethodDescriptor y_M_areMet.desc).map (fun d => d.parameters.length) = some 2 := by decide +kernel
theorem hd_M_isMet : y_M_isMet.cls ≠ "java/lang/invoke/MethodHandle" ∧ y_M_isMet.cls ≠ "java/lang/invoke/VarHandle" ∧ (parseMethodDescriptor y_M_isMet.desc).map (fun d => d.parameters.length) = some 3 := by decide +kernel
theorem hd_M_search : y_M_search.cls ≠ "java/lang/invoke/MethodHandle" ∧ y_M_search.cls ≠ "java/lang/invoke/VarHandle" ∧ (parseMethodDescriptor y_M_search.desc).map (fun d => d.parameters.length) = some 1 := by decide +kernel
theorem hd_M_givesUp : y_M_givesUp.cls ≠ "java/lang/invoke/MethodHandle" ∧ y_M_givesUp.cls ≠ "java/lang/invoke/VarHandle" ∧ (parseMethodDescriptor y_M_givesUp.desc).map (fun d => d.parameters.length) = some 2 := by decide +kernel
theorem hd_M_isTired : y_M_isTired.cls ≠ "java/lang/invoke/MethodHandle" ∧ y_M_isTired.cls ≠ "java/lang/invoke/VarHandle" ∧ (parseMethodDescriptor y_M_isTired.desc).map (fun d => d.parameters.length) = some 3 := by decide +kernel
theorem hd_M_between : y_M_between.cls ≠ "java/lang/invoke/MethodHandle" ∧ y_M_between.cls ≠ "java/lang/invoke/VarHandle" ∧ (parseMethodDescriptor y_M_between.desc).map (fun d => d.parameters.length) = some 2 := by decide +kernel
theorem hd_M_many : y_M_many.cls ≠ "java/lang/invoke/MethodHandle" ∧ y_M_many.cls ≠ "java/lang/invoke/VarHandle" ∧ (parseMethodDescriptor y_M_many.desc).map (fun d => d.parameters.length) = some 3 := by decide +kernel
theorem hd_M_nightsTo : y_M_nightsTo.cls ≠ "java/lang/invoke/MethodHandle" ∧ y_M_nightsTo.cls ≠ "java/lang/invoke/VarHandle" ∧ (parseMethodDescriptor y_M_nightsTo.desc).map (fun d => d.parameters.length) = some 3 := by decide +kernel
theorem hd_M_unmetTo : y_M_unmetTo.cls ≠ "java/lang/invoke/MethodHandle" ∧ y_M_unmetTo.cls ≠ "java/lang/invoke/VarHandle" ∧ (parseMethodDescriptor y_M_unmetTo.desc).map (fun d => d.parameters.length) = some 2 := by decide +kernel
theorem hd_M_solved : y_M_solved.cls ≠ "java/lang/invoke/MethodHandle" ∧ y_M_solved.cls ≠ "java/lang/invoke/VarHandle" ∧ (parseMethodDescriptor y_M_solved.desc).map (fun d => d.parameters.length) = some 1 := by decide +kernel
theorem hd_M_swap : y_M_swap.cls ≠ "java/lang/invoke/MethodHandle" ∧ y_M_swap.cls ≠ "java/lang/invoke/VarHandle" ∧ (parseMethodDescriptor y_M_swap.desc).map (fun d => d.parameters.length) = some 3 := by decide +kernel
theorem hd_M_wrongWith : y_M_wrongWith.cls ≠ "java/lang/invoke/MethodHandle" ∧ y_M_wrongWith.cls ≠ "java/lang/invoke/VarHandle" ∧ (parseMethodDescriptor y_M_wrongWith.desc).map (fun d => d.parameters.length) = some 1 := by decide +kernel
theorem hd_M_shift : y_M_shift.cls ≠ "java/lang/invoke/MethodHandle" ∧ y_M_shift.cls ≠ "java/lang/invoke/VarHandle" ∧ (parseMethodDescriptor y_M_shift.desc).map (fun d => d.parameters.length) = some 2 := by decide +kernel
theorem hd_M_wrong : y_M_wrong.cls ≠ "java/lang/invoke/MethodHandle" ∧ y_M_wrong.cls ≠ "java/lang/invoke/VarHandle" ∧ (parseMethodDescriptor y_M_wrong.desc).map (fun d => d.parameters.length) = some 0 := by decide +kernel
theorem hd_M_unmet : y_M_unmet.cls ≠ "java/lang/invoke/MethodHandle" ∧ y_M_unmet.cls ≠ "java/lang/invoke/VarHandle" ∧ (parseMethodDescriptor y_M_unmet.desc).map (fun d => d.parameters.length) = some 0 := by decide +kernel
theorem hd_M_cost : y_M_cost.cls ≠ "java/lang/invoke/MethodHandle" ∧ y_M_cost.cls ≠ "java/lang/invoke/VarHandle" ∧ (parseMethodDescriptor y_M_cost.desc).map (fun d => d.parameters.length) = some 0 := by decide +kernel
theorem hd_M_costOf : y_M_costOf.cls ≠ "java/lang/invoke/MethodHandle" ∧ y_M_costOf.cls ≠ "java/lang/invoke/VarHandle" ∧ (parseMethodDescriptor y_M_costOf.desc).map (fun d => d.parameters.length) = some 1 := by decide +kernel
theorem hd_M_share : y_M_share.cls ≠ "java/lang/invoke/MethodHandle" ∧ y_M_share.cls ≠ "java/lang/invoke/VarHandle" ∧ (parseMethodDescriptor y_M_share.desc).map (fun d => d.parameters.length) = some 1 := by decide +kernel
theorem hd_M_publish : y_M_publish.cls ≠ "java/lang/invoke/MethodHandle" ∧ y_M_publish.cls ≠ "java/lang/invoke/VarHandle" ∧ (parseMethodDescriptor y_M_publish.desc).map (fun d => d.parameters.length) = some 0 := by decide +kernel
theorem hd_M_count : y_M_count.cls ≠ "java/lang/invoke/MethodHandle" ∧ y_M_count.cls ≠ "java/lang/invoke/VarHandle" ∧ (parseMethodDescriptor y_M_count.desc).map (fun d => d.parameters.length) = some 1 := by decide +kernel
set_option maxHeartbeats 4000000 in
set_option maxRecDepth 100000 in
theorem c_R_cell (l : Launch) (D : va_G) (a b : Nat) : Met l y_R_cell w_R_cell { frames := 0, cells := 0, slots := 0, locals := 0 } (ro_P [.int (nI a), .int (nI b)] D ([]) ([])) (vp_Si (fun r => r = nI (b * 6 + a))) 0 0 (fun _ => False) := by
  refine Met.ofW (cc := b_R_cell) (maxL := 2) (ret := (some .int)) (by decide) rfl ?_
  intro p e s m args below meth c s₁ B hml hv
  obtain ⟨rfl, hN, hP, hK⟩ := hv
  have hx := B.exec
  have hb := B.bytes
  have hr := B.returns
  have hts := atoms_spec (ws := w_R_cell) B.pre
  have htb : ∀ w ∈ TBG, w.before [.int (nI a), .int (nI b)].toArray s = true := fun w h => hts w (List.mem_cons_of_mem _ h)
  have hown : s.vm.findClass R_R = some m.cls := findClass_of_methodNamed B.named
  have hlocks := B.notSynchronized
  have hl := lv_entry ([.int (nI a), .int (nI b)]) (n := 2) (Nat.le_of_ble_eq_true rfl)
  rw [lg_entry_eq]
  generalize (lg_sl ([.int (nI a), .int (nI b)]) ++ List.replicate (2 - (lg_sl ([.int (nI a), .int (nI b)])).length) Slot.unset).toArray = ls at hl ⊢
  have hl : lv_has ls 2 [(0, .int (nI a)), (1, .int (nI b))] := hl
  refine lv_iload_n hx hb d_R_cell_0 rfl (lv_at hl 1 rfl) ?_
  refine nr_bipush hx hb 6 d_R_cell_1 (by decide) ?_
  refine nr_imul hx hb d_R_cell_3 ?_
  refine lv_iload_n hx hb d_R_cell_4 rfl (lv_at hl 0 rfl) ?_
  refine nr_iadd hx hb d_R_cell_5 ?_
  exact W.iret (v := (nI ((b * 6) + a))) hx hb hr (fun t ht hW => ⟨_, rfl, rfl, ht⟩) (fun q h => by cases h) d_R_cell_6
set_option maxHeartbeats 4000000 in
set_option maxRecDepth 100000 in
theorem c_R_choice (l : Launch) (D : va_G) (a b d : Nat) : Met l y_R_choice w_R_choice { frames := 1, cells := 0, slots := 0, locals := 21 } (ro_P [.int (nI a), .int (nI b), .int (nI d)] D ([]) ([])) (vp_Si (fun r => r = nI ((b * 6 + a) * 4 + d))) 0 0 (fun _ => False) := by
  refine Met.ofW (cc := b_R_choice) (maxL := 3) (ret := (some .int)) (by decide) rfl ?_
  intro p e s m args below meth c s₁ B hml hv
  obtain ⟨rfl, hN, hP, hK⟩ := hv
  have hx := B.exec
  have hb := B.bytes
  have hr := B.returns
  have hts := atoms_spec (ws := w_R_choice) B.pre
  have htb : ∀ w ∈ TBG, w.before [.int (nI a), .int (nI b), .int (nI d)].toArray s = true := fun w h => hts w (List.mem_cons_of_mem _ h)
  have hown : s.vm.findClass R_R = some m.cls := findClass_of_methodNamed B.named
  have hlocks := B.notSynchronized
  have hl := lv_entry ([.int (nI a), .int (nI b), .int (nI d)]) (n := 3) (Nat.le_of_ble_eq_true rfl)
  rw [lg_entry_eq]
  generalize (lg_sl ([.int (nI a), .int (nI b), .int (nI d)]) ++ List.replicate (3 - (lg_sl ([.int (nI a), .int (nI b), .int (nI d)])).length) Slot.unset).toArray = ls at hl ⊢
  have hl : lv_has ls 3 [(0, .int (nI a)), (1, .int (nI b)), (2, .int (nI d))] := hl
  refine lv_iload_n hx hb d_R_choice_0 rfl (lv_at hl 0 rfl) ?_
  refine lv_iload_n hx hb d_R_choice_1 rfl (lv_at hl 1 rfl) ?_
  refine nr_calli (va_runS (As := [.int (nI a), .int (nI b)]) (rest := []) ⟨hx, hb, hml, hown, hts⟩ (c_R_cell l D a b) ⟨callB_of 2 hts (gTB q_R_cell) rfl rfl rfl (htb _ q1) (htb _ q208) hd_R_cell ⟨Nat.le_of_ble_eq_true rfl, Nat.le_of_ble_eq_true rfl⟩, (htb _ q174)⟩ ⟨ro_blind, ro_pre hN (hP.sub (ws' := []) [] rfl) (hK.sub (tys' := []) [] rfl)⟩ rfl rfl hl.1 rfl (lv_room (Nat.le_of_ble_eq_true rfl)) d_R_choice_2 ⟨Nat.le_of_ble_eq_true rfl, Nat.le_of_ble_eq_true rfl⟩) (fun r_1 hr_1 => ?_)
  subst hr_1
  refine nr_iconst hx hb 4 d_R_choice_5 (by decide) ?_
  refine nr_imul hx hb d_R_choice_6 ?_
  refine lv_iload_n hx hb d_R_choice_7 rfl (lv_at hl 2 rfl) ?_
  refine nr_iadd hx hb d_R_choice_8 ?_
  exact W.iret (v := (nI (((b * 6 + a) * 4) + d))) hx hb hr (fun t ht hW => ⟨_, rfl, rfl, ht⟩) (fun q h => by cases h) d_R_choice_9
set_option maxHeartbeats 4000000 in
set_option maxRecDepth 100000 in
theorem c_R_slot (l : Launch) (D : va_G) (a b : Nat) : Met l y_R_slot w_R_slot { frames := 0, cells := 0, slots := 0, locals := 0 } (ro_P [.int (nI a), .int (nI b)] D ([]) ([])) (vp_Si (fun r => r = nI (a * 4 + b))) 0 0 (fun _ => False) := by
  refine Met.ofW (cc := b_R_slot) (maxL := 2) (ret := (some .int)) (by decide) rfl ?_
  intro p e s m args below meth c s₁ B hml hv
  obtain ⟨rfl, hN, hP, hK⟩ := hv
  have hx := B.exec
  have hb := B.bytes
  have hr := B.returns
  have hts := atoms_spec (ws := w_R_slot) B.pre
  have htb : ∀ w ∈ TBG, w.before [.int (nI a), .int (nI b)].toArray s = true := fun w h => hts w (List.mem_cons_of_mem _ h)
  have hown : s.vm.findClass R_R = some m.cls := findClass_of_methodNamed B.named
  have hlocks := B.notSynchronized
  have hl := lv_entry ([.int (nI a), .int (nI b)]) (n := 2) (Nat.le_of_ble_eq_true rfl)
  rw [lg_entry_eq]
  generalize (lg_sl ([.int (nI a), .int (nI b)]) ++ List.replicate (2 - (lg_sl ([.int (nI a), .int (nI b)])).length) Slot.unset).toArray = ls at hl ⊢
  have hl : lv_has ls 2 [(0, .int (nI a)), (1, .int (nI b))] := hl
  refine lv_iload_n hx hb d_R_slot_0 rfl (lv_at hl 0 rfl) ?_
  refine nr_iconst hx hb 4 d_R_slot_1 (by decide) ?_
  refine nr_imul hx hb d_R_slot_2 ?_
  refine lv_iload_n hx hb d_R_slot_3 rfl (lv_at hl 1 rfl) ?_
  refine nr_iadd hx hb d_R_slot_4 ?_
  exact W.iret (v := (nI ((a * 4) + b))) hx hb hr (fun t ht hW => ⟨_, rfl, rfl, ht⟩) (fun q h => by cases h) d_R_slot_5
set_option maxHeartbeats 4000000 in
set_option maxRecDepth 100000 in
theorem c_P_faultNumber (l : Launch) (D : va_G) (a b d : Nat) : Met l y_P_faultNumber w_P_faultNumber { frames := 0, cells := 0, slots := 0, locals := 0 } (ro_P [.int (nI a), .int (nI b), .int (nI d)] D ([]) ([])) (vp_Si (fun r => r = nI (100 * a + 10 * b + d))) 0 0 (fun _ => False) := by
  refine Met.ofW (cc := b_P_faultNumber) (maxL := 3) (ret := (some .int)) (by decide) rfl ?_
  intro p e s m args below meth c s₁ B hml hv
  obtain ⟨rfl, hN, hP, hK⟩ := hv
  have hx := B.exec
  have hb := B.bytes
  have hr := B.returns
  have hts := atoms_spec (ws := w_P_faultNumber) B.pre
  have htb : ∀ w ∈ TBG, w.before [.int (nI a), .int (nI b), .int (nI d)].toArray s = true := fun w h => hts w (List.mem_cons_of_mem _ h)
  have hown : s.vm.findClass R_P = some m.cls := findClass_of_methodNamed B.named
  have hlocks := B.notSynchronized
  have hl := lv_entry ([.int (nI a), .int (nI b), .int (nI d)]) (n := 3) (Nat.le_of_ble_eq_true rfl)
  rw [lg_entry_eq]
  generalize (lg_sl ([.int (nI a), .int (nI b), .int (nI d)]) ++ List.replicate (3 - (lg_sl ([.int (nI a), .int (nI b), .int (nI d)])).length) Slot.unset).toArray = ls at hl ⊢
  have hl : lv_has ls 3 [(0, .int (nI a)), (1, .int (nI b)), (2, .int (nI d))] := hl
  refine nr_bipush hx hb 100 d_P_faultNumber_0 (by decide) ?_
  refine lv_iload_n hx hb d_P_faultNumber_2 rfl (lv_at hl 0 rfl) ?_
  refine nr_imul hx hb d_P_faultNumber_3 ?_
  refine nr_bipush hx hb 10 d_P_faultNumber_4 (by decide) ?_
  refine lv_iload_n hx hb d_P_faultNumber_6 rfl (lv_at hl 1 rfl) ?_
  refine nr_imul hx hb d_P_faultNumber_7 ?_
  refine nr_iadd hx hb d_P_faultNumber_8 ?_
  refine lv_iload_n hx hb d_P_faultNumber_9 rfl (lv_at hl 2 rfl) ?_
  refine nr_iadd hx hb d_P_faultNumber_10 ?_
  exact W.iret (v := (nI (((100 * a) + (10 * b)) + d))) hx hb hr (fun t ht hW => ⟨_, rfl, rfl, ht⟩) (fun q h => by cases h) d_P_faultNumber_11
set_option maxHeartbeats 4000000 in
set_option maxRecDepth 100000 in
theorem c_P_hoursBetween (l : Launch) (D : va_G) (a b : Nat) (ha : a ≤ 3) (hb1 : 1 ≤ b) (hb3 : b ≤ 3) : Met l y_P_hoursBetween w_P_hoursBetween { frames := 0, cells := 0, slots := 0, locals := 0 } (ro_P [.int (nI a), .int (nI b)] D ([]) ([])) (vp_Si (fun r => r = nI (16 + 8 * b - 8 * a))) 0 0 (fun _ => False) := by
  refine Met.ofW (cc := b_P_hoursBetween) (maxL := 2) (ret := (some .int)) (by decide) rfl ?_
  intro p e s m args below meth c s₁ B hml hv
  obtain ⟨rfl, hN, hP, hK⟩ := hv
  have hx := B.exec
  have hb := B.bytes
  have hr := B.returns
  have hts := atoms_spec (ws := w_P_hoursBetween) B.pre
  have htb : ∀ w ∈ TBG, w.before [.int (nI a), .int (nI b)].toArray s = true := fun w h => hts w (List.mem_cons_of_mem _ h)
  have hown : s.vm.findClass R_P = some m.cls := findClass_of_methodNamed B.named
  have hlocks := B.notSynchronized
  have hl := lv_entry ([.int (nI a), .int (nI b)]) (n := 2) (Nat.le_of_ble_eq_true rfl)
  rw [lg_entry_eq]
  generalize (lg_sl ([.int (nI a), .int (nI b)]) ++ List.replicate (2 - (lg_sl ([.int (nI a), .int (nI b)])).length) Slot.unset).toArray = ls at hl ⊢
  have hl : lv_has ls 2 [(0, .int (nI a)), (1, .int (nI b))] := hl
  refine nr_bipush hx hb 16 d_P_hoursBetween_0 (by decide) ?_
  refine nr_bipush hx hb 8 d_P_hoursBetween_2 (by decide) ?_
  refine lv_iload_n hx hb d_P_hoursBetween_4 rfl (lv_at hl 1 rfl) ?_
  refine lv_iload_n hx hb d_P_hoursBetween_5 rfl (lv_at hl 0 rfl) ?_
  refine lv_isub hx hb d_P_hoursBetween_6 ?_
  refine lv_imul hx hb d_P_hoursBetween_7 ?_
  refine lv_iadd hx hb d_P_hoursBetween_8 ?_
  exact W.iret hx hb hr (fun t ht hW => ⟨_, rfl, hours_eq ha hb1 hb3, ht⟩) (fun q h => by cases h) d_P_hoursBetween_9
set_option maxHeartbeats 4000000 in
set_option maxRecDepth 100000 in
theorem c_P_breaksRest (l : Launch) (D : va_G) (ad : Nat → Nat) (ca : Nat → ClassId) (P : Nat → Nat → Nat) (a : Nat) (cS : ClassId) (sh : Nat → Nat) (hP0 : okP P) (hsh : ∀ k, sh k ≤ 3) (x y : Nat) (hx3 : x ≤ 3) (hy3 : y ≤ 3) : Met l y_P_breaksRest w_P_breaksRest { frames := 1, cells := 0, slots := 0, locals := 21 } (ro_P [.ref (ad 1), .int (nI x), .int (nI y)] D (wPS ad ca P a cS sh) (tPS ca cS)) (vp_Si (fun r => r = nI (if breaks P x y = true then 1 else 0))) 0 0 (fun _ => False) := by
  refine Met.ofW (cc := b_P_breaksRest) (maxL := 3) (ret := (some .boolean)) (by decide) rfl ?_
  intro p e s m args below meth c s₁ B hml hv
  obtain ⟨rfl, hN, hP, hK⟩ := hv
  have hx := B.exec
  have hb := B.bytes
  have hr := B.returns
  have hts := atoms_spec (ws := w_P_breaksRest) B.pre
  have htb : ∀ w ∈ TBG, w.before [.ref (ad 1), .int (nI x), .int (nI y)].toArray s = true := fun w h => hts w (List.mem_cons_of_mem _ h)
  have hown : s.vm.findClass R_P = some m.cls := findClass_of_methodNamed B.named
  have hlocks := B.notSynchronized
  have hl := lv_entry ([.ref (ad 1), .int (nI x), .int (nI y)]) (n := 3) (Nat.le_of_ble_eq_true rfl)
  rw [lg_entry_eq]
  generalize (lg_sl ([.ref (ad 1), .int (nI x), .int (nI y)]) ++ List.replicate (3 - (lg_sl ([.ref (ad 1), .int (nI x), .int (nI y)])).length) Slot.unset).toArray = ls at hl ⊢
  have hl : lv_has ls 3 [(0, .ref (ad 1)), (1, .int (nI x)), (2, .int (nI y))] := hl
  obtain ⟨h00, h01, h02, h03, h04, h05, hp1, hp2, hp3, hp4, hp5, hp6⟩ := id hP0
  refine lv_iload_n hx hb d_P_breaksRest_0 rfl (lv_at hl 1 rfl) ?_
  refine nr_if_eq (tgt := 24) hx hb (by omega) d_P_breaksRest_1 (by decide) (fun c_1 => ?_) (fun c_1 => ?_)
  · refine nr_iconst hx hb 0 d_P_breaksRest_24 (by decide) ?_
    exact W.zret (v := (nI 0)) hx hb hr rfl (fun t ht hW => ⟨_, rfl, by unfold breaks; rw [if_neg (by simp; omega)], ht⟩) (fun q h => by cases h) d_P_breaksRest_25
  · refine lv_iload_n hx hb d_P_breaksRest_4 rfl (lv_at hl 2 rfl) ?_
    refine nr_if_eq (tgt := 24) hx hb (by omega) d_P_breaksRest_5 (by decide) (fun c_5 => ?_) (fun c_5 => ?_)
    · refine nr_iconst hx hb 0 d_P_breaksRest_24 (by decide) ?_
      exact W.zret (v := (nI 0)) hx hb hr rfl (fun t ht hW => ⟨_, rfl, by unfold breaks; rw [if_neg (by simp; omega)], ht⟩) (fun q h => by cases h) d_P_breaksRest_25
    · refine lv_iload_n hx hb d_P_breaksRest_8 rfl (lv_at hl 1 rfl) ?_
      refine lv_iload_n hx hb d_P_breaksRest_9 rfl (lv_at hl 2 rfl) ?_
      refine nr_calli (va_runS (As := [.int (nI x), .int (nI y)]) (rest := []) ⟨hx, hb, hml, hown, hts⟩ (c_P_hoursBetween l D x y (by omega) (by omega) (by omega)) ⟨callB_of 2 hts (gTB q_P_hoursBetween) rfl rfl rfl (htb _ q2) (htb _ q190) hd_P_hoursBetween ⟨Nat.le_of_ble_eq_true rfl, Nat.le_of_ble_eq_true rfl⟩, (htb _ q191)⟩ ⟨ro_blind, ro_pre hN (hP.sub (ws' := []) [] rfl) (hK.sub (tys' := []) [] rfl)⟩ rfl rfl hl.1 rfl (lv_room (Nat.le_of_ble_eq_true rfl)) d_P_breaksRest_10 ⟨Nat.le_of_ble_eq_true rfl, Nat.le_of_ble_eq_true rfl⟩) (fun r_1 hr_1 => ?_)
      subst hr_1
      refine lv_aload_n hx hb d_P_breaksRest_13 rfl (lv_at hl 0 rfl) ?_
      refine va_get (D := D) (ci := 0) (v := .int (nI (P 0 2))) (C := R_P) (T := F_P) (N := 12) hx hb htb u_P hown hK hP 0 rfl rfl 2 (by decide) (htb _ q34) (fun _ h9 => h9) rfl d_P_breaksRest_14 ?_
      refine nr_icmp_ge (tgt := 24) hx hb (by omega) (by omega) d_P_breaksRest_17 (by decide) (fun c_17 => ?_) (fun c_17 => ?_)
      · refine nr_iconst hx hb 0 d_P_breaksRest_24 (by decide) ?_
        exact W.zret (v := (nI 0)) hx hb hr rfl (fun t ht hW => ⟨_, rfl, by unfold breaks; rw [if_neg (by simp; omega)], ht⟩) (fun q h => by cases h) d_P_breaksRest_25
      · refine nr_iconst hx hb 1 d_P_breaksRest_20 (by decide) ?_
        refine lv_goto (tgt := 25) hx hb d_P_breaksRest_21 (by decide) ?_
        exact W.zret (v := (nI 1)) hx hb hr rfl (fun t ht hW => ⟨_, rfl, by unfold breaks; rw [if_pos (by simp; omega)], ht⟩) (fun q h => by cases h) d_P_breaksRest_25
end
section
set_option maxHeartbeats 4000000 in
set_option maxRecDepth 100000 in
theorem c_P_meetsNeed (l : Launch) (D : va_G) (ad : Nat → Nat) (ca : Nat → ClassId) (P : Nat → Nat → Nat) (a : Nat) (cS : ClassId) (sh : Nat → Nat) (hP0 : okP P) (hsh : ∀ k, sh k ≤ 3) (d sf : Nat) (hd : d < 7) (hs : sf < 4) : Met l y_P_meetsNeed w_P_meetsNeed { frames := 1, cells := 0, slots := 0, locals := 21 } (ro_P [.ref (ad 1), .ref a, .int (nI d), .int (nI sf)] D (wPS ad ca P a cS sh) (tPS ca cS)) (vp_Si (fun r => r = nI (if meets P sh d sf = true then 1 else 0))) 0 0 (fun _ => False) := by
  refine Met.ofW (cc := b_P_meetsNeed) (maxL := 7) (ret := (some .boolean)) (by decide) rfl ?_
  intro p e s m args below meth c s₁ B hml hv
  obtain ⟨rfl, hN, hP, hK⟩ := hv
  have hx := B.exec
  have hb := B.bytes
  have hr := B.returns
  have hts := atoms_spec (ws := w_P_meetsNeed) B.pre
  have htb : ∀ w ∈ TBG, w.before [.ref (ad 1), .ref a, .int (nI d), .int (nI sf)].toArray s = true := fun w h => hts w (List.mem_cons_of_mem _ h)
  have hown : s.vm.findClass R_P = some m.cls := findClass_of_methodNamed B.named
  have hlocks := B.notSynchronized
  have hl := lv_entry ([.ref (ad 1), .ref a, .int (nI d), .int (nI sf)]) (n := 7) (Nat.le_of_ble_eq_true rfl)
  rw [lg_entry_eq]
  generalize (lg_sl ([.ref (ad 1), .ref a, .int (nI d), .int (nI sf)]) ++ List.replicate (7 - (lg_sl ([.ref (ad 1), .ref a, .int (nI d), .int (nI sf)])).length) Slot.unset).toArray = ls at hl ⊢
  have hl : lv_has ls 7 [(0, .ref (ad 1)), (1, .ref a), (2, .int (nI d)), (3, .int (nI sf))] := hl
  obtain ⟨h00, h01, h02, h03, h04, h05, hp1, hp2, hp3, hp4, hp5, hp6⟩ := id hP0
  refine nr_iconst hx hb 0 d_P_meetsNeed_0 (by decide) ?_
  refine lv_istore (lv' := [(4, .int (nI 0)), (0, .ref (ad 1)), (1, .ref a), (2, .int (nI d)), (3, .int (nI sf))]) hx hb d_P_meetsNeed_1 hl (by decide) rfl (fun ls hl => ?_)
  refine nr_iconst hx hb 0 d_P_meetsNeed_3 (by decide) ?_
  refine lv_istore (lv' := [(5, .int (nI 0)), (4, .int (nI 0)), (0, .ref (ad 1)), (1, .ref a), (2, .int (nI d)), (3, .int (nI sf))]) hx hb d_P_meetsNeed_4 hl (by decide) rfl (fun ls hl => ?_)
  refine nr_iconst hx hb 0 d_P_meetsNeed_6 (by decide) ?_
  refine lv_istore (lv' := [(6, .int (nI 0)), (5, .int (nI 0)), (4, .int (nI 0)), (0, .ref (ad 1)), (1, .ref a), (2, .int (nI d)), (3, .int (nI sf))]) hx hb d_P_meetsNeed_7 hl (by decide) rfl (fun ls hl => ?_)
  replace hl : ∃ k i th sk : Nat, (i + k = P 0 0) ∧ (th ≤ i) ∧ (sk < 16) ∧ (mt P sh d sf k i th sk = mt P sh d sf (P 0 0) 0 0 0) ∧ lv_has ls 7 [(0, .ref (ad 1)), (1, .ref a), (2, .int (nI d)), (3, .int (nI sf)), (4, .int (nI th)), (5, .int (nI sk)), (6, .int (nI i))] := ⟨P 0 0, 0, 0, 0, Nat.zero_add _, Nat.le_refl 0, by decide, rfl, lv_sub hl [3, 4, 5, 6, 2, 1, 0] rfl⟩
  obtain ⟨k, i, th, sk, hk, hth, hsk, hres, hl⟩ := hl
  induction k generalizing i th sk ls with
  | zero =>
    refine lv_iload hx hb d_P_meetsNeed_9 (lv_at hl 6 rfl) ?_
    refine lv_aload_n hx hb d_P_meetsNeed_11 rfl (lv_at hl 0 rfl) ?_
    refine va_get (D := D) (ci := 0) (v := .int (nI (P 0 0))) (C := R_P) (T := F_P) (N := 12) hx hb htb u_P hown hK hP 0 rfl rfl 0 (by decide) (htb _ q28) (fun _ h9 => h9) rfl d_P_meetsNeed_12 ?_
    refine nr_icmp_ge (tgt := 51) hx hb (by omega) (by omega) d_P_meetsNeed_15 (by decide) (fun c_15 => ?_) (fun c_15 => by exfalso; omega)
    rw [mt] at hres
    have hr1 : (mt P sh d sf (P 0 0) 0 0 0).1 = th := by rw [← hres]
    have hr2 : (mt P sh d sf (P 0 0) 0 0 0).2 = sk := by rw [← hres]
    refine lv_aload_n hx hb d_P_meetsNeed_51 rfl (lv_at hl 0 rfl) ?_
    refine va_get (D := D) (ci := 0) (v := .ref (ad 6)) (C := R_P) (T := F_P) (N := 12) hx hb htb u_P hown hK hP 0 rfl rfl 9 (by decide) (htb _ q44) (fun _ h9 => h9) rfl d_P_meetsNeed_52 ?_
    refine lv_iload_n hx hb d_P_meetsNeed_55 rfl (lv_at hl 2 rfl) ?_
    refine lv_iload_n hx hb d_P_meetsNeed_56 rfl (lv_at hl 3 rfl) ?_
    refine nr_calli (va_runSN (As := [.int (nI d), .int (nI sf)]) (rest := [.ref (ad 6)]) ⟨hx, hb, hml, hown, hts⟩ (c_R_slot l D d sf) ⟨va_cnB 2 hts (gTB q_R_slot) rfl rfl rfl (hN.nw q176 rfl) (htb _ q1) hd_R_slot ⟨Nat.le_of_ble_eq_true rfl, Nat.le_of_ble_eq_true rfl⟩, (htb _ q177), trivial⟩ ⟨ro_blind, ro_pre hN (hP.sub (ws' := []) [] rfl) (hK.sub (tys' := []) [] rfl)⟩ rfl rfl hl.1 rfl (lv_room (Nat.le_of_ble_eq_true rfl)) d_P_meetsNeed_57 ⟨Nat.le_of_ble_eq_true rfl, Nat.le_of_ble_eq_true rfl⟩) (fun r_1 hr_1 => ?_)
    subst hr_1
    refine nr_iald hx hb hK hP 4 3 rfl rfl (by omega) (by decide) d_P_meetsNeed_60 ?_
    have hv_2 := hp4 (d * 4 + sf)
    refine lv_istore (lv' := [(6, .int (nI (P 4 (d * 4 + sf)))), (0, .ref (ad 1)), (1, .ref a), (2, .int (nI d)), (3, .int (nI sf)), (4, .int (nI th)), (5, .int (nI sk))]) hx hb d_P_meetsNeed_61 hl (by decide) rfl (fun ls hl => ?_)
    refine lv_iload hx hb d_P_meetsNeed_63 (lv_at hl 5 rfl) ?_
    refine lv_aload_n hx hb d_P_meetsNeed_65 rfl (lv_at hl 1 rfl) ?_
    refine va_get (D := D) (ci := 0) (v := .ref (ad 5)) (C := R_P) (T := F_P) (N := 12) hx hb htb u_P hown hK hP 0 rfl rfl 8 (by decide) (htb _ q43) (fun _ h9 => h9) rfl d_P_meetsNeed_66 ?_
    refine lv_iload_n hx hb d_P_meetsNeed_69 rfl (lv_at hl 3 rfl) ?_
    refine lv_iload_n hx hb d_P_meetsNeed_70 rfl (lv_at hl 4 rfl) ?_
    refine nr_calli (va_runSN (As := [.int (nI d), .int (nI sf)]) (rest := [.ref (ad 5), .int (nI th)]) ⟨hx, hb, hml, hown, hts⟩ (c_R_slot l D d sf) ⟨va_cnB 2 hts (gTB q_R_slot) rfl rfl rfl (hN.nw q176 rfl) (htb _ q1) hd_R_slot ⟨Nat.le_of_ble_eq_true rfl, Nat.le_of_ble_eq_true rfl⟩, (htb _ q177), trivial⟩ ⟨ro_blind, ro_pre hN (hP.sub (ws' := []) [] rfl) (hK.sub (tys' := []) [] rfl)⟩ rfl rfl hl.1 rfl (lv_room (Nat.le_of_ble_eq_true rfl)) d_P_meetsNeed_71 ⟨Nat.le_of_ble_eq_true rfl, Nat.le_of_ble_eq_true rfl⟩) (fun r_3 hr_3 => ?_)
    subst hr_3
    refine nr_iald hx hb hK hP 3 2 rfl rfl (by omega) (by decide) d_P_meetsNeed_74 ?_
    have hv_4 := hp3 (d * 4 + sf)
    refine nr_icmp_lt (tgt := 92) hx hb (by omega) (by omega) d_P_meetsNeed_75 (by decide) (fun c_75 => ?_) (fun c_75 => ?_)
    · refine nr_iconst hx hb 0 d_P_meetsNeed_92 (by decide) ?_
      exact W.zret (v := (nI 0)) hx hb hr rfl (fun t ht hW => ⟨_, rfl, by unfold meets; rw [hr1, hr2, if_neg (by simp; omega)], ht⟩) (fun q h => by cases h) d_P_meetsNeed_93
    · refine lv_iload hx hb d_P_meetsNeed_78 (lv_at hl 6 rfl) ?_
      refine lv_iload hx hb d_P_meetsNeed_80 (lv_at hl 0 rfl) ?_
      refine nr_iand hx hb d_P_meetsNeed_82 ?_
      refine lv_iload hx hb d_P_meetsNeed_83 (lv_at hl 0 rfl) ?_
      refine nr_icmp_ne (tgt := 92) hx hb (Nat.lt_of_le_of_lt Nat.and_le_left (by omega)) (by omega) d_P_meetsNeed_85 (by decide) (fun c_85 => ?_) (fun c_85 => ?_)
      · refine nr_iconst hx hb 0 d_P_meetsNeed_92 (by decide) ?_
        exact W.zret (v := (nI 0)) hx hb hr rfl (fun t ht hW => ⟨_, rfl, by unfold meets; rw [hr1, hr2, if_neg (by simp; omega)], ht⟩) (fun q h => by cases h) d_P_meetsNeed_93
      · refine nr_iconst hx hb 1 d_P_meetsNeed_88 (by decide) ?_
        refine lv_goto (tgt := 93) hx hb d_P_meetsNeed_89 (by decide) ?_
        exact W.zret (v := (nI 1)) hx hb hr rfl (fun t ht hW => ⟨_, rfl, by unfold meets; rw [hr1, hr2, if_pos (by simp; omega)], ht⟩) (fun q h => by cases h) d_P_meetsNeed_93
  | succ k ih_9 =>
    refine lv_iload hx hb d_P_meetsNeed_9 (lv_at hl 6 rfl) ?_
    refine lv_aload_n hx hb d_P_meetsNeed_11 rfl (lv_at hl 0 rfl) ?_
    refine va_get (D := D) (ci := 0) (v := .int (nI (P 0 0))) (C := R_P) (T := F_P) (N := 12) hx hb htb u_P hown hK hP 0 rfl rfl 0 (by decide) (htb _ q28) (fun _ h9 => h9) rfl d_P_meetsNeed_12 ?_
    refine nr_icmp_ge (tgt := 51) hx hb (by omega) (by omega) d_P_meetsNeed_15 (by decide) (fun c_15 => by exfalso; omega) (fun c_15 => ?_)
    refine lv_aload_n hx hb d_P_meetsNeed_18 rfl (lv_at hl 1 rfl) ?_
    refine lv_iload hx hb d_P_meetsNeed_19 (lv_at hl 6 rfl) ?_
    refine lv_iload_n hx hb d_P_meetsNeed_21 rfl (lv_at hl 2 rfl) ?_
    refine nr_calli (va_runSN (As := [.int (nI i), .int (nI d)]) (rest := [.ref a]) ⟨hx, hb, hml, hown, hts⟩ (c_R_cell l D i d) ⟨va_cnB 2 hts (gTB q_R_cell) rfl rfl rfl (hN.nw q173 rfl) (htb _ q1) hd_R_cell ⟨Nat.le_of_ble_eq_true rfl, Nat.le_of_ble_eq_true rfl⟩, (htb _ q174), trivial⟩ ⟨ro_blind, ro_pre hN (hP.sub (ws' := []) [] rfl) (hK.sub (tys' := []) [] rfl)⟩ rfl rfl hl.1 rfl (lv_room (Nat.le_of_ble_eq_true rfl)) d_P_meetsNeed_22 ⟨Nat.le_of_ble_eq_true rfl, Nat.le_of_ble_eq_true rfl⟩) (fun r_5 hr_5 => ?_)
    subst hr_5
    refine nr_iald hx hb hK hP 7 6 rfl rfl (by omega) (by decide) d_P_meetsNeed_25 ?_
    have hv_6 := hsh (d * 6 + i)
    refine lv_iload_n hx hb d_P_meetsNeed_26 rfl (lv_at hl 3 rfl) ?_
    refine nr_icmp_ne (tgt := 45) hx hb (by omega) (by omega) d_P_meetsNeed_27 (by decide) (fun c_27 => ?_) (fun c_27 => ?_)
    · refine nr_iinc (k := 6) (lv' := [(6, .int (nI (i + 1))), (0, .ref (ad 1)), (1, .ref a), (2, .int (nI d)), (3, .int (nI sf)), (4, .int (nI th)), (5, .int (nI sk))]) hx hb d_P_meetsNeed_45 hl rfl (by decide) rfl (fun ls hl => ?_)
      refine lv_goto (tgt := 9) hx hb d_P_meetsNeed_48 (by decide) ?_
      exact ih_9 _ _ _ _ (by omega) (by omega) hsk (by rw [← hres, mt, if_neg c_27]) (lv_sub hl [1, 2, 3, 4, 5, 6, 0] rfl)
    · refine nr_iinc (k := 4) (lv' := [(4, .int (nI (th + 1))), (0, .ref (ad 1)), (1, .ref a), (2, .int (nI d)), (3, .int (nI sf)), (5, .int (nI sk)), (6, .int (nI i))]) hx hb d_P_meetsNeed_30 hl rfl (by decide) rfl (fun ls hl => ?_)
      refine lv_iload hx hb d_P_meetsNeed_33 (lv_at hl 5 rfl) ?_
      refine lv_aload_n hx hb d_P_meetsNeed_35 rfl (lv_at hl 1 rfl) ?_
      refine va_get (D := D) (ci := 0) (v := .ref (ad 3)) (C := R_P) (T := F_P) (N := 12) hx hb htb u_P hown hK hP 0 rfl rfl 6 (by decide) (htb _ q41) (fun _ h9 => h9) rfl d_P_meetsNeed_36 ?_
      refine lv_iload hx hb d_P_meetsNeed_39 (lv_at hl 6 rfl) ?_
      refine nr_iald hx hb hK hP 1 0 rfl rfl (by omega) (by decide) d_P_meetsNeed_41 ?_
      have hv_7 := hp1 i
      refine nr_ior hx hb d_P_meetsNeed_42 ?_
      refine lv_istore (lv' := [(5, .int (nI (sk ||| (P 1 i)))), (4, .int (nI (th + 1))), (0, .ref (ad 1)), (1, .ref a), (2, .int (nI d)), (3, .int (nI sf)), (6, .int (nI i))]) hx hb d_P_meetsNeed_43 hl (by decide) rfl (fun ls hl => ?_)
      refine nr_iinc (k := 6) (lv' := [(6, .int (nI (i + 1))), (5, .int (nI (sk ||| (P 1 i)))), (4, .int (nI (th + 1))), (0, .ref (ad 1)), (1, .ref a), (2, .int (nI d)), (3, .int (nI sf))]) hx hb d_P_meetsNeed_45 hl rfl (by decide) rfl (fun ls hl => ?_)
      refine lv_goto (tgt := 9) hx hb d_P_meetsNeed_48 (by decide) ?_
      exact ih_9 _ _ _ _ (by omega) (by omega) (mt_lt hsk (hp1 i)) (by rw [← hres, mt, if_pos c_27]) (lv_sub hl [3, 4, 5, 6, 2, 1, 0] rfl)
set_option maxHeartbeats 4000000 in
set_option maxRecDepth 100000 in
theorem c_P_firstNeedUnmet (l : Launch) (D : va_G) (ad : Nat → Nat) (ca : Nat → ClassId) (P : Nat → Nat → Nat) (a : Nat) (cS : ClassId) (sh : Nat → Nat) (hP0 : okP P) (hsh : ∀ k, sh k ≤ 3) (d : Nat) (hd : d < 7) : Met l y_P_firstNeedUnmet w_P_firstNeedUnmet { frames := 2, cells := 0, slots := 0, locals := 47 } (ro_P [.ref (ad 1), .ref a, .int (nI d)] D (wPS ad ca P a cS sh) (tPS ca cS)) (vp_Si (fun r => r = nI (needUnmet P sh d))) 0 0 (fun _ => False) := by
  refine Met.ofW (cc := b_P_firstNeedUnmet) (maxL := 4) (ret := (some .int)) (by decide) rfl ?_
  intro p e s m args below meth c s₁ B hml hv
  obtain ⟨rfl, hN, hP, hK⟩ := hv
  have hx := B.exec
  have hb := B.bytes
  have hr := B.returns
  have hts := atoms_spec (ws := w_P_firstNeedUnmet) B.pre
  have htb : ∀ w ∈ TBG, w.before [.ref (ad 1), .ref a, .int (nI d)].toArray s = true := fun w h => hts w (List.mem_cons_of_mem _ h)
  have hown : s.vm.findClass R_P = some m.cls := findClass_of_methodNamed B.named
  have hlocks := B.notSynchronized
  have hl := lv_entry ([.ref (ad 1), .ref a, .int (nI d)]) (n := 4) (Nat.le_of_ble_eq_true rfl)
  rw [lg_entry_eq]
  generalize (lg_sl ([.ref (ad 1), .ref a, .int (nI d)]) ++ List.replicate (4 - (lg_sl ([.ref (ad 1), .ref a, .int (nI d)])).length) Slot.unset).toArray = ls at hl ⊢
  have hl : lv_has ls 4 [(0, .ref (ad 1)), (1, .ref a), (2, .int (nI d))] := hl
  obtain ⟨h00, h01, h02, h03, h04, h05, hp1, hp2, hp3, hp4, hp5, hp6⟩ := id hP0
  refine nr_iconst hx hb 1 d_P_firstNeedUnmet_0 (by decide) ?_
  refine lv_istore_n (lv' := [(3, .int (nI 1)), (0, .ref (ad 1)), (1, .ref a), (2, .int (nI d))]) hx hb d_P_firstNeedUnmet_1 rfl hl (by decide) rfl (fun ls hl => ?_)
  replace hl : ∃ k i : Nat, (i + k = 4) ∧ (1 ≤ i) ∧ (nu P sh d k i = needUnmet P sh d) ∧ lv_has ls 4 [(0, .ref (ad 1)), (1, .ref a), (2, .int (nI d)), (3, .int (nI i))] := ⟨3, 1, rfl, Nat.le_refl 1, rfl, lv_sub hl [1, 2, 3, 0] rfl⟩
  obtain ⟨k, i, hk, hi, hres, hl⟩ := hl
  induction k generalizing i ls with
  | zero =>
    refine lv_iload_n hx hb d_P_firstNeedUnmet_2 rfl (lv_at hl 3 rfl) ?_
    refine nr_iconst hx hb 3 d_P_firstNeedUnmet_3 (by decide) ?_
    refine nr_icmp_gt (tgt := 25) hx hb (by omega) (by omega) d_P_firstNeedUnmet_4 (by decide) (fun c_4 => ?_) (fun c_4 => by exfalso; omega)
    refine nr_iconst hx hb 0 d_P_firstNeedUnmet_25 (by decide) ?_
    exact W.iret (v := (nI 0)) hx hb hr (fun t ht hW => ⟨_, rfl, by rw [← hres, nu], ht⟩) (fun q h => by cases h) d_P_firstNeedUnmet_26
  | succ k ih_2 =>
    refine lv_iload_n hx hb d_P_firstNeedUnmet_2 rfl (lv_at hl 3 rfl) ?_
    refine nr_iconst hx hb 3 d_P_firstNeedUnmet_3 (by decide) ?_
    refine nr_icmp_gt (tgt := 25) hx hb (by omega) (by omega) d_P_firstNeedUnmet_4 (by decide) (fun c_4 => by exfalso; omega) (fun c_4 => ?_)
    refine lv_aload_n hx hb d_P_firstNeedUnmet_7 rfl (lv_at hl 0 rfl) ?_
    refine lv_aload_n hx hb d_P_firstNeedUnmet_8 rfl (lv_at hl 1 rfl) ?_
    refine lv_iload_n hx hb d_P_firstNeedUnmet_9 rfl (lv_at hl 2 rfl) ?_
    refine lv_iload_n hx hb d_P_firstNeedUnmet_10 rfl (lv_at hl 3 rfl) ?_
    refine nr_calli (va_runV (As := [.ref a, .int (nI d), .int (nI i)]) (rest := []) ⟨hx, hb, hml, hown, hts⟩ (c_P_meetsNeed l D ad ca P a cS sh hP0 hsh d i (by omega) (by omega)) ⟨callB_of 3 hts (gTB q_P_meetsNeed) rfl rfl rfl (htb _ q2) (htb _ q169) hd_P_meetsNeed ⟨Nat.le_of_ble_eq_true rfl, Nat.le_of_ble_eq_true rfl⟩, (htb _ q171), (htb _ sel_P_meetsNeed)⟩ ⟨ro_blind, va_recv (hK.sub (tys' := []) [] rfl) hP (ci := 0) (q0 := 0) rfl rfl, ro_pre hN (hP.sub (ws' := (wPS ad ca P a cS sh)) [0, 1, 2, 3, 4, 5, 6, 7] rfl) (hK.sub (tys' := (tPS ca cS)) [0, 1, 2, 3, 4, 5, 6] rfl)⟩ rfl rfl hl.1 rfl (lv_room (Nat.le_of_ble_eq_true rfl)) d_P_firstNeedUnmet_11 ⟨Nat.le_of_ble_eq_true rfl, Nat.le_of_ble_eq_true rfl⟩) (fun r_1 hr_1 => ?_)
    subst hr_1
    refine nr_if_ne (tgt := 19) hx hb b01_lt d_P_firstNeedUnmet_14 (by decide) (fun c_14 => ?_) (fun c_14 => ?_)
    · refine nr_iinc (k := 3) (lv' := [(3, .int (nI (i + 1))), (0, .ref (ad 1)), (1, .ref a), (2, .int (nI d))]) hx hb d_P_firstNeedUnmet_19 hl rfl (by decide) rfl (fun ls hl => ?_)
      refine lv_goto (tgt := 2) hx hb d_P_firstNeedUnmet_22 (by decide) ?_
      exact ih_2 _ _ (by omega) (by omega) (by rw [← hres, nu, if_pos (b01_nz c_14)]) (lv_sub hl [1, 2, 3, 0] rfl)
    · refine lv_iload_n hx hb d_P_firstNeedUnmet_17 rfl (lv_at hl 3 rfl) ?_
      exact W.iret (v := (nI i)) hx hb hr (fun t ht hW => ⟨_, rfl, by rw [← hres, nu, if_neg (b01_z c_14)], ht⟩) (fun q h => by cases h) d_P_firstNeedUnmet_18
set_option maxHeartbeats 4000000 in
set_option maxRecDepth 100000 in
theorem c_P_firstNeedFault (l : Launch) (D : va_G) (ad : Nat → Nat) (ca : Nat → ClassId) (P : Nat → Nat → Nat) (a : Nat) (cS : ClassId) (sh : Nat → Nat) (hP0 : okP P) (hsh : ∀ k, sh k ≤ 3) : Met l y_P_firstNeedFault w_P_firstNeedFault { frames := 3, cells := 0, slots := 0, locals := 70 } (ro_P [.ref (ad 1), .ref a] D (wPS ad ca P a cS sh) (tPS ca cS)) (vp_Si (fun r => r = nI (needFault P sh))) 0 0 (fun _ => False) := by
  refine Met.ofW (cc := b_P_firstNeedFault) (maxL := 4) (ret := (some .int)) (by decide) rfl ?_
  intro p e s m args below meth c s₁ B hml hv
  obtain ⟨rfl, hN, hP, hK⟩ := hv
  have hx := B.exec
  have hb := B.bytes
  have hr := B.returns
  have hts := atoms_spec (ws := w_P_firstNeedFault) B.pre
  have htb : ∀ w ∈ TBG, w.before [.ref (ad 1), .ref a].toArray s = true := fun w h => hts w (List.mem_cons_of_mem _ h)
  have hown : s.vm.findClass R_P = some m.cls := findClass_of_methodNamed B.named
  have hlocks := B.notSynchronized
  have hl := lv_entry ([.ref (ad 1), .ref a]) (n := 4) (Nat.le_of_ble_eq_true rfl)
  rw [lg_entry_eq]
  generalize (lg_sl ([.ref (ad 1), .ref a]) ++ List.replicate (4 - (lg_sl ([.ref (ad 1), .ref a])).length) Slot.unset).toArray = ls at hl ⊢
  have hl : lv_has ls 4 [(0, .ref (ad 1)), (1, .ref a)] := hl
  obtain ⟨h00, h01, h02, h03, h04, h05, hp1, hp2, hp3, hp4, hp5, hp6⟩ := id hP0
  refine nr_iconst hx hb 0 d_P_firstNeedFault_0 (by decide) ?_
  refine lv_istore_n (lv' := [(2, .int (nI 0)), (0, .ref (ad 1)), (1, .ref a)]) hx hb d_P_firstNeedFault_1 rfl hl (by decide) rfl (fun ls hl => ?_)
  replace hl : ∃ k d : Nat, (d + k = P 0 1) ∧ (nf P sh k d = needFault P sh) ∧ lv_has ls 4 [(0, .ref (ad 1)), (1, .ref a), (2, .int (nI d))] := ⟨P 0 1, 0, Nat.zero_add _, rfl, lv_sub hl [1, 2, 0] rfl⟩
  obtain ⟨k, d, hk, hres, hl⟩ := hl
  induction k generalizing d ls with
  | zero =>
    refine lv_iload_n hx hb d_P_firstNeedFault_2 rfl (lv_at hl 2 rfl) ?_
    refine lv_aload_n hx hb d_P_firstNeedFault_3 rfl (lv_at hl 0 rfl) ?_
    refine va_get (D := D) (ci := 0) (v := .int (nI (P 0 1))) (C := R_P) (T := F_P) (N := 12) hx hb htb u_P hown hK hP 0 rfl rfl 1 (by decide) (htb _ q31) (fun _ h9 => h9) rfl d_P_firstNeedFault_4 ?_
    refine nr_icmp_ge (tgt := 34) hx hb (by omega) (by omega) d_P_firstNeedFault_7 (by decide) (fun c_7 => ?_) (fun c_7 => by exfalso; omega)
    refine nr_iconst hx hb 0 d_P_firstNeedFault_34 (by decide) ?_
    exact W.iret (v := (nI 0)) hx hb hr (fun t ht hW => ⟨_, rfl, by rw [← hres, nf], ht⟩) (fun q h => by cases h) d_P_firstNeedFault_35
  | succ k ih_2 =>
    refine lv_iload_n hx hb d_P_firstNeedFault_2 rfl (lv_at hl 2 rfl) ?_
    refine lv_aload_n hx hb d_P_firstNeedFault_3 rfl (lv_at hl 0 rfl) ?_
    refine va_get (D := D) (ci := 0) (v := .int (nI (P 0 1))) (C := R_P) (T := F_P) (N := 12) hx hb htb u_P hown hK hP 0 rfl rfl 1 (by decide) (htb _ q31) (fun _ h9 => h9) rfl d_P_firstNeedFault_4 ?_
    refine nr_icmp_ge (tgt := 34) hx hb (by omega) (by omega) d_P_firstNeedFault_7 (by decide) (fun c_7 => by exfalso; omega) (fun c_7 => ?_)
    refine lv_aload_n hx hb d_P_firstNeedFault_10 rfl (lv_at hl 0 rfl) ?_
    refine lv_aload_n hx hb d_P_firstNeedFault_11 rfl (lv_at hl 1 rfl) ?_
    refine lv_iload_n hx hb d_P_firstNeedFault_12 rfl (lv_at hl 2 rfl) ?_
    refine nr_calli (va_runV (As := [.ref a, .int (nI d)]) (rest := []) ⟨hx, hb, hml, hown, hts⟩ (c_P_firstNeedUnmet l D ad ca P a cS sh hP0 hsh d (by omega)) ⟨callB_of 2 hts (gTB q_P_firstNeedUnmet) rfl rfl rfl (htb _ q2) (htb _ q165) hd_P_firstNeedUnmet ⟨Nat.le_of_ble_eq_true rfl, Nat.le_of_ble_eq_true rfl⟩, (htb _ q167), (htb _ sel_P_firstNeedUnmet)⟩ ⟨ro_blind, va_recv (hK.sub (tys' := []) [] rfl) hP (ci := 0) (q0 := 0) rfl rfl, ro_pre hN (hP.sub (ws' := (wPS ad ca P a cS sh)) [0, 1, 2, 3, 4, 5, 6, 7] rfl) (hK.sub (tys' := (tPS ca cS)) [0, 1, 2, 3, 4, 5, 6] rfl)⟩ rfl rfl hl.1 rfl (lv_room (Nat.le_of_ble_eq_true rfl)) d_P_firstNeedFault_13 ⟨Nat.le_of_ble_eq_true rfl, Nat.le_of_ble_eq_true rfl⟩) (fun r_1 hr_1 => ?_)
    subst hr_1
    refine lv_istore_n (lv' := [(3, .int (nI (needUnmet P sh d))), (0, .ref (ad 1)), (1, .ref a), (2, .int (nI d))]) hx hb d_P_firstNeedFault_16 rfl hl (by decide) rfl (fun ls hl => ?_)
    refine lv_iload_n hx hb d_P_firstNeedFault_17 rfl (lv_at hl 0 rfl) ?_
    refine nr_if_eq (tgt := 28) hx hb (Nat.lt_of_le_of_lt (needUnmet_le P sh d) (by decide)) d_P_firstNeedFault_18 (by decide) (fun c_18 => ?_) (fun c_18 => ?_)
    · refine nr_iinc (k := 3) (lv' := [(2, .int (nI (d + 1))), (3, .int (nI (needUnmet P sh d))), (0, .ref (ad 1)), (1, .ref a)]) hx hb d_P_firstNeedFault_28 hl rfl (by decide) rfl (fun ls hl => ?_)
      refine lv_goto (tgt := 2) hx hb d_P_firstNeedFault_31 (by decide) ?_
      exact ih_2 _ _ (by omega) (by rw [← hres, nf, if_pos c_18]) (lv_sub hl [2, 3, 0] rfl)
    · refine nr_iconst hx hb 1 d_P_firstNeedFault_21 (by decide) ?_
      refine lv_iload_n hx hb d_P_firstNeedFault_22 rfl (lv_at hl 0 rfl) ?_
      refine lv_iload_n hx hb d_P_firstNeedFault_23 rfl (lv_at hl 3 rfl) ?_
      refine nr_calli (va_runS (As := [.int (nI 1), .int (nI (needUnmet P sh d)), .int (nI d)]) (rest := []) ⟨hx, hb, hml, hown, hts⟩ (c_P_faultNumber l D 1 (needUnmet P sh d) d) ⟨callB_of 3 hts (gTB q_P_faultNumber) rfl rfl rfl (htb _ q2) (htb _ q179) hd_P_faultNumber ⟨Nat.le_of_ble_eq_true rfl, Nat.le_of_ble_eq_true rfl⟩, (htb _ q180)⟩ ⟨ro_blind, ro_pre hN (hP.sub (ws' := []) [] rfl) (hK.sub (tys' := []) [] rfl)⟩ rfl rfl hl.1 rfl (lv_room (Nat.le_of_ble_eq_true rfl)) d_P_firstNeedFault_24 ⟨Nat.le_of_ble_eq_true rfl, Nat.le_of_ble_eq_true rfl⟩) (fun r_2 hr_2 => ?_)
      subst hr_2
      exact W.iret (v := (nI (100 * 1 + 10 * (needUnmet P sh d) + d))) hx hb hr (fun t ht hW => ⟨_, rfl, by rw [← hres, nf, if_neg c_18], ht⟩) (fun q h => by cases h) d_P_firstNeedFault_27
end
section
set_option maxHeartbeats 4000000 in
set_option maxRecDepth 100000 in
theorem c_P_firstRestFault (l : Launch) (D : va_G) (ad : Nat → Nat) (ca : Nat → ClassId) (P : Nat → Nat → Nat) (a : Nat) (cS : ClassId) (sh : Nat → Nat) (hP0 : okP P) (hsh : ∀ k, sh k ≤ 3) : Met l y_P_firstRestFault w_P_firstRestFault { frames := 2, cells := 0, slots := 0, locals := 43 } (ro_P [.ref (ad 1), .ref a] D (wPS ad ca P a cS sh) (tPS ca cS)) (vp_Si (fun r => r = nI (restFault P sh))) 0 0 (fun _ => False) := by
  refine Met.ofW (cc := b_P_firstRestFault) (maxL := 4) (ret := (some .int)) (by decide) rfl ?_
  intro p e s m args below meth c s₁ B hml hv
  obtain ⟨rfl, hN, hP, hK⟩ := hv
  have hx := B.exec
  have hb := B.bytes
  have hr := B.returns
  have hts := atoms_spec (ws := w_P_firstRestFault) B.pre
  have htb : ∀ w ∈ TBG, w.before [.ref (ad 1), .ref a].toArray s = true := fun w h => hts w (List.mem_cons_of_mem _ h)
  have hown : s.vm.findClass R_P = some m.cls := findClass_of_methodNamed B.named
  have hlocks := B.notSynchronized
  have hl := lv_entry ([.ref (ad 1), .ref a]) (n := 4) (Nat.le_of_ble_eq_true rfl)
  rw [lg_entry_eq]
  generalize (lg_sl ([.ref (ad 1), .ref a]) ++ List.replicate (4 - (lg_sl ([.ref (ad 1), .ref a])).length) Slot.unset).toArray = ls at hl ⊢
  have hl : lv_has ls 4 [(0, .ref (ad 1)), (1, .ref a)] := hl
  obtain ⟨h00, h01, h02, h03, h04, h05, hp1, hp2, hp3, hp4, hp5, hp6⟩ := id hP0
  refine nr_iconst hx hb 0 d_P_firstRestFault_0 (by decide) ?_
  refine lv_istore_n (lv' := [(2, .int (nI 0)), (0, .ref (ad 1)), (1, .ref a)]) hx hb d_P_firstRestFault_1 rfl hl (by decide) rfl (fun ls hl => ?_)
  replace hl : ∃ k p1 : Nat, (p1 + k = P 0 0) ∧ (rf P sh k p1 = restFault P sh) ∧ lv_has ls 4 [(0, .ref (ad 1)), (1, .ref a), (2, .int (nI p1))] := ⟨P 0 0, 0, Nat.zero_add _, rfl, lv_sub hl [1, 2, 0] rfl⟩
  obtain ⟨k, p1, hk, hres, hl⟩ := hl
  induction k generalizing p1 ls with
  | zero =>
    refine lv_iload_n hx hb d_P_firstRestFault_2 rfl (lv_at hl 2 rfl) ?_
    refine lv_aload_n hx hb d_P_firstRestFault_3 rfl (lv_at hl 0 rfl) ?_
    refine va_get (D := D) (ci := 0) (v := .int (nI (P 0 0))) (C := R_P) (T := F_P) (N := 12) hx hb htb u_P hown hK hP 0 rfl rfl 0 (by decide) (htb _ q28) (fun _ h9 => h9) rfl d_P_firstRestFault_4 ?_
    refine nr_icmp_ge (tgt := 62) hx hb (by omega) (by omega) d_P_firstRestFault_7 (by decide) (fun c_7 => ?_) (fun c_7 => by exfalso; omega)
    refine nr_iconst hx hb 0 d_P_firstRestFault_62 (by decide) ?_
    exact W.iret (v := (nI 0)) hx hb hr (fun t ht hW => ⟨_, rfl, by rw [← hres, rf], ht⟩) (fun q h => by cases h) d_P_firstRestFault_63
  | succ k ih_2 =>
    refine lv_iload_n hx hb d_P_firstRestFault_2 rfl (lv_at hl 2 rfl) ?_
    refine lv_aload_n hx hb d_P_firstRestFault_3 rfl (lv_at hl 0 rfl) ?_
    refine va_get (D := D) (ci := 0) (v := .int (nI (P 0 0))) (C := R_P) (T := F_P) (N := 12) hx hb htb u_P hown hK hP 0 rfl rfl 0 (by decide) (htb _ q28) (fun _ h9 => h9) rfl d_P_firstRestFault_4 ?_
    refine nr_icmp_ge (tgt := 62) hx hb (by omega) (by omega) d_P_firstRestFault_7 (by decide) (fun c_7 => by exfalso; omega) (fun c_7 => ?_)
    refine nr_iconst hx hb 1 d_P_firstRestFault_10 (by decide) ?_
    refine lv_istore_n (lv' := [(3, .int (nI 1)), (0, .ref (ad 1)), (1, .ref a), (2, .int (nI p1))]) hx hb d_P_firstRestFault_11 rfl hl (by decide) rfl (fun ls hl => ?_)
    replace hl : ∃ k2 d : Nat, (P 0 1 - d = k2) ∧ (1 ≤ d) ∧ (d ≤ 7) ∧ ((if rf1 P sh p1 k2 d = 0 then rf P sh k (p1 + 1) else rf1 P sh p1 k2 d) = restFault P sh) ∧ lv_has ls 4 [(0, .ref (ad 1)), (1, .ref a), (2, .int (nI p1)), (3, .int (nI d))] := ⟨P 0 1 - 1, 1, rfl, Nat.le_refl 1, by decide, (by rw [← hres, rf]), lv_sub hl [1, 2, 3, 0] rfl⟩
    obtain ⟨k2, d, hkd, hd1, hd8, hin, hl⟩ := hl
    induction k2 generalizing d ls with
    | zero =>
      refine lv_iload_n hx hb d_P_firstRestFault_12 rfl (lv_at hl 3 rfl) ?_
      refine lv_aload_n hx hb d_P_firstRestFault_13 rfl (lv_at hl 0 rfl) ?_
      refine va_get (D := D) (ci := 0) (v := .int (nI (P 0 1))) (C := R_P) (T := F_P) (N := 12) hx hb htb u_P hown hK hP 0 rfl rfl 1 (by decide) (htb _ q31) (fun _ h9 => h9) rfl d_P_firstRestFault_14 ?_
      refine nr_icmp_ge (tgt := 56) hx hb (by omega) (by omega) d_P_firstRestFault_17 (by decide) (fun c_17 => ?_) (fun c_17 => by exfalso; omega)
      refine nr_iinc (k := 2) (lv' := [(2, .int (nI (p1 + 1))), (0, .ref (ad 1)), (1, .ref a), (3, .int (nI d))]) hx hb d_P_firstRestFault_56 hl rfl (by decide) rfl (fun ls hl => ?_)
      refine lv_goto (tgt := 2) hx hb d_P_firstRestFault_59 (by decide) ?_
      exact ih_2 _ _ (by omega) (by rw [rf1, if_pos rfl] at hin; exact hin) (lv_sub hl [1, 2, 0] rfl)
    | succ k2 ih_12 =>
      refine lv_iload_n hx hb d_P_firstRestFault_12 rfl (lv_at hl 3 rfl) ?_
      refine lv_aload_n hx hb d_P_firstRestFault_13 rfl (lv_at hl 0 rfl) ?_
      refine va_get (D := D) (ci := 0) (v := .int (nI (P 0 1))) (C := R_P) (T := F_P) (N := 12) hx hb htb u_P hown hK hP 0 rfl rfl 1 (by decide) (htb _ q31) (fun _ h9 => h9) rfl d_P_firstRestFault_14 ?_
      refine nr_icmp_ge (tgt := 56) hx hb (by omega) (by omega) d_P_firstRestFault_17 (by decide) (fun c_17 => by exfalso; omega) (fun c_17 => ?_)
      refine lv_aload_n hx hb d_P_firstRestFault_20 rfl (lv_at hl 0 rfl) ?_
      refine lv_aload_n hx hb d_P_firstRestFault_21 rfl (lv_at hl 1 rfl) ?_
      refine lv_iload_n hx hb d_P_firstRestFault_22 rfl (lv_at hl 2 rfl) ?_
      refine lv_iload_n hx hb d_P_firstRestFault_23 rfl (lv_at hl 3 rfl) ?_
      refine nr_iconst hx hb 1 d_P_firstRestFault_24 (by decide) ?_
      refine nr_isub hx hb (by omega) d_P_firstRestFault_25 ?_
      refine nr_calli (va_runSN (As := [.int (nI p1), .int (nI (d - 1))]) (rest := [.ref a, .ref (ad 1)]) ⟨hx, hb, hml, hown, hts⟩ (c_R_cell l D p1 (d - 1)) ⟨va_cnB 2 hts (gTB q_R_cell) rfl rfl rfl (hN.nw q173 rfl) (htb _ q1) hd_R_cell ⟨Nat.le_of_ble_eq_true rfl, Nat.le_of_ble_eq_true rfl⟩, (htb _ q174), trivial⟩ ⟨ro_blind, ro_pre hN (hP.sub (ws' := []) [] rfl) (hK.sub (tys' := []) [] rfl)⟩ rfl rfl hl.1 rfl (lv_room (Nat.le_of_ble_eq_true rfl)) d_P_firstRestFault_26 ⟨Nat.le_of_ble_eq_true rfl, Nat.le_of_ble_eq_true rfl⟩) (fun r_1 hr_1 => ?_)
      subst hr_1
      refine nr_iald hx hb hK hP 7 6 rfl rfl (by omega) (by decide) d_P_firstRestFault_29 ?_
      have hv_2 := hsh ((d - 1) * 6 + p1)
      refine lv_aload_n hx hb d_P_firstRestFault_30 rfl (lv_at hl 1 rfl) ?_
      refine lv_iload_n hx hb d_P_firstRestFault_31 rfl (lv_at hl 2 rfl) ?_
      refine lv_iload_n hx hb d_P_firstRestFault_32 rfl (lv_at hl 3 rfl) ?_
      refine nr_calli (va_runSN (As := [.int (nI p1), .int (nI d)]) (rest := [.ref a, .int (nI (sh ((d - 1) * 6 + p1))), .ref (ad 1)]) ⟨hx, hb, hml, hown, hts⟩ (c_R_cell l D p1 d) ⟨va_cnB 2 hts (gTB q_R_cell) rfl rfl rfl (hN.nw q173 rfl) (htb _ q1) hd_R_cell ⟨Nat.le_of_ble_eq_true rfl, Nat.le_of_ble_eq_true rfl⟩, (htb _ q174), trivial⟩ ⟨ro_blind, ro_pre hN (hP.sub (ws' := []) [] rfl) (hK.sub (tys' := []) [] rfl)⟩ rfl rfl hl.1 rfl (lv_room (Nat.le_of_ble_eq_true rfl)) d_P_firstRestFault_33 ⟨Nat.le_of_ble_eq_true rfl, Nat.le_of_ble_eq_true rfl⟩) (fun r_3 hr_3 => ?_)
      subst hr_3
      refine nr_iald hx hb hK hP 7 6 rfl rfl (by omega) (by decide) d_P_firstRestFault_36 ?_
      have hv_4 := hsh (d * 6 + p1)
      refine nr_calli (va_runV (As := [.int (nI (sh ((d - 1) * 6 + p1))), .int (nI (sh (d * 6 + p1)))]) (rest := []) ⟨hx, hb, hml, hown, hts⟩ (c_P_breaksRest l D ad ca P a cS sh hP0 hsh (sh ((d - 1) * 6 + p1)) (sh (d * 6 + p1)) (by omega) (by omega)) ⟨callB_of 2 hts (gTB q_P_breaksRest) rfl rfl rfl (htb _ q2) (htb _ q186) hd_P_breaksRest ⟨Nat.le_of_ble_eq_true rfl, Nat.le_of_ble_eq_true rfl⟩, (htb _ q188), (htb _ sel_P_breaksRest)⟩ ⟨ro_blind, va_recv (hK.sub (tys' := []) [] rfl) hP (ci := 0) (q0 := 0) rfl rfl, ro_pre hN (hP.sub (ws' := (wPS ad ca P a cS sh)) [0, 1, 2, 3, 4, 5, 6, 7] rfl) (hK.sub (tys' := (tPS ca cS)) [0, 1, 2, 3, 4, 5, 6] rfl)⟩ rfl rfl hl.1 rfl (lv_room (Nat.le_of_ble_eq_true rfl)) d_P_firstRestFault_37 ⟨Nat.le_of_ble_eq_true rfl, Nat.le_of_ble_eq_true rfl⟩) (fun r_5 hr_5 => ?_)
      subst hr_5
      refine nr_if_eq (tgt := 50) hx hb b01_lt d_P_firstRestFault_40 (by decide) (fun c_40 => ?_) (fun c_40 => ?_)
      · refine nr_iinc (k := 3) (lv' := [(3, .int (nI (d + 1))), (0, .ref (ad 1)), (1, .ref a), (2, .int (nI p1))]) hx hb d_P_firstRestFault_50 hl rfl (by decide) rfl (fun ls hl => ?_)
        refine lv_goto (tgt := 12) hx hb d_P_firstRestFault_53 (by decide) ?_
        exact ih_12 _ _ (by omega) (by omega) (by omega) (by rw [rf1, if_neg (b01_z c_40)] at hin; exact hin) (lv_sub hl [1, 2, 3, 0] rfl)
      · refine nr_iconst hx hb 2 d_P_firstRestFault_43 (by decide) ?_
        refine lv_iload_n hx hb d_P_firstRestFault_44 rfl (lv_at hl 2 rfl) ?_
        refine lv_iload_n hx hb d_P_firstRestFault_45 rfl (lv_at hl 3 rfl) ?_
        refine nr_calli (va_runS (As := [.int (nI 2), .int (nI p1), .int (nI d)]) (rest := []) ⟨hx, hb, hml, hown, hts⟩ (c_P_faultNumber l D 2 p1 d) ⟨callB_of 3 hts (gTB q_P_faultNumber) rfl rfl rfl (htb _ q2) (htb _ q179) hd_P_faultNumber ⟨Nat.le_of_ble_eq_true rfl, Nat.le_of_ble_eq_true rfl⟩, (htb _ q180)⟩ ⟨ro_blind, ro_pre hN (hP.sub (ws' := []) [] rfl) (hK.sub (tys' := []) [] rfl)⟩ rfl rfl hl.1 rfl (lv_room (Nat.le_of_ble_eq_true rfl)) d_P_firstRestFault_46 ⟨Nat.le_of_ble_eq_true rfl, Nat.le_of_ble_eq_true rfl⟩) (fun r_6 hr_6 => ?_)
        subst hr_6
        exact W.iret (v := (nI (100 * 2 + 10 * p1 + d))) hx hb hr (fun t ht hW => ⟨_, rfl, by rw [rf1, if_pos (b01_nz c_40)] at hin; rw [← hin, if_neg (by omega)], ht⟩) (fun q h => by cases h) d_P_firstRestFault_49
set_option maxHeartbeats 4000000 in
set_option maxRecDepth 100000 in
theorem c_P_firstMostFault (l : Launch) (D : va_G) (ad : Nat → Nat) (ca : Nat → ClassId) (P : Nat → Nat → Nat) (a : Nat) (cS : ClassId) (sh : Nat → Nat) (hP0 : okP P) (hsh : ∀ k, sh k ≤ 3) : Met l y_P_firstMostFault w_P_firstMostFault { frames := 1, cells := 0, slots := 0, locals := 22 } (ro_P [.ref (ad 1), .ref a] D (wPS ad ca P a cS sh) (tPS ca cS)) (vp_Si (fun r => r = nI (mostFault P sh))) 0 0 (fun _ => False) := by
  refine Met.ofW (cc := b_P_firstMostFault) (maxL := 6) (ret := (some .int)) (by decide) rfl ?_
  intro p e s m args below meth c s₁ B hml hv
  obtain ⟨rfl, hN, hP, hK⟩ := hv
  have hx := B.exec
  have hb := B.bytes
  have hr := B.returns
  have hts := atoms_spec (ws := w_P_firstMostFault) B.pre
  have htb : ∀ w ∈ TBG, w.before [.ref (ad 1), .ref a].toArray s = true := fun w h => hts w (List.mem_cons_of_mem _ h)
  have hown : s.vm.findClass R_P = some m.cls := findClass_of_methodNamed B.named
  have hlocks := B.notSynchronized
  have hl := lv_entry ([.ref (ad 1), .ref a]) (n := 6) (Nat.le_of_ble_eq_true rfl)
  rw [lg_entry_eq]
  generalize (lg_sl ([.ref (ad 1), .ref a]) ++ List.replicate (6 - (lg_sl ([.ref (ad 1), .ref a])).length) Slot.unset).toArray = ls at hl ⊢
  have hl : lv_has ls 6 [(0, .ref (ad 1)), (1, .ref a)] := hl
  obtain ⟨h00, h01, h02, h03, h04, h05, hp1, hp2, hp3, hp4, hp5, hp6⟩ := id hP0
  refine nr_iconst hx hb 0 d_P_firstMostFault_0 (by decide) ?_
  refine lv_istore_n (lv' := [(2, .int (nI 0)), (0, .ref (ad 1)), (1, .ref a)]) hx hb d_P_firstMostFault_1 rfl hl (by decide) rfl (fun ls hl => ?_)
  replace hl : ∃ k p1 : Nat, (p1 + k = P 0 0) ∧ (mf P sh k p1 = mostFault P sh) ∧ lv_has ls 6 [(0, .ref (ad 1)), (1, .ref a), (2, .int (nI p1))] := ⟨P 0 0, 0, Nat.zero_add _, rfl, lv_sub hl [1, 2, 0] rfl⟩
  obtain ⟨k, p1, hk, hres, hl⟩ := hl
  induction k generalizing p1 ls with
  | zero =>
    refine lv_iload_n hx hb d_P_firstMostFault_2 rfl (lv_at hl 2 rfl) ?_
    refine lv_aload_n hx hb d_P_firstMostFault_3 rfl (lv_at hl 0 rfl) ?_
    refine va_get (D := D) (ci := 0) (v := .int (nI (P 0 0))) (C := R_P) (T := F_P) (N := 12) hx hb htb u_P hown hK hP 0 rfl rfl 0 (by decide) (htb _ q28) (fun _ h9 => h9) rfl d_P_firstMostFault_4 ?_
    refine nr_icmp_ge (tgt := 73) hx hb (by omega) (by omega) d_P_firstMostFault_7 (by decide) (fun c_7 => ?_) (fun c_7 => by exfalso; omega)
    refine nr_iconst hx hb 0 d_P_firstMostFault_73 (by decide) ?_
    exact W.iret (v := (nI 0)) hx hb hr (fun t ht hW => ⟨_, rfl, by rw [← hres, mf], ht⟩) (fun q h => by cases h) d_P_firstMostFault_74
  | succ k ih_2 =>
    refine lv_iload_n hx hb d_P_firstMostFault_2 rfl (lv_at hl 2 rfl) ?_
    refine lv_aload_n hx hb d_P_firstMostFault_3 rfl (lv_at hl 0 rfl) ?_
    refine va_get (D := D) (ci := 0) (v := .int (nI (P 0 0))) (C := R_P) (T := F_P) (N := 12) hx hb htb u_P hown hK hP 0 rfl rfl 0 (by decide) (htb _ q28) (fun _ h9 => h9) rfl d_P_firstMostFault_4 ?_
    refine nr_icmp_ge (tgt := 73) hx hb (by omega) (by omega) d_P_firstMostFault_7 (by decide) (fun c_7 => by exfalso; omega) (fun c_7 => ?_)
    refine nr_iconst hx hb 0 d_P_firstMostFault_10 (by decide) ?_
    refine lv_istore_n (lv' := [(3, .int (nI 0)), (0, .ref (ad 1)), (1, .ref a), (2, .int (nI p1))]) hx hb d_P_firstMostFault_11 rfl hl (by decide) rfl (fun ls hl => ?_)
    refine nr_iconst hx hb 0 d_P_firstMostFault_12 (by decide) ?_
    refine lv_istore (lv' := [(4, .int (nI 0)), (3, .int (nI 0)), (0, .ref (ad 1)), (1, .ref a), (2, .int (nI p1))]) hx hb d_P_firstMostFault_13 hl (by decide) rfl (fun ls hl => ?_)
    refine nr_iconst hx hb 0 d_P_firstMostFault_15 (by decide) ?_
    refine lv_istore (lv' := [(5, .int (nI 0)), (4, .int (nI 0)), (3, .int (nI 0)), (0, .ref (ad 1)), (1, .ref a), (2, .int (nI p1))]) hx hb d_P_firstMostFault_16 hl (by decide) rfl (fun ls hl => ?_)
    replace hl : ∃ k2 d had last : Nat, (d + k2 = P 0 1) ∧ (had ≤ d) ∧ (mh sh p1 k2 d had last = mh sh p1 (P 0 1) 0 0 0) ∧ lv_has ls 6 [(0, .ref (ad 1)), (1, .ref a), (2, .int (nI p1)), (3, .int (nI had)), (4, .int (nI last)), (5, .int (nI d))] := ⟨P 0 1, 0, 0, 0, Nat.zero_add _, Nat.le_refl 0, rfl, lv_sub hl [3, 4, 5, 2, 1, 0] rfl⟩
    obtain ⟨k2, d, had, last, hkd, hhad, hm, hl⟩ := hl
    induction k2 generalizing d had last ls with
    | zero =>
      refine lv_iload hx hb d_P_firstMostFault_18 (lv_at hl 5 rfl) ?_
      refine lv_aload_n hx hb d_P_firstMostFault_20 rfl (lv_at hl 0 rfl) ?_
      refine va_get (D := D) (ci := 0) (v := .int (nI (P 0 1))) (C := R_P) (T := F_P) (N := 12) hx hb htb u_P hown hK hP 0 rfl rfl 1 (by decide) (htb _ q31) (fun _ h9 => h9) rfl d_P_firstMostFault_21 ?_
      refine nr_icmp_ge (tgt := 51) hx hb (by omega) (by omega) d_P_firstMostFault_24 (by decide) (fun c_24 => ?_) (fun c_24 => by exfalso; omega)
      rw [mh] at hm
      have e1 : (mh sh p1 (P 0 1) 0 0 0).1 = had := by rw [← hm]
      have e2 : (mh sh p1 (P 0 1) 0 0 0).2 = last := by rw [← hm]
      refine lv_iload_n hx hb d_P_firstMostFault_51 rfl (lv_at hl 3 rfl) ?_
      refine lv_aload_n hx hb d_P_firstMostFault_52 rfl (lv_at hl 0 rfl) ?_
      refine va_get (D := D) (ci := 0) (v := .int (nI (P 0 3))) (C := R_P) (T := F_P) (N := 12) hx hb htb u_P hown hK hP 0 rfl rfl 3 (by decide) (htb _ q35) (fun _ h9 => h9) rfl d_P_firstMostFault_53 ?_
      refine nr_icmp_le (tgt := 67) hx hb (by omega) (by omega) d_P_firstMostFault_56 (by decide) (fun c_56 => ?_) (fun c_56 => ?_)
      · refine nr_iinc (k := 2) (lv' := [(2, .int (nI (p1 + 1))), (0, .ref (ad 1)), (1, .ref a), (3, .int (nI had)), (4, .int (nI last)), (5, .int (nI d))]) hx hb d_P_firstMostFault_67 hl rfl (by decide) rfl (fun ls hl => ?_)
        refine lv_goto (tgt := 2) hx hb d_P_firstMostFault_70 (by decide) ?_
        exact ih_2 _ _ (by omega) (by rw [← hres, mf, e1, if_pos c_56]) (lv_sub hl [1, 2, 0] rfl)
      · refine nr_iconst hx hb 3 d_P_firstMostFault_59 (by decide) ?_
        refine lv_iload_n hx hb d_P_firstMostFault_60 rfl (lv_at hl 2 rfl) ?_
        refine lv_iload hx hb d_P_firstMostFault_61 (lv_at hl 4 rfl) ?_
        refine nr_calli (va_runS (As := [.int (nI 3), .int (nI p1), .int (nI last)]) (rest := []) ⟨hx, hb, hml, hown, hts⟩ (c_P_faultNumber l D 3 p1 last) ⟨callB_of 3 hts (gTB q_P_faultNumber) rfl rfl rfl (htb _ q2) (htb _ q179) hd_P_faultNumber ⟨Nat.le_of_ble_eq_true rfl, Nat.le_of_ble_eq_true rfl⟩, (htb _ q180)⟩ ⟨ro_blind, ro_pre hN (hP.sub (ws' := []) [] rfl) (hK.sub (tys' := []) [] rfl)⟩ rfl rfl hl.1 rfl (lv_room (Nat.le_of_ble_eq_true rfl)) d_P_firstMostFault_63 ⟨Nat.le_of_ble_eq_true rfl, Nat.le_of_ble_eq_true rfl⟩) (fun r_1 hr_1 => ?_)
        subst hr_1
        exact W.iret (v := (nI (100 * 3 + 10 * p1 + last))) hx hb hr (fun t ht hW => ⟨_, rfl, by rw [← hres, mf, e1, e2, if_neg (by omega)], ht⟩) (fun q h => by cases h) d_P_firstMostFault_66
    | succ k2 ih_18 =>
      refine lv_iload hx hb d_P_firstMostFault_18 (lv_at hl 5 rfl) ?_
      refine lv_aload_n hx hb d_P_firstMostFault_20 rfl (lv_at hl 0 rfl) ?_
      refine va_get (D := D) (ci := 0) (v := .int (nI (P 0 1))) (C := R_P) (T := F_P) (N := 12) hx hb htb u_P hown hK hP 0 rfl rfl 1 (by decide) (htb _ q31) (fun _ h9 => h9) rfl d_P_firstMostFault_21 ?_
      refine nr_icmp_ge (tgt := 51) hx hb (by omega) (by omega) d_P_firstMostFault_24 (by decide) (fun c_24 => by exfalso; omega) (fun c_24 => ?_)
      refine lv_aload_n hx hb d_P_firstMostFault_27 rfl (lv_at hl 1 rfl) ?_
      refine lv_iload_n hx hb d_P_firstMostFault_28 rfl (lv_at hl 2 rfl) ?_
      refine lv_iload hx hb d_P_firstMostFault_29 (lv_at hl 5 rfl) ?_
      refine nr_calli (va_runSN (As := [.int (nI p1), .int (nI d)]) (rest := [.ref a]) ⟨hx, hb, hml, hown, hts⟩ (c_R_cell l D p1 d) ⟨va_cnB 2 hts (gTB q_R_cell) rfl rfl rfl (hN.nw q173 rfl) (htb _ q1) hd_R_cell ⟨Nat.le_of_ble_eq_true rfl, Nat.le_of_ble_eq_true rfl⟩, (htb _ q174), trivial⟩ ⟨ro_blind, ro_pre hN (hP.sub (ws' := []) [] rfl) (hK.sub (tys' := []) [] rfl)⟩ rfl rfl hl.1 rfl (lv_room (Nat.le_of_ble_eq_true rfl)) d_P_firstMostFault_31 ⟨Nat.le_of_ble_eq_true rfl, Nat.le_of_ble_eq_true rfl⟩) (fun r_2 hr_2 => ?_)
      subst hr_2
      refine nr_iald hx hb hK hP 7 6 rfl rfl (by omega) (by decide) d_P_firstMostFault_34 ?_
      have hv_3 := hsh (d * 6 + p1)
      refine nr_if_eq (tgt := 45) hx hb (by omega) d_P_firstMostFault_35 (by decide) (fun c_35 => ?_) (fun c_35 => ?_)
      · refine nr_iinc (k := 5) (lv' := [(5, .int (nI (d + 1))), (0, .ref (ad 1)), (1, .ref a), (2, .int (nI p1)), (3, .int (nI had)), (4, .int (nI last))]) hx hb d_P_firstMostFault_45 hl rfl (by decide) rfl (fun ls hl => ?_)
        refine lv_goto (tgt := 18) hx hb d_P_firstMostFault_48 (by decide) ?_
        exact ih_18 _ _ _ _ (by omega) (by omega) (by rw [← hm, mh, if_pos c_35]) (lv_sub hl [1, 2, 3, 4, 5, 0] rfl)
      · refine nr_iinc (k := 3) (lv' := [(3, .int (nI (had + 1))), (0, .ref (ad 1)), (1, .ref a), (2, .int (nI p1)), (4, .int (nI last)), (5, .int (nI d))]) hx hb d_P_firstMostFault_38 hl rfl (by decide) rfl (fun ls hl => ?_)
        refine lv_iload hx hb d_P_firstMostFault_41 (lv_at hl 5 rfl) ?_
        refine lv_istore (lv' := [(4, .int (nI d)), (3, .int (nI (had + 1))), (0, .ref (ad 1)), (1, .ref a), (2, .int (nI p1)), (5, .int (nI d))]) hx hb d_P_firstMostFault_43 hl (by decide) rfl (fun ls hl => ?_)
        refine nr_iinc (k := 5) (lv' := [(5, .int (nI (d + 1))), (4, .int (nI d)), (3, .int (nI (had + 1))), (0, .ref (ad 1)), (1, .ref a), (2, .int (nI p1))]) hx hb d_P_firstMostFault_45 hl rfl (by decide) rfl (fun ls hl => ?_)
        refine lv_goto (tgt := 18) hx hb d_P_firstMostFault_48 (by decide) ?_
        exact ih_18 _ _ _ _ (by omega) (by omega) (by rw [← hm, mh, if_neg c_35]) (lv_sub hl [3, 4, 5, 2, 1, 0] rfl)
set_option maxHeartbeats 4000000 in
set_option maxRecDepth 100000 in
theorem c_P_firstNightsFault (l : Launch) (D : va_G) (ad : Nat → Nat) (ca : Nat → ClassId) (P : Nat → Nat → Nat) (a : Nat) (cS : ClassId) (sh : Nat → Nat) (hP0 : okP P) (hsh : ∀ k, sh k ≤ 3) : Met l y_P_firstNightsFault w_P_firstNightsFault { frames := 1, cells := 0, slots := 0, locals := 22 } (ro_P [.ref (ad 1), .ref a] D (wPS ad ca P a cS sh) (tPS ca cS)) (vp_Si (fun r => r = nI (nightsFault P sh))) 0 0 (fun _ => False) := by
  refine Met.ofW (cc := b_P_firstNightsFault) (maxL := 5) (ret := (some .int)) (by decide) rfl ?_
  intro p e s m args below meth c s₁ B hml hv
  obtain ⟨rfl, hN, hP, hK⟩ := hv
  have hx := B.exec
  have hb := B.bytes
  have hr := B.returns
  have hts := atoms_spec (ws := w_P_firstNightsFault) B.pre
  have htb : ∀ w ∈ TBG, w.before [.ref (ad 1), .ref a].toArray s = true := fun w h => hts w (List.mem_cons_of_mem _ h)
  have hown : s.vm.findClass R_P = some m.cls := findClass_of_methodNamed B.named
  have hlocks := B.notSynchronized
  have hl := lv_entry ([.ref (ad 1), .ref a]) (n := 5) (Nat.le_of_ble_eq_true rfl)
  rw [lg_entry_eq]
  generalize (lg_sl ([.ref (ad 1), .ref a]) ++ List.replicate (5 - (lg_sl ([.ref (ad 1), .ref a])).length) Slot.unset).toArray = ls at hl ⊢
  have hl : lv_has ls 5 [(0, .ref (ad 1)), (1, .ref a)] := hl
  obtain ⟨h00, h01, h02, h03, h04, h05, hp1, hp2, hp3, hp4, hp5, hp6⟩ := id hP0
  refine nr_iconst hx hb 0 d_P_firstNightsFault_0 (by decide) ?_
  refine lv_istore_n (lv' := [(2, .int (nI 0)), (0, .ref (ad 1)), (1, .ref a)]) hx hb d_P_firstNightsFault_1 rfl hl (by decide) rfl (fun ls hl => ?_)
  replace hl : ∃ k p1 : Nat, (p1 + k = P 0 0) ∧ (gf P sh k p1 = nightsFault P sh) ∧ lv_has ls 5 [(0, .ref (ad 1)), (1, .ref a), (2, .int (nI p1))] := ⟨P 0 0, 0, Nat.zero_add _, rfl, lv_sub hl [1, 2, 0] rfl⟩
  obtain ⟨k, p1, hk, hres, hl⟩ := hl
  induction k generalizing p1 ls with
  | zero =>
    refine lv_iload_n hx hb d_P_firstNightsFault_2 rfl (lv_at hl 2 rfl) ?_
    refine lv_aload_n hx hb d_P_firstNightsFault_3 rfl (lv_at hl 0 rfl) ?_
    refine va_get (D := D) (ci := 0) (v := .int (nI (P 0 0))) (C := R_P) (T := F_P) (N := 12) hx hb htb u_P hown hK hP 0 rfl rfl 0 (by decide) (htb _ q28) (fun _ h9 => h9) rfl d_P_firstNightsFault_4 ?_
    refine nr_icmp_ge (tgt := 72) hx hb (by omega) (by omega) d_P_firstNightsFault_7 (by decide) (fun c_7 => ?_) (fun c_7 => by exfalso; omega)
    refine nr_iconst hx hb 0 d_P_firstNightsFault_72 (by decide) ?_
    exact W.iret (v := (nI 0)) hx hb hr (fun t ht hW => ⟨_, rfl, by rw [← hres, gf], ht⟩) (fun q h => by cases h) d_P_firstNightsFault_73
  | succ k ih_2 =>
    refine lv_iload_n hx hb d_P_firstNightsFault_2 rfl (lv_at hl 2 rfl) ?_
    refine lv_aload_n hx hb d_P_firstNightsFault_3 rfl (lv_at hl 0 rfl) ?_
    refine va_get (D := D) (ci := 0) (v := .int (nI (P 0 0))) (C := R_P) (T := F_P) (N := 12) hx hb htb u_P hown hK hP 0 rfl rfl 0 (by decide) (htb _ q28) (fun _ h9 => h9) rfl d_P_firstNightsFault_4 ?_
    refine nr_icmp_ge (tgt := 72) hx hb (by omega) (by omega) d_P_firstNightsFault_7 (by decide) (fun c_7 => by exfalso; omega) (fun c_7 => ?_)
    refine nr_iconst hx hb 0 d_P_firstNightsFault_10 (by decide) ?_
    refine lv_istore_n (lv' := [(3, .int (nI 0)), (0, .ref (ad 1)), (1, .ref a), (2, .int (nI p1))]) hx hb d_P_firstNightsFault_11 rfl hl (by decide) rfl (fun ls hl => ?_)
    refine nr_iconst hx hb 0 d_P_firstNightsFault_12 (by decide) ?_
    refine lv_istore (lv' := [(4, .int (nI 0)), (3, .int (nI 0)), (0, .ref (ad 1)), (1, .ref a), (2, .int (nI p1))]) hx hb d_P_firstNightsFault_13 hl (by decide) rfl (fun ls hl => ?_)
    replace hl : ∃ k2 d row : Nat, (d + k2 = P 0 1) ∧ (row ≤ d) ∧ ((if gf1 P sh p1 k2 d row = 0 then gf P sh k (p1 + 1) else gf1 P sh p1 k2 d row) = nightsFault P sh) ∧ lv_has ls 5 [(0, .ref (ad 1)), (1, .ref a), (2, .int (nI p1)), (3, .int (nI row)), (4, .int (nI d))] := ⟨P 0 1, 0, 0, Nat.zero_add _, Nat.le_refl 0, (by rw [← hres, gf]), lv_sub hl [2, 3, 4, 1, 0] rfl⟩
    obtain ⟨k2, d, row, hkd, hrow, hin, hl⟩ := hl
    induction k2 generalizing d row ls with
    | zero =>
      refine lv_iload hx hb d_P_firstNightsFault_15 (lv_at hl 4 rfl) ?_
      refine lv_aload_n hx hb d_P_firstNightsFault_17 rfl (lv_at hl 0 rfl) ?_
      refine va_get (D := D) (ci := 0) (v := .int (nI (P 0 1))) (C := R_P) (T := F_P) (N := 12) hx hb htb u_P hown hK hP 0 rfl rfl 1 (by decide) (htb _ q31) (fun _ h9 => h9) rfl d_P_firstNightsFault_18 ?_
      refine nr_icmp_ge (tgt := 66) hx hb (by omega) (by omega) d_P_firstNightsFault_21 (by decide) (fun c_21 => ?_) (fun c_21 => by exfalso; omega)
      refine nr_iinc (k := 2) (lv' := [(2, .int (nI (p1 + 1))), (0, .ref (ad 1)), (1, .ref a), (3, .int (nI row)), (4, .int (nI d))]) hx hb d_P_firstNightsFault_66 hl rfl (by decide) rfl (fun ls hl => ?_)
      refine lv_goto (tgt := 2) hx hb d_P_firstNightsFault_69 (by decide) ?_
      exact ih_2 _ _ (by omega) (by rw [gf1, if_pos rfl] at hin; exact hin) (lv_sub hl [1, 2, 0] rfl)
    | succ k2 ih_15 =>
      refine lv_iload hx hb d_P_firstNightsFault_15 (lv_at hl 4 rfl) ?_
      refine lv_aload_n hx hb d_P_firstNightsFault_17 rfl (lv_at hl 0 rfl) ?_
      refine va_get (D := D) (ci := 0) (v := .int (nI (P 0 1))) (C := R_P) (T := F_P) (N := 12) hx hb htb u_P hown hK hP 0 rfl rfl 1 (by decide) (htb _ q31) (fun _ h9 => h9) rfl d_P_firstNightsFault_18 ?_
      refine nr_icmp_ge (tgt := 66) hx hb (by omega) (by omega) d_P_firstNightsFault_21 (by decide) (fun c_21 => by exfalso; omega) (fun c_21 => ?_)
      refine lv_aload_n hx hb d_P_firstNightsFault_24 rfl (lv_at hl 1 rfl) ?_
      refine lv_iload_n hx hb d_P_firstNightsFault_25 rfl (lv_at hl 2 rfl) ?_
      refine lv_iload hx hb d_P_firstNightsFault_26 (lv_at hl 4 rfl) ?_
      refine nr_calli (va_runSN (As := [.int (nI p1), .int (nI d)]) (rest := [.ref a]) ⟨hx, hb, hml, hown, hts⟩ (c_R_cell l D p1 d) ⟨va_cnB 2 hts (gTB q_R_cell) rfl rfl rfl (hN.nw q173 rfl) (htb _ q1) hd_R_cell ⟨Nat.le_of_ble_eq_true rfl, Nat.le_of_ble_eq_true rfl⟩, (htb _ q174), trivial⟩ ⟨ro_blind, ro_pre hN (hP.sub (ws' := []) [] rfl) (hK.sub (tys' := []) [] rfl)⟩ rfl rfl hl.1 rfl (lv_room (Nat.le_of_ble_eq_true rfl)) d_P_firstNightsFault_28 ⟨Nat.le_of_ble_eq_true rfl, Nat.le_of_ble_eq_true rfl⟩) (fun r_1 hr_1 => ?_)
      subst hr_1
      refine nr_iald hx hb hK hP 7 6 rfl rfl (by omega) (by decide) d_P_firstNightsFault_31 ?_
      have hv_2 := hsh (d * 6 + p1)
      refine nr_iconst hx hb 3 d_P_firstNightsFault_32 (by decide) ?_
      refine nr_icmp_ne (tgt := 42) hx hb (by omega) (by omega) d_P_firstNightsFault_33 (by decide) (fun c_33 => ?_) (fun c_33 => ?_)
      · refine nr_iconst hx hb 0 d_P_firstNightsFault_42 (by decide) ?_
        refine lv_istore_n (lv' := [(3, .int (nI 0)), (0, .ref (ad 1)), (1, .ref a), (2, .int (nI p1)), (4, .int (nI d))]) hx hb d_P_firstNightsFault_43 rfl hl (by decide) rfl (fun ls hl => ?_)
        refine lv_iload_n hx hb d_P_firstNightsFault_44 rfl (lv_at hl 0 rfl) ?_
        refine lv_aload_n hx hb d_P_firstNightsFault_45 rfl (lv_at hl 1 rfl) ?_
        refine va_get (D := D) (ci := 0) (v := .int (nI (P 0 4))) (C := R_P) (T := F_P) (N := 12) hx hb htb u_P hown hK hP 0 rfl rfl 4 (by decide) (htb _ q37) (fun _ h9 => h9) rfl d_P_firstNightsFault_46 ?_
        refine nr_icmp_le (tgt := 60) hx hb (by omega) (by omega) d_P_firstNightsFault_49 (by decide) (fun c_49 => ?_) (fun c_49 => ?_)
        · refine nr_iinc (k := 4) (lv' := [(4, .int (nI (d + 1))), (3, .int (nI 0)), (0, .ref (ad 1)), (1, .ref a), (2, .int (nI p1))]) hx hb d_P_firstNightsFault_60 hl rfl (by decide) rfl (fun ls hl => ?_)
          refine lv_goto (tgt := 15) hx hb d_P_firstNightsFault_63 (by decide) ?_
          exact ih_15 _ _ _ (by omega) (by omega) (by rw [gf1, if_neg c_33, if_pos c_49] at hin; exact hin) (lv_sub hl [2, 3, 4, 1, 0] rfl)
        · refine nr_iconst hx hb 4 d_P_firstNightsFault_52 (by decide) ?_
          refine lv_iload_n hx hb d_P_firstNightsFault_53 rfl (lv_at hl 3 rfl) ?_
          refine lv_iload hx hb d_P_firstNightsFault_54 (lv_at hl 4 rfl) ?_
          refine nr_calli (va_runS (As := [.int (nI 4), .int (nI p1), .int (nI d)]) (rest := []) ⟨hx, hb, hml, hown, hts⟩ (c_P_faultNumber l D 4 p1 d) ⟨callB_of 3 hts (gTB q_P_faultNumber) rfl rfl rfl (htb _ q2) (htb _ q179) hd_P_faultNumber ⟨Nat.le_of_ble_eq_true rfl, Nat.le_of_ble_eq_true rfl⟩, (htb _ q180)⟩ ⟨ro_blind, ro_pre hN (hP.sub (ws' := []) [] rfl) (hK.sub (tys' := []) [] rfl)⟩ rfl rfl hl.1 rfl (lv_room (Nat.le_of_ble_eq_true rfl)) d_P_firstNightsFault_56 ⟨Nat.le_of_ble_eq_true rfl, Nat.le_of_ble_eq_true rfl⟩) (fun r_3 hr_3 => ?_)
          subst hr_3
          exact W.iret (v := (nI (100 * 4 + 10 * p1 + d))) hx hb hr (fun t ht hW => ⟨_, rfl, by rw [gf1, if_neg c_33, if_neg (Nat.not_le.mpr c_49)] at hin; rw [← hin, if_neg (by omega)], ht⟩) (fun q h => by cases h) d_P_firstNightsFault_59
      · refine lv_iload_n hx hb d_P_firstNightsFault_36 rfl (lv_at hl 3 rfl) ?_
        refine nr_iconst hx hb 1 d_P_firstNightsFault_37 (by decide) ?_
        refine nr_iadd hx hb d_P_firstNightsFault_38 ?_
        refine lv_goto (tgt := 43) hx hb d_P_firstNightsFault_39 (by decide) ?_
        refine lv_istore_n (lv' := [(3, .int (nI (row + 1))), (0, .ref (ad 1)), (1, .ref a), (2, .int (nI p1)), (4, .int (nI d))]) hx hb d_P_firstNightsFault_43 rfl hl (by decide) rfl (fun ls hl => ?_)
        refine lv_iload_n hx hb d_P_firstNightsFault_44 rfl (lv_at hl 0 rfl) ?_
        refine lv_aload_n hx hb d_P_firstNightsFault_45 rfl (lv_at hl 1 rfl) ?_
        refine va_get (D := D) (ci := 0) (v := .int (nI (P 0 4))) (C := R_P) (T := F_P) (N := 12) hx hb htb u_P hown hK hP 0 rfl rfl 4 (by decide) (htb _ q37) (fun _ h9 => h9) rfl d_P_firstNightsFault_46 ?_
        refine nr_icmp_le (tgt := 60) hx hb (by omega) (by omega) d_P_firstNightsFault_49 (by decide) (fun c_49 => ?_) (fun c_49 => ?_)
        · refine nr_iinc (k := 4) (lv' := [(4, .int (nI (d + 1))), (3, .int (nI (row + 1))), (0, .ref (ad 1)), (1, .ref a), (2, .int (nI p1))]) hx hb d_P_firstNightsFault_60 hl rfl (by decide) rfl (fun ls hl => ?_)
          refine lv_goto (tgt := 15) hx hb d_P_firstNightsFault_63 (by decide) ?_
          exact ih_15 _ _ _ (by omega) (by omega) (by rw [gf1, if_pos c_33, if_pos c_49] at hin; exact hin) (lv_sub hl [2, 3, 4, 1, 0] rfl)
        · refine nr_iconst hx hb 4 d_P_firstNightsFault_52 (by decide) ?_
          refine lv_iload_n hx hb d_P_firstNightsFault_53 rfl (lv_at hl 3 rfl) ?_
          refine lv_iload hx hb d_P_firstNightsFault_54 (lv_at hl 4 rfl) ?_
          refine nr_calli (va_runS (As := [.int (nI 4), .int (nI p1), .int (nI d)]) (rest := []) ⟨hx, hb, hml, hown, hts⟩ (c_P_faultNumber l D 4 p1 d) ⟨callB_of 3 hts (gTB q_P_faultNumber) rfl rfl rfl (htb _ q2) (htb _ q179) hd_P_faultNumber ⟨Nat.le_of_ble_eq_true rfl, Nat.le_of_ble_eq_true rfl⟩, (htb _ q180)⟩ ⟨ro_blind, ro_pre hN (hP.sub (ws' := []) [] rfl) (hK.sub (tys' := []) [] rfl)⟩ rfl rfl hl.1 rfl (lv_room (Nat.le_of_ble_eq_true rfl)) d_P_firstNightsFault_56 ⟨Nat.le_of_ble_eq_true rfl, Nat.le_of_ble_eq_true rfl⟩) (fun r_4 hr_4 => ?_)
          subst hr_4
          exact W.iret (v := (nI (100 * 4 + 10 * p1 + d))) hx hb hr (fun t ht hW => ⟨_, rfl, by rw [gf1, if_pos c_33, if_neg (Nat.not_le.mpr c_49)] at hin; rw [← hin, if_neg (by omega)], ht⟩) (fun q h => by cases h) d_P_firstNightsFault_59
end
section
set_option maxHeartbeats 4000000 in
set_option maxRecDepth 100000 in
theorem c_P_firstBarFault (l : Launch) (D : va_G) (ad : Nat → Nat) (ca : Nat → ClassId) (P : Nat → Nat → Nat) (a : Nat) (cS : ClassId) (sh : Nat → Nat) (hP0 : okP P) (hsh : ∀ k, sh k ≤ 3) : Met l y_P_firstBarFault w_P_firstBarFault { frames := 2, cells := 0, slots := 0, locals := 43 } (ro_P [.ref (ad 1), .ref a] D (wPS ad ca P a cS sh) (tPS ca cS)) (vp_Si (fun r => r = nI (barFault P sh))) 0 0 (fun _ => False) := by
  refine Met.ofW (cc := b_P_firstBarFault) (maxL := 4) (ret := (some .int)) (by decide) rfl ?_
  intro p e s m args below meth c s₁ B hml hv
  obtain ⟨rfl, hN, hP, hK⟩ := hv
  have hx := B.exec
  have hb := B.bytes
  have hr := B.returns
  have hts := atoms_spec (ws := w_P_firstBarFault) B.pre
  have htb : ∀ w ∈ TBG, w.before [.ref (ad 1), .ref a].toArray s = true := fun w h => hts w (List.mem_cons_of_mem _ h)
  have hown : s.vm.findClass R_P = some m.cls := findClass_of_methodNamed B.named
  have hlocks := B.notSynchronized
  have hl := lv_entry ([.ref (ad 1), .ref a]) (n := 4) (Nat.le_of_ble_eq_true rfl)
  rw [lg_entry_eq]
  generalize (lg_sl ([.ref (ad 1), .ref a]) ++ List.replicate (4 - (lg_sl ([.ref (ad 1), .ref a])).length) Slot.unset).toArray = ls at hl ⊢
  have hl : lv_has ls 4 [(0, .ref (ad 1)), (1, .ref a)] := hl
  obtain ⟨h00, h01, h02, h03, h04, h05, hp1, hp2, hp3, hp4, hp5, hp6⟩ := id hP0
  refine nr_iconst hx hb 0 d_P_firstBarFault_0 (by decide) ?_
  refine lv_istore_n (lv' := [(2, .int (nI 0)), (0, .ref (ad 1)), (1, .ref a)]) hx hb d_P_firstBarFault_1 rfl hl (by decide) rfl (fun ls hl => ?_)
  replace hl : ∃ k p1 : Nat, (p1 + k = P 0 0) ∧ (bf P sh k p1 = barFault P sh) ∧ lv_has ls 4 [(0, .ref (ad 1)), (1, .ref a), (2, .int (nI p1))] := ⟨P 0 0, 0, Nat.zero_add _, rfl, lv_sub hl [1, 2, 0] rfl⟩
  obtain ⟨k, p1, hk, hres, hl⟩ := hl
  induction k generalizing p1 ls with
  | zero =>
    refine lv_iload_n hx hb d_P_firstBarFault_2 rfl (lv_at hl 2 rfl) ?_
    refine lv_aload_n hx hb d_P_firstBarFault_3 rfl (lv_at hl 0 rfl) ?_
    refine va_get (D := D) (ci := 0) (v := .int (nI (P 0 0))) (C := R_P) (T := F_P) (N := 12) hx hb htb u_P hown hK hP 0 rfl rfl 0 (by decide) (htb _ q28) (fun _ h9 => h9) rfl d_P_firstBarFault_4 ?_
    refine nr_icmp_ge (tgt := 59) hx hb (by omega) (by omega) d_P_firstBarFault_7 (by decide) (fun c_7 => ?_) (fun c_7 => by exfalso; omega)
    refine nr_iconst hx hb 0 d_P_firstBarFault_59 (by decide) ?_
    exact W.iret (v := (nI 0)) hx hb hr (fun t ht hW => ⟨_, rfl, by rw [← hres, bf], ht⟩) (fun q h => by cases h) d_P_firstBarFault_60
  | succ k ih_2 =>
    refine lv_iload_n hx hb d_P_firstBarFault_2 rfl (lv_at hl 2 rfl) ?_
    refine lv_aload_n hx hb d_P_firstBarFault_3 rfl (lv_at hl 0 rfl) ?_
    refine va_get (D := D) (ci := 0) (v := .int (nI (P 0 0))) (C := R_P) (T := F_P) (N := 12) hx hb htb u_P hown hK hP 0 rfl rfl 0 (by decide) (htb _ q28) (fun _ h9 => h9) rfl d_P_firstBarFault_4 ?_
    refine nr_icmp_ge (tgt := 59) hx hb (by omega) (by omega) d_P_firstBarFault_7 (by decide) (fun c_7 => by exfalso; omega) (fun c_7 => ?_)
    refine nr_iconst hx hb 0 d_P_firstBarFault_10 (by decide) ?_
    refine lv_istore_n (lv' := [(3, .int (nI 0)), (0, .ref (ad 1)), (1, .ref a), (2, .int (nI p1))]) hx hb d_P_firstBarFault_11 rfl hl (by decide) rfl (fun ls hl => ?_)
    replace hl : ∃ k2 d : Nat, (d + k2 = P 0 1) ∧ ((if bf1 P sh p1 k2 d = 0 then bf P sh k (p1 + 1) else bf1 P sh p1 k2 d) = barFault P sh) ∧ lv_has ls 4 [(0, .ref (ad 1)), (1, .ref a), (2, .int (nI p1)), (3, .int (nI d))] := ⟨P 0 1, 0, Nat.zero_add _, (by rw [← hres, bf]), lv_sub hl [1, 2, 3, 0] rfl⟩
    obtain ⟨k2, d, hkd, hin, hl⟩ := hl
    induction k2 generalizing d ls with
    | zero =>
      refine lv_iload_n hx hb d_P_firstBarFault_12 rfl (lv_at hl 3 rfl) ?_
      refine lv_aload_n hx hb d_P_firstBarFault_13 rfl (lv_at hl 0 rfl) ?_
      refine va_get (D := D) (ci := 0) (v := .int (nI (P 0 1))) (C := R_P) (T := F_P) (N := 12) hx hb htb u_P hown hK hP 0 rfl rfl 1 (by decide) (htb _ q31) (fun _ h9 => h9) rfl d_P_firstBarFault_14 ?_
      refine nr_icmp_ge (tgt := 53) hx hb (by omega) (by omega) d_P_firstBarFault_17 (by decide) (fun c_17 => ?_) (fun c_17 => by exfalso; omega)
      refine nr_iinc (k := 2) (lv' := [(2, .int (nI (p1 + 1))), (0, .ref (ad 1)), (1, .ref a), (3, .int (nI d))]) hx hb d_P_firstBarFault_53 hl rfl (by decide) rfl (fun ls hl => ?_)
      refine lv_goto (tgt := 2) hx hb d_P_firstBarFault_56 (by decide) ?_
      exact ih_2 _ _ (by omega) (by rw [bf1, if_pos rfl] at hin; exact hin) (lv_sub hl [1, 2, 0] rfl)
    | succ k2 ih_12 =>
      refine lv_iload_n hx hb d_P_firstBarFault_12 rfl (lv_at hl 3 rfl) ?_
      refine lv_aload_n hx hb d_P_firstBarFault_13 rfl (lv_at hl 0 rfl) ?_
      refine va_get (D := D) (ci := 0) (v := .int (nI (P 0 1))) (C := R_P) (T := F_P) (N := 12) hx hb htb u_P hown hK hP 0 rfl rfl 1 (by decide) (htb _ q31) (fun _ h9 => h9) rfl d_P_firstBarFault_14 ?_
      refine nr_icmp_ge (tgt := 53) hx hb (by omega) (by omega) d_P_firstBarFault_17 (by decide) (fun c_17 => by exfalso; omega) (fun c_17 => ?_)
      refine lv_aload_n hx hb d_P_firstBarFault_20 rfl (lv_at hl 0 rfl) ?_
      refine va_get (D := D) (ci := 0) (v := .ref (ad 7)) (C := R_P) (T := F_P) (N := 12) hx hb htb u_P hown hK hP 0 rfl rfl 10 (by decide) (htb _ q45) (fun _ h9 => h9) rfl d_P_firstBarFault_21 ?_
      refine lv_iload_n hx hb d_P_firstBarFault_24 rfl (lv_at hl 2 rfl) ?_
      refine lv_iload_n hx hb d_P_firstBarFault_25 rfl (lv_at hl 3 rfl) ?_
      refine lv_aload_n hx hb d_P_firstBarFault_26 rfl (lv_at hl 1 rfl) ?_
      refine lv_iload_n hx hb d_P_firstBarFault_27 rfl (lv_at hl 2 rfl) ?_
      refine lv_iload_n hx hb d_P_firstBarFault_28 rfl (lv_at hl 3 rfl) ?_
      refine nr_calli (va_runSN (As := [.int (nI p1), .int (nI d)]) (rest := [.ref a, .int (nI d), .int (nI p1), .ref (ad 7)]) ⟨hx, hb, hml, hown, hts⟩ (c_R_cell l D p1 d) ⟨va_cnB 2 hts (gTB q_R_cell) rfl rfl rfl (hN.nw q173 rfl) (htb _ q1) hd_R_cell ⟨Nat.le_of_ble_eq_true rfl, Nat.le_of_ble_eq_true rfl⟩, (htb _ q174), trivial⟩ ⟨ro_blind, ro_pre hN (hP.sub (ws' := []) [] rfl) (hK.sub (tys' := []) [] rfl)⟩ rfl rfl hl.1 rfl (lv_room (Nat.le_of_ble_eq_true rfl)) d_P_firstBarFault_29 ⟨Nat.le_of_ble_eq_true rfl, Nat.le_of_ble_eq_true rfl⟩) (fun r_1 hr_1 => ?_)
      subst hr_1
      refine nr_iald hx hb hK hP 7 6 rfl rfl (by omega) (by decide) d_P_firstBarFault_32 ?_
      have hv_2 := hsh (d * 6 + p1)
      refine nr_calli (va_runSN (As := [.int (nI p1), .int (nI d), .int (nI (sh (d * 6 + p1)))]) (rest := [.ref (ad 7)]) ⟨hx, hb, hml, hown, hts⟩ (c_R_choice l D p1 d (sh (d * 6 + p1))) ⟨va_cnB 3 hts (gTB q_R_choice) rfl rfl rfl (hN.nw q205 rfl) (htb _ q1) hd_R_choice ⟨Nat.le_of_ble_eq_true rfl, Nat.le_of_ble_eq_true rfl⟩, (htb _ q206), trivial⟩ ⟨ro_blind, ro_pre hN (hP.sub (ws' := []) [] rfl) (hK.sub (tys' := []) [] rfl)⟩ rfl rfl hl.1 rfl (lv_room (Nat.le_of_ble_eq_true rfl)) d_P_firstBarFault_33 ⟨Nat.le_of_ble_eq_true rfl, Nat.le_of_ble_eq_true rfl⟩) (fun r_3 hr_3 => ?_)
      subst hr_3
      refine nr_zald hx hb hK hP 5 4 rfl rfl (by omega) (by decide) d_P_firstBarFault_36 ?_
      have hv_4 := hp5 ((d * 6 + p1) * 4 + (sh (d * 6 + p1)))
      refine nr_if_eq (tgt := 47) hx hb (by omega) d_P_firstBarFault_37 (by decide) (fun c_37 => ?_) (fun c_37 => ?_)
      · refine nr_iinc (k := 3) (lv' := [(3, .int (nI (d + 1))), (0, .ref (ad 1)), (1, .ref a), (2, .int (nI p1))]) hx hb d_P_firstBarFault_47 hl rfl (by decide) rfl (fun ls hl => ?_)
        refine lv_goto (tgt := 12) hx hb d_P_firstBarFault_50 (by decide) ?_
        exact ih_12 _ _ (by omega) (by rw [bf1, if_pos c_37] at hin; exact hin) (lv_sub hl [1, 2, 3, 0] rfl)
      · refine nr_iconst hx hb 5 d_P_firstBarFault_40 (by decide) ?_
        refine lv_iload_n hx hb d_P_firstBarFault_41 rfl (lv_at hl 2 rfl) ?_
        refine lv_iload_n hx hb d_P_firstBarFault_42 rfl (lv_at hl 3 rfl) ?_
        refine nr_calli (va_runS (As := [.int (nI 5), .int (nI p1), .int (nI d)]) (rest := []) ⟨hx, hb, hml, hown, hts⟩ (c_P_faultNumber l D 5 p1 d) ⟨callB_of 3 hts (gTB q_P_faultNumber) rfl rfl rfl (htb _ q2) (htb _ q179) hd_P_faultNumber ⟨Nat.le_of_ble_eq_true rfl, Nat.le_of_ble_eq_true rfl⟩, (htb _ q180)⟩ ⟨ro_blind, ro_pre hN (hP.sub (ws' := []) [] rfl) (hK.sub (tys' := []) [] rfl)⟩ rfl rfl hl.1 rfl (lv_room (Nat.le_of_ble_eq_true rfl)) d_P_firstBarFault_43 ⟨Nat.le_of_ble_eq_true rfl, Nat.le_of_ble_eq_true rfl⟩) (fun r_5 hr_5 => ?_)
        subst hr_5
        exact W.iret (v := (nI (100 * 5 + 10 * p1 + d))) hx hb hr (fun t ht hW => ⟨_, rfl, by rw [bf1, if_neg c_37] at hin; rw [← hin, if_neg (by omega)], ht⟩) (fun q h => by cases h) d_P_firstBarFault_46
set_option maxHeartbeats 4000000 in
set_option maxRecDepth 100000 in
theorem c_P_firstFault (l : Launch) (D : va_G) (ad : Nat → Nat) (ca : Nat → ClassId) (P : Nat → Nat → Nat) (a : Nat) (cS : ClassId) (sh : Nat → Nat) (hP0 : okP P) (hsh : ∀ k, sh k ≤ 3) : Met l y_P_firstFault w_P_firstFault { frames := 4, cells := 0, slots := 0, locals := 93 } (ro_P [.ref (ad 1), .ref a] D (wPS ad ca P a cS sh) (tPS ca cS)) (vp_Si (fun r => r = nI (firstFault P sh))) 0 0 (fun _ => False) := by
  refine Met.ofW (cc := b_P_firstFault) (maxL := 3) (ret := (some .int)) (by decide) rfl ?_
  intro p e s m args below meth c s₁ B hml hv
  obtain ⟨rfl, hN, hP, hK⟩ := hv
  have hx := B.exec
  have hb := B.bytes
  have hr := B.returns
  have hts := atoms_spec (ws := w_P_firstFault) B.pre
  have htb : ∀ w ∈ TBG, w.before [.ref (ad 1), .ref a].toArray s = true := fun w h => hts w (List.mem_cons_of_mem _ h)
  have hown : s.vm.findClass R_P = some m.cls := findClass_of_methodNamed B.named
  have hlocks := B.notSynchronized
  have hl := lv_entry ([.ref (ad 1), .ref a]) (n := 3) (Nat.le_of_ble_eq_true rfl)
  rw [lg_entry_eq]
  generalize (lg_sl ([.ref (ad 1), .ref a]) ++ List.replicate (3 - (lg_sl ([.ref (ad 1), .ref a])).length) Slot.unset).toArray = ls at hl ⊢
  have hl : lv_has ls 3 [(0, .ref (ad 1)), (1, .ref a)] := hl
  obtain ⟨h00, h01, h02, h03, h04, h05, hp1, hp2, hp3, hp4, hp5, hp6⟩ := id hP0
  refine lv_aload_n hx hb d_P_firstFault_0 rfl (lv_at hl 0 rfl) ?_
  refine lv_aload_n hx hb d_P_firstFault_1 rfl (lv_at hl 1 rfl) ?_
  refine nr_calli (va_runV (As := [.ref a]) (rest := []) ⟨hx, hb, hml, hown, hts⟩ (c_P_firstNeedFault l D ad ca P a cS sh hP0 hsh ) ⟨callB_of 1 hts (gTB q_P_firstNeedFault) rfl rfl rfl (htb _ q2) (htb _ q161) hd_P_firstNeedFault ⟨Nat.le_of_ble_eq_true rfl, Nat.le_of_ble_eq_true rfl⟩, (htb _ q163), (htb _ sel_P_firstNeedFault)⟩ ⟨ro_blind, va_recv (hK.sub (tys' := []) [] rfl) hP (ci := 0) (q0 := 0) rfl rfl, ro_pre hN (hP.sub (ws' := (wPS ad ca P a cS sh)) [0, 1, 2, 3, 4, 5, 6, 7] rfl) (hK.sub (tys' := (tPS ca cS)) [0, 1, 2, 3, 4, 5, 6] rfl)⟩ rfl rfl hl.1 rfl (lv_room (Nat.le_of_ble_eq_true rfl)) d_P_firstFault_2 ⟨Nat.le_of_ble_eq_true rfl, Nat.le_of_ble_eq_true rfl⟩) (fun r_1 hr_1 => ?_)
  subst hr_1
  refine lv_istore_n (lv' := [(2, .int (nI (needFault P sh))), (0, .ref (ad 1)), (1, .ref a)]) hx hb d_P_firstFault_5 rfl hl (by decide) rfl (fun ls hl => ?_)
  refine lv_iload_n hx hb d_P_firstFault_6 rfl (lv_at hl 0 rfl) ?_
  refine nr_if_ne (tgt := 16) hx hb (Nat.lt_of_le_of_lt (needFault_le sh h01) (by decide)) d_P_firstFault_7 (by decide) (fun c_7 => ?_) (fun c_7 => ?_)
  · refine lv_iload_n hx hb d_P_firstFault_16 rfl (lv_at hl 0 rfl) ?_
    refine nr_if_ne (tgt := 26) hx hb (Nat.lt_of_le_of_lt (needFault_le sh h01) (by decide)) d_P_firstFault_17 (by decide) (fun c_17 => ?_) (fun c_17 => by exfalso; omega)
    refine lv_iload_n hx hb d_P_firstFault_26 rfl (lv_at hl 0 rfl) ?_
    refine nr_if_ne (tgt := 36) hx hb (Nat.lt_of_le_of_lt (needFault_le sh h01) (by decide)) d_P_firstFault_27 (by decide) (fun c_27 => ?_) (fun c_27 => by exfalso; omega)
    refine lv_iload_n hx hb d_P_firstFault_36 rfl (lv_at hl 0 rfl) ?_
    refine nr_if_ne (tgt := 48) hx hb (Nat.lt_of_le_of_lt (needFault_le sh h01) (by decide)) d_P_firstFault_37 (by decide) (fun c_37 => ?_) (fun c_37 => by exfalso; omega)
    refine lv_iload_n hx hb d_P_firstFault_48 rfl (lv_at hl 0 rfl) ?_
    exact W.iret (v := (nI (needFault P sh))) hx hb hr (fun t ht hW => ⟨_, rfl, by unfold firstFault; rw [if_pos c_7], ht⟩) (fun q h => by cases h) d_P_firstFault_49
  · refine lv_aload_n hx hb d_P_firstFault_10 rfl (lv_at hl 1 rfl) ?_
    refine lv_aload_n hx hb d_P_firstFault_11 rfl (lv_at hl 2 rfl) ?_
    refine nr_calli (va_runV (As := [.ref a]) (rest := []) ⟨hx, hb, hml, hown, hts⟩ (c_P_firstRestFault l D ad ca P a cS sh hP0 hsh ) ⟨callB_of 1 hts (gTB q_P_firstRestFault) rfl rfl rfl (htb _ q2) (htb _ q182) hd_P_firstRestFault ⟨Nat.le_of_ble_eq_true rfl, Nat.le_of_ble_eq_true rfl⟩, (htb _ q184), (htb _ sel_P_firstRestFault)⟩ ⟨ro_blind, va_recv (hK.sub (tys' := []) [] rfl) hP (ci := 0) (q0 := 0) rfl rfl, ro_pre hN (hP.sub (ws' := (wPS ad ca P a cS sh)) [0, 1, 2, 3, 4, 5, 6, 7] rfl) (hK.sub (tys' := (tPS ca cS)) [0, 1, 2, 3, 4, 5, 6] rfl)⟩ rfl rfl hl.1 rfl (lv_room (Nat.le_of_ble_eq_true rfl)) d_P_firstFault_12 ⟨Nat.le_of_ble_eq_true rfl, Nat.le_of_ble_eq_true rfl⟩) (fun r_2 hr_2 => ?_)
    subst hr_2
    refine lv_istore_n (lv' := [(2, .int (nI (restFault P sh))), (0, .ref (ad 1)), (1, .ref a)]) hx hb d_P_firstFault_15 rfl hl (by decide) rfl (fun ls hl => ?_)
    refine lv_iload_n hx hb d_P_firstFault_16 rfl (lv_at hl 0 rfl) ?_
    refine nr_if_ne (tgt := 26) hx hb (Nat.lt_of_le_of_lt (restFault_le sh h00 h01) (by decide)) d_P_firstFault_17 (by decide) (fun c_17 => ?_) (fun c_17 => ?_)
    · refine lv_iload_n hx hb d_P_firstFault_26 rfl (lv_at hl 0 rfl) ?_
      refine nr_if_ne (tgt := 36) hx hb (Nat.lt_of_le_of_lt (restFault_le sh h00 h01) (by decide)) d_P_firstFault_27 (by decide) (fun c_27 => ?_) (fun c_27 => by exfalso; omega)
      refine lv_iload_n hx hb d_P_firstFault_36 rfl (lv_at hl 0 rfl) ?_
      refine nr_if_ne (tgt := 48) hx hb (Nat.lt_of_le_of_lt (restFault_le sh h00 h01) (by decide)) d_P_firstFault_37 (by decide) (fun c_37 => ?_) (fun c_37 => by exfalso; omega)
      refine lv_iload_n hx hb d_P_firstFault_48 rfl (lv_at hl 0 rfl) ?_
      exact W.iret (v := (nI (restFault P sh))) hx hb hr (fun t ht hW => ⟨_, rfl, by unfold firstFault; rw [if_neg (fun h => h c_7), if_pos c_17], ht⟩) (fun q h => by cases h) d_P_firstFault_49
    · refine lv_aload_n hx hb d_P_firstFault_20 rfl (lv_at hl 1 rfl) ?_
      refine lv_aload_n hx hb d_P_firstFault_21 rfl (lv_at hl 2 rfl) ?_
      refine nr_calli (va_runV (As := [.ref a]) (rest := []) ⟨hx, hb, hml, hown, hts⟩ (c_P_firstMostFault l D ad ca P a cS sh hP0 hsh ) ⟨callB_of 1 hts (gTB q_P_firstMostFault) rfl rfl rfl (htb _ q2) (htb _ q193) hd_P_firstMostFault ⟨Nat.le_of_ble_eq_true rfl, Nat.le_of_ble_eq_true rfl⟩, (htb _ q195), (htb _ sel_P_firstMostFault)⟩ ⟨ro_blind, va_recv (hK.sub (tys' := []) [] rfl) hP (ci := 0) (q0 := 0) rfl rfl, ro_pre hN (hP.sub (ws' := (wPS ad ca P a cS sh)) [0, 1, 2, 3, 4, 5, 6, 7] rfl) (hK.sub (tys' := (tPS ca cS)) [0, 1, 2, 3, 4, 5, 6] rfl)⟩ rfl rfl hl.1 rfl (lv_room (Nat.le_of_ble_eq_true rfl)) d_P_firstFault_22 ⟨Nat.le_of_ble_eq_true rfl, Nat.le_of_ble_eq_true rfl⟩) (fun r_3 hr_3 => ?_)
      subst hr_3
      refine lv_istore_n (lv' := [(2, .int (nI (mostFault P sh))), (0, .ref (ad 1)), (1, .ref a)]) hx hb d_P_firstFault_25 rfl hl (by decide) rfl (fun ls hl => ?_)
      refine lv_iload_n hx hb d_P_firstFault_26 rfl (lv_at hl 0 rfl) ?_
      refine nr_if_ne (tgt := 36) hx hb (Nat.lt_of_le_of_lt (mostFault_le sh h00 h01) (by decide)) d_P_firstFault_27 (by decide) (fun c_27 => ?_) (fun c_27 => ?_)
      · refine lv_iload_n hx hb d_P_firstFault_36 rfl (lv_at hl 0 rfl) ?_
        refine nr_if_ne (tgt := 48) hx hb (Nat.lt_of_le_of_lt (mostFault_le sh h00 h01) (by decide)) d_P_firstFault_37 (by decide) (fun c_37 => ?_) (fun c_37 => by exfalso; omega)
        refine lv_iload_n hx hb d_P_firstFault_48 rfl (lv_at hl 0 rfl) ?_
        exact W.iret (v := (nI (mostFault P sh))) hx hb hr (fun t ht hW => ⟨_, rfl, by unfold firstFault; rw [if_neg (fun h => h c_7), if_neg (fun h => h c_17), if_pos c_27], ht⟩) (fun q h => by cases h) d_P_firstFault_49
      · refine lv_aload_n hx hb d_P_firstFault_30 rfl (lv_at hl 1 rfl) ?_
        refine lv_aload_n hx hb d_P_firstFault_31 rfl (lv_at hl 2 rfl) ?_
        refine nr_calli (va_runV (As := [.ref a]) (rest := []) ⟨hx, hb, hml, hown, hts⟩ (c_P_firstNightsFault l D ad ca P a cS sh hP0 hsh ) ⟨callB_of 1 hts (gTB q_P_firstNightsFault) rfl rfl rfl (htb _ q2) (htb _ q197) hd_P_firstNightsFault ⟨Nat.le_of_ble_eq_true rfl, Nat.le_of_ble_eq_true rfl⟩, (htb _ q199), (htb _ sel_P_firstNightsFault)⟩ ⟨ro_blind, va_recv (hK.sub (tys' := []) [] rfl) hP (ci := 0) (q0 := 0) rfl rfl, ro_pre hN (hP.sub (ws' := (wPS ad ca P a cS sh)) [0, 1, 2, 3, 4, 5, 6, 7] rfl) (hK.sub (tys' := (tPS ca cS)) [0, 1, 2, 3, 4, 5, 6] rfl)⟩ rfl rfl hl.1 rfl (lv_room (Nat.le_of_ble_eq_true rfl)) d_P_firstFault_32 ⟨Nat.le_of_ble_eq_true rfl, Nat.le_of_ble_eq_true rfl⟩) (fun r_4 hr_4 => ?_)
        subst hr_4
        refine lv_istore_n (lv' := [(2, .int (nI (nightsFault P sh))), (0, .ref (ad 1)), (1, .ref a)]) hx hb d_P_firstFault_35 rfl hl (by decide) rfl (fun ls hl => ?_)
        refine lv_iload_n hx hb d_P_firstFault_36 rfl (lv_at hl 0 rfl) ?_
        refine nr_if_ne (tgt := 48) hx hb (Nat.lt_of_le_of_lt (nightsFault_le sh h00 h01) (by decide)) d_P_firstFault_37 (by decide) (fun c_37 => ?_) (fun c_37 => ?_)
        · refine lv_iload_n hx hb d_P_firstFault_48 rfl (lv_at hl 0 rfl) ?_
          exact W.iret (v := (nI (nightsFault P sh))) hx hb hr (fun t ht hW => ⟨_, rfl, by unfold firstFault; rw [if_neg (fun h => h c_7), if_neg (fun h => h c_17), if_neg (fun h => h c_27), if_pos c_37], ht⟩) (fun q h => by cases h) d_P_firstFault_49
        · refine lv_aload_n hx hb d_P_firstFault_40 rfl (lv_at hl 1 rfl) ?_
          refine lv_aload_n hx hb d_P_firstFault_41 rfl (lv_at hl 2 rfl) ?_
          refine nr_calli (va_runV (As := [.ref a]) (rest := []) ⟨hx, hb, hml, hown, hts⟩ (c_P_firstBarFault l D ad ca P a cS sh hP0 hsh ) ⟨callB_of 1 hts (gTB q_P_firstBarFault) rfl rfl rfl (htb _ q2) (htb _ q201) hd_P_firstBarFault ⟨Nat.le_of_ble_eq_true rfl, Nat.le_of_ble_eq_true rfl⟩, (htb _ q203), (htb _ sel_P_firstBarFault)⟩ ⟨ro_blind, va_recv (hK.sub (tys' := []) [] rfl) hP (ci := 0) (q0 := 0) rfl rfl, ro_pre hN (hP.sub (ws' := (wPS ad ca P a cS sh)) [0, 1, 2, 3, 4, 5, 6, 7] rfl) (hK.sub (tys' := (tPS ca cS)) [0, 1, 2, 3, 4, 5, 6] rfl)⟩ rfl rfl hl.1 rfl (lv_room (Nat.le_of_ble_eq_true rfl)) d_P_firstFault_42 ⟨Nat.le_of_ble_eq_true rfl, Nat.le_of_ble_eq_true rfl⟩) (fun r_5 hr_5 => ?_)
          subst hr_5
          refine lv_goto (tgt := 49) hx hb d_P_firstFault_45 (by decide) ?_
          exact W.iret (v := (nI (barFault P sh))) hx hb hr (fun t ht hW => ⟨_, rfl, by unfold firstFault; rw [if_neg (fun h => h c_7), if_neg (fun h => h c_17), if_neg (fun h => h c_27), if_neg (fun h => h c_37)], ht⟩) (fun q h => by cases h) d_P_firstFault_49
set_option maxHeartbeats 4000000 in
set_option maxRecDepth 100000 in
theorem c_P_unmetSum (l : Launch) (D : va_G) (ad : Nat → Nat) (ca : Nat → ClassId) (P : Nat → Nat → Nat) (a : Nat) (cS : ClassId) (sh : Nat → Nat) (hP0 : okP P) (hsh : ∀ k, sh k ≤ 3) : Met l y_P_unmetSum w_P_unmetSum { frames := 2, cells := 0, slots := 0, locals := 43 } (ro_P [.ref (ad 1), .ref a] D (wPS ad ca P a cS sh) (tPS ca cS)) (vp_Si (fun r => r = nI (unmetSum P sh))) 0 0 (fun _ => False) := by
  refine Met.ofW (cc := b_P_unmetSum) (maxL := 5) (ret := (some .int)) (by decide) rfl ?_
  intro p e s m args below meth c s₁ B hml hv
  obtain ⟨rfl, hN, hP, hK⟩ := hv
  have hx := B.exec
  have hb := B.bytes
  have hr := B.returns
  have hts := atoms_spec (ws := w_P_unmetSum) B.pre
  have htb : ∀ w ∈ TBG, w.before [.ref (ad 1), .ref a].toArray s = true := fun w h => hts w (List.mem_cons_of_mem _ h)
  have hown : s.vm.findClass R_P = some m.cls := findClass_of_methodNamed B.named
  have hlocks := B.notSynchronized
  have hl := lv_entry ([.ref (ad 1), .ref a]) (n := 5) (Nat.le_of_ble_eq_true rfl)
  rw [lg_entry_eq]
  generalize (lg_sl ([.ref (ad 1), .ref a]) ++ List.replicate (5 - (lg_sl ([.ref (ad 1), .ref a])).length) Slot.unset).toArray = ls at hl ⊢
  have hl : lv_has ls 5 [(0, .ref (ad 1)), (1, .ref a)] := hl
  obtain ⟨h00, h01, h02, h03, h04, h05, hp1, hp2, hp3, hp4, hp5, hp6⟩ := id hP0
  refine nr_iconst hx hb 0 d_P_unmetSum_0 (by decide) ?_
  refine lv_istore_n (lv' := [(2, .int (nI 0)), (0, .ref (ad 1)), (1, .ref a)]) hx hb d_P_unmetSum_1 rfl hl (by decide) rfl (fun ls hl => ?_)
  refine nr_iconst hx hb 0 d_P_unmetSum_2 (by decide) ?_
  refine lv_istore_n (lv' := [(3, .int (nI 0)), (2, .int (nI 0)), (0, .ref (ad 1)), (1, .ref a)]) hx hb d_P_unmetSum_3 rfl hl (by decide) rfl (fun ls hl => ?_)
  replace hl : ∃ k d acc : Nat, (d + k = P 0 1) ∧ (us P sh k d acc = unmetSum P sh) ∧ lv_has ls 5 [(0, .ref (ad 1)), (1, .ref a), (2, .int (nI acc)), (3, .int (nI d))] := ⟨P 0 1, 0, 0, Nat.zero_add _, rfl, lv_sub hl [2, 3, 1, 0] rfl⟩
  obtain ⟨k, d, acc, hk, hres, hl⟩ := hl
  induction k generalizing d acc ls with
  | zero =>
    refine lv_iload_n hx hb d_P_unmetSum_4 rfl (lv_at hl 3 rfl) ?_
    refine lv_aload_n hx hb d_P_unmetSum_5 rfl (lv_at hl 0 rfl) ?_
    refine va_get (D := D) (ci := 0) (v := .int (nI (P 0 1))) (C := R_P) (T := F_P) (N := 12) hx hb htb u_P hown hK hP 0 rfl rfl 1 (by decide) (htb _ q31) (fun _ h9 => h9) rfl d_P_unmetSum_6 ?_
    refine nr_icmp_ge (tgt := 58) hx hb (by omega) (by omega) d_P_unmetSum_9 (by decide) (fun c_9 => ?_) (fun c_9 => by exfalso; omega)
    refine lv_iload_n hx hb d_P_unmetSum_58 rfl (lv_at hl 2 rfl) ?_
    exact W.iret (v := (nI acc)) hx hb hr (fun t ht hW => ⟨_, rfl, by rw [← hres, us], ht⟩) (fun q h => by cases h) d_P_unmetSum_59
  | succ k ih_4 =>
    refine lv_iload_n hx hb d_P_unmetSum_4 rfl (lv_at hl 3 rfl) ?_
    refine lv_aload_n hx hb d_P_unmetSum_5 rfl (lv_at hl 0 rfl) ?_
    refine va_get (D := D) (ci := 0) (v := .int (nI (P 0 1))) (C := R_P) (T := F_P) (N := 12) hx hb htb u_P hown hK hP 0 rfl rfl 1 (by decide) (htb _ q31) (fun _ h9 => h9) rfl d_P_unmetSum_6 ?_
    refine nr_icmp_ge (tgt := 58) hx hb (by omega) (by omega) d_P_unmetSum_9 (by decide) (fun c_9 => by exfalso; omega) (fun c_9 => ?_)
    refine nr_iconst hx hb 0 d_P_unmetSum_12 (by decide) ?_
    refine lv_istore (lv' := [(4, .int (nI 0)), (0, .ref (ad 1)), (1, .ref a), (2, .int (nI acc)), (3, .int (nI d))]) hx hb d_P_unmetSum_13 hl (by decide) rfl (fun ls hl => ?_)
    replace hl : ∃ k2 p1 acc2 : Nat, (p1 + k2 = P 0 0) ∧ (us P sh k (d + 1) (us1 P sh d k2 p1 acc2) = unmetSum P sh) ∧ lv_has ls 5 [(0, .ref (ad 1)), (1, .ref a), (2, .int (nI acc2)), (3, .int (nI d)), (4, .int (nI p1))] := ⟨P 0 0, 0, acc, Nat.zero_add _, (by rw [← hres, us]), lv_sub hl [1, 2, 3, 4, 0] rfl⟩
    obtain ⟨k2, p1, acc2, hkp, hin, hl⟩ := hl
    induction k2 generalizing p1 acc2 ls with
    | zero =>
      refine lv_iload hx hb d_P_unmetSum_15 (lv_at hl 4 rfl) ?_
      refine lv_aload_n hx hb d_P_unmetSum_17 rfl (lv_at hl 0 rfl) ?_
      refine va_get (D := D) (ci := 0) (v := .int (nI (P 0 0))) (C := R_P) (T := F_P) (N := 12) hx hb htb u_P hown hK hP 0 rfl rfl 0 (by decide) (htb _ q28) (fun _ h9 => h9) rfl d_P_unmetSum_18 ?_
      refine nr_icmp_ge (tgt := 52) hx hb (by omega) (by omega) d_P_unmetSum_21 (by decide) (fun c_21 => ?_) (fun c_21 => by exfalso; omega)
      refine nr_iinc (k := 3) (lv' := [(3, .int (nI (d + 1))), (0, .ref (ad 1)), (1, .ref a), (2, .int (nI acc2)), (4, .int (nI p1))]) hx hb d_P_unmetSum_52 hl rfl (by decide) rfl (fun ls hl => ?_)
      refine lv_goto (tgt := 4) hx hb d_P_unmetSum_55 (by decide) ?_
      exact ih_4 _ _ _ (by omega) (by rw [us1] at hin; exact hin) (lv_sub hl [1, 2, 3, 0] rfl)
    | succ k2 ih_15 =>
      refine lv_iload hx hb d_P_unmetSum_15 (lv_at hl 4 rfl) ?_
      refine lv_aload_n hx hb d_P_unmetSum_17 rfl (lv_at hl 0 rfl) ?_
      refine va_get (D := D) (ci := 0) (v := .int (nI (P 0 0))) (C := R_P) (T := F_P) (N := 12) hx hb htb u_P hown hK hP 0 rfl rfl 0 (by decide) (htb _ q28) (fun _ h9 => h9) rfl d_P_unmetSum_18 ?_
      refine nr_icmp_ge (tgt := 52) hx hb (by omega) (by omega) d_P_unmetSum_21 (by decide) (fun c_21 => by exfalso; omega) (fun c_21 => ?_)
      refine lv_iload_n hx hb d_P_unmetSum_24 rfl (lv_at hl 2 rfl) ?_
      refine lv_aload_n hx hb d_P_unmetSum_25 rfl (lv_at hl 0 rfl) ?_
      refine va_get (D := D) (ci := 0) (v := .ref (ad 8)) (C := R_P) (T := F_P) (N := 12) hx hb htb u_P hown hK hP 0 rfl rfl 11 (by decide) (htb _ q48) (fun _ h9 => h9) rfl d_P_unmetSum_26 ?_
      refine lv_iload hx hb d_P_unmetSum_29 (lv_at hl 4 rfl) ?_
      refine lv_iload_n hx hb d_P_unmetSum_31 rfl (lv_at hl 3 rfl) ?_
      refine lv_aload_n hx hb d_P_unmetSum_32 rfl (lv_at hl 1 rfl) ?_
      refine lv_iload hx hb d_P_unmetSum_33 (lv_at hl 4 rfl) ?_
      refine lv_iload_n hx hb d_P_unmetSum_35 rfl (lv_at hl 3 rfl) ?_
      refine nr_calli (va_runSN (As := [.int (nI p1), .int (nI d)]) (rest := [.ref a, .int (nI d), .int (nI p1), .ref (ad 8), .int (nI acc2)]) ⟨hx, hb, hml, hown, hts⟩ (c_R_cell l D p1 d) ⟨va_cnB 2 hts (gTB q_R_cell) rfl rfl rfl (hN.nw q173 rfl) (htb _ q1) hd_R_cell ⟨Nat.le_of_ble_eq_true rfl, Nat.le_of_ble_eq_true rfl⟩, (htb _ q174), trivial⟩ ⟨ro_blind, ro_pre hN (hP.sub (ws' := []) [] rfl) (hK.sub (tys' := []) [] rfl)⟩ rfl rfl hl.1 rfl (lv_room (Nat.le_of_ble_eq_true rfl)) d_P_unmetSum_36 ⟨Nat.le_of_ble_eq_true rfl, Nat.le_of_ble_eq_true rfl⟩) (fun r_1 hr_1 => ?_)
      subst hr_1
      refine nr_iald hx hb hK hP 7 6 rfl rfl (by omega) (by decide) d_P_unmetSum_39 ?_
      have hv_2 := hsh (d * 6 + p1)
      refine nr_calli (va_runSN (As := [.int (nI p1), .int (nI d), .int (nI (sh (d * 6 + p1)))]) (rest := [.ref (ad 8), .int (nI acc2)]) ⟨hx, hb, hml, hown, hts⟩ (c_R_choice l D p1 d (sh (d * 6 + p1))) ⟨va_cnB 3 hts (gTB q_R_choice) rfl rfl rfl (hN.nw q205 rfl) (htb _ q1) hd_R_choice ⟨Nat.le_of_ble_eq_true rfl, Nat.le_of_ble_eq_true rfl⟩, (htb _ q206), trivial⟩ ⟨ro_blind, ro_pre hN (hP.sub (ws' := []) [] rfl) (hK.sub (tys' := []) [] rfl)⟩ rfl rfl hl.1 rfl (lv_room (Nat.le_of_ble_eq_true rfl)) d_P_unmetSum_40 ⟨Nat.le_of_ble_eq_true rfl, Nat.le_of_ble_eq_true rfl⟩) (fun r_3 hr_3 => ?_)
      subst hr_3
      refine nr_iald hx hb hK hP 6 5 rfl rfl (by omega) (by decide) d_P_unmetSum_43 ?_
      refine nr_iadd hx hb d_P_unmetSum_44 ?_
      refine lv_istore_n (lv' := [(2, .int (nI (acc2 + (P 6 ((d * 6 + p1) * 4 + (sh (d * 6 + p1))))))), (0, .ref (ad 1)), (1, .ref a), (3, .int (nI d)), (4, .int (nI p1))]) hx hb d_P_unmetSum_45 rfl hl (by decide) rfl (fun ls hl => ?_)
      refine nr_iinc (k := 4) (lv' := [(4, .int (nI (p1 + 1))), (2, .int (nI (acc2 + (P 6 ((d * 6 + p1) * 4 + (sh (d * 6 + p1))))))), (0, .ref (ad 1)), (1, .ref a), (3, .int (nI d))]) hx hb d_P_unmetSum_46 hl rfl (by decide) rfl (fun ls hl => ?_)
      refine lv_goto (tgt := 15) hx hb d_P_unmetSum_49 (by decide) ?_
      exact ih_15 _ _ _ (by omega) (by rw [us1] at hin; exact hin) (lv_sub hl [2, 3, 1, 4, 0] rfl)
set_option maxHeartbeats 4000000 in
set_option maxRecDepth 100000 in
theorem c_P_costOfOne (l : Launch) (D : va_G) (ad : Nat → Nat) (ca : Nat → ClassId) (P : Nat → Nat → Nat) (a : Nat) (cS : ClassId) (sh : Nat → Nat) (hP0 : okP P) (hsh : ∀ k, sh k ≤ 3) (p1 : Nat) (hp16 : p1 < 6) : Met l y_P_costOfOne w_P_costOfOne { frames := 1, cells := 0, slots := 0, locals := 21 } (ro_P [.ref (ad 1), .ref a, .int (nI p1)] D (wPS ad ca P a cS sh) (tPS ca cS)) (vp_Si (fun r => r = nI (costOne P sh p1))) 0 0 (fun _ => False) := by
  refine Met.ofW (cc := b_P_costOfOne) (maxL := 5) (ret := (some .int)) (by decide) rfl ?_
  intro p e s m args below meth c s₁ B hml hv
  obtain ⟨rfl, hN, hP, hK⟩ := hv
  have hx := B.exec
  have hb := B.bytes
  have hr := B.returns
  have hts := atoms_spec (ws := w_P_costOfOne) B.pre
  have htb : ∀ w ∈ TBG, w.before [.ref (ad 1), .ref a, .int (nI p1)].toArray s = true := fun w h => hts w (List.mem_cons_of_mem _ h)
  have hown : s.vm.findClass R_P = some m.cls := findClass_of_methodNamed B.named
  have hlocks := B.notSynchronized
  have hl := lv_entry ([.ref (ad 1), .ref a, .int (nI p1)]) (n := 5) (Nat.le_of_ble_eq_true rfl)
  rw [lg_entry_eq]
  generalize (lg_sl ([.ref (ad 1), .ref a, .int (nI p1)]) ++ List.replicate (5 - (lg_sl ([.ref (ad 1), .ref a, .int (nI p1)])).length) Slot.unset).toArray = ls at hl ⊢
  have hl : lv_has ls 5 [(0, .ref (ad 1)), (1, .ref a), (2, .int (nI p1))] := hl
  obtain ⟨h00, h01, h02, h03, h04, h05, hp1, hp2, hp3, hp4, hp5, hp6⟩ := id hP0
  refine nr_iconst hx hb 0 d_P_costOfOne_0 (by decide) ?_
  refine lv_istore_n (lv' := [(3, .int (nI 0)), (0, .ref (ad 1)), (1, .ref a), (2, .int (nI p1))]) hx hb d_P_costOfOne_1 rfl hl (by decide) rfl (fun ls hl => ?_)
  refine nr_iconst hx hb 0 d_P_costOfOne_2 (by decide) ?_
  refine lv_istore (lv' := [(4, .int (nI 0)), (3, .int (nI 0)), (0, .ref (ad 1)), (1, .ref a), (2, .int (nI p1))]) hx hb d_P_costOfOne_3 hl (by decide) rfl (fun ls hl => ?_)
  replace hl : ∃ k d had : Nat, (d + k = P 0 1) ∧ (co sh p1 k d had = co sh p1 (P 0 1) 0 0) ∧ lv_has ls 5 [(0, .ref (ad 1)), (1, .ref a), (2, .int (nI p1)), (3, .int (nI had)), (4, .int (nI d))] := ⟨P 0 1, 0, 0, Nat.zero_add _, rfl, lv_sub hl [2, 3, 4, 1, 0] rfl⟩
  obtain ⟨k, d, had, hk, hc, hl⟩ := hl
  induction k generalizing d had ls with
  | zero =>
    refine lv_iload hx hb d_P_costOfOne_5 (lv_at hl 4 rfl) ?_
    refine lv_aload_n hx hb d_P_costOfOne_7 rfl (lv_at hl 0 rfl) ?_
    refine va_get (D := D) (ci := 0) (v := .int (nI (P 0 1))) (C := R_P) (T := F_P) (N := 12) hx hb htb u_P hown hK hP 0 rfl rfl 1 (by decide) (htb _ q31) (fun _ h9 => h9) rfl d_P_costOfOne_8 ?_
    refine nr_icmp_ge (tgt := 34) hx hb (by omega) (by omega) d_P_costOfOne_11 (by decide) (fun c_11 => ?_) (fun c_11 => by exfalso; omega)
    refine lv_iload_n hx hb d_P_costOfOne_34 rfl (lv_at hl 3 rfl) ?_
    refine nr_bipush hx hb 8 d_P_costOfOne_35 (by decide) ?_
    refine nr_imul hx hb d_P_costOfOne_37 ?_
    refine lv_aload_n hx hb d_P_costOfOne_38 rfl (lv_at hl 0 rfl) ?_
    refine va_get (D := D) (ci := 0) (v := .ref (ad 4)) (C := R_P) (T := F_P) (N := 12) hx hb htb u_P hown hK hP 0 rfl rfl 7 (by decide) (htb _ q42) (fun _ h9 => h9) rfl d_P_costOfOne_39 ?_
    refine lv_iload_n hx hb d_P_costOfOne_42 rfl (lv_at hl 2 rfl) ?_
    refine nr_iald hx hb hK hP 2 1 rfl rfl (by omega) (by decide) d_P_costOfOne_43 ?_
    refine nr_imul hx hb d_P_costOfOne_44 ?_
    exact W.iret (v := (nI ((had * 8) * (P 2 p1)))) hx hb hr (fun t ht hW => ⟨_, rfl, by rw [costOne, ← hc, co], ht⟩) (fun q h => by cases h) d_P_costOfOne_45
  | succ k ih_5 =>
    refine lv_iload hx hb d_P_costOfOne_5 (lv_at hl 4 rfl) ?_
    refine lv_aload_n hx hb d_P_costOfOne_7 rfl (lv_at hl 0 rfl) ?_
    refine va_get (D := D) (ci := 0) (v := .int (nI (P 0 1))) (C := R_P) (T := F_P) (N := 12) hx hb htb u_P hown hK hP 0 rfl rfl 1 (by decide) (htb _ q31) (fun _ h9 => h9) rfl d_P_costOfOne_8 ?_
    refine nr_icmp_ge (tgt := 34) hx hb (by omega) (by omega) d_P_costOfOne_11 (by decide) (fun c_11 => by exfalso; omega) (fun c_11 => ?_)
    refine lv_aload_n hx hb d_P_costOfOne_14 rfl (lv_at hl 1 rfl) ?_
    refine lv_iload_n hx hb d_P_costOfOne_15 rfl (lv_at hl 2 rfl) ?_
    refine lv_iload hx hb d_P_costOfOne_16 (lv_at hl 4 rfl) ?_
    refine nr_calli (va_runSN (As := [.int (nI p1), .int (nI d)]) (rest := [.ref a]) ⟨hx, hb, hml, hown, hts⟩ (c_R_cell l D p1 d) ⟨va_cnB 2 hts (gTB q_R_cell) rfl rfl rfl (hN.nw q173 rfl) (htb _ q1) hd_R_cell ⟨Nat.le_of_ble_eq_true rfl, Nat.le_of_ble_eq_true rfl⟩, (htb _ q174), trivial⟩ ⟨ro_blind, ro_pre hN (hP.sub (ws' := []) [] rfl) (hK.sub (tys' := []) [] rfl)⟩ rfl rfl hl.1 rfl (lv_room (Nat.le_of_ble_eq_true rfl)) d_P_costOfOne_18 ⟨Nat.le_of_ble_eq_true rfl, Nat.le_of_ble_eq_true rfl⟩) (fun r_1 hr_1 => ?_)
    subst hr_1
    refine nr_iald hx hb hK hP 7 6 rfl rfl (by omega) (by decide) d_P_costOfOne_21 ?_
    have hv_2 := hsh (d * 6 + p1)
    refine nr_if_eq (tgt := 28) hx hb (by omega) d_P_costOfOne_22 (by decide) (fun c_22 => ?_) (fun c_22 => ?_)
    · refine nr_iinc (k := 4) (lv' := [(4, .int (nI (d + 1))), (0, .ref (ad 1)), (1, .ref a), (2, .int (nI p1)), (3, .int (nI had))]) hx hb d_P_costOfOne_28 hl rfl (by decide) rfl (fun ls hl => ?_)
      refine lv_goto (tgt := 5) hx hb d_P_costOfOne_31 (by decide) ?_
      exact ih_5 _ _ _ (by omega) (by rw [← hc, co, if_pos c_22]) (lv_sub hl [1, 2, 3, 4, 0] rfl)
    · refine nr_iinc (k := 3) (lv' := [(3, .int (nI (had + 1))), (0, .ref (ad 1)), (1, .ref a), (2, .int (nI p1)), (4, .int (nI d))]) hx hb d_P_costOfOne_25 hl rfl (by decide) rfl (fun ls hl => ?_)
      refine nr_iinc (k := 4) (lv' := [(4, .int (nI (d + 1))), (3, .int (nI (had + 1))), (0, .ref (ad 1)), (1, .ref a), (2, .int (nI p1))]) hx hb d_P_costOfOne_28 hl rfl (by decide) rfl (fun ls hl => ?_)
      refine lv_goto (tgt := 5) hx hb d_P_costOfOne_31 (by decide) ?_
      exact ih_5 _ _ _ (by omega) (by rw [← hc, co, if_neg c_22]) (lv_sub hl [2, 3, 4, 1, 0] rfl)
set_option maxHeartbeats 4000000 in
set_option maxRecDepth 100000 in
theorem c_P_costOfAll (l : Launch) (D : va_G) (ad : Nat → Nat) (ca : Nat → ClassId) (P : Nat → Nat → Nat) (a : Nat) (cS : ClassId) (sh : Nat → Nat) (hP0 : okP P) (hsh : ∀ k, sh k ≤ 3) : Met l y_P_costOfAll w_P_costOfAll { frames := 2, cells := 0, slots := 0, locals := 45 } (ro_P [.ref (ad 1), .ref a] D (wPS ad ca P a cS sh) (tPS ca cS)) (vp_Si (fun r => r = nI (costAll P sh))) 0 0 (fun _ => False) := by
  refine Met.ofW (cc := b_P_costOfAll) (maxL := 4) (ret := (some .int)) (by decide) rfl ?_
  intro p e s m args below meth c s₁ B hml hv
  obtain ⟨rfl, hN, hP, hK⟩ := hv
  have hx := B.exec
  have hb := B.bytes
  have hr := B.returns
  have hts := atoms_spec (ws := w_P_costOfAll) B.pre
  have htb : ∀ w ∈ TBG, w.before [.ref (ad 1), .ref a].toArray s = true := fun w h => hts w (List.mem_cons_of_mem _ h)
  have hown : s.vm.findClass R_P = some m.cls := findClass_of_methodNamed B.named
  have hlocks := B.notSynchronized
  have hl := lv_entry ([.ref (ad 1), .ref a]) (n := 4) (Nat.le_of_ble_eq_true rfl)
  rw [lg_entry_eq]
  generalize (lg_sl ([.ref (ad 1), .ref a]) ++ List.replicate (4 - (lg_sl ([.ref (ad 1), .ref a])).length) Slot.unset).toArray = ls at hl ⊢
  have hl : lv_has ls 4 [(0, .ref (ad 1)), (1, .ref a)] := hl
  obtain ⟨h00, h01, h02, h03, h04, h05, hp1, hp2, hp3, hp4, hp5, hp6⟩ := id hP0
  refine nr_iconst hx hb 0 d_P_costOfAll_0 (by decide) ?_
  refine lv_istore_n (lv' := [(2, .int (nI 0)), (0, .ref (ad 1)), (1, .ref a)]) hx hb d_P_costOfAll_1 rfl hl (by decide) rfl (fun ls hl => ?_)
  refine nr_iconst hx hb 0 d_P_costOfAll_2 (by decide) ?_
  refine lv_istore_n (lv' := [(3, .int (nI 0)), (2, .int (nI 0)), (0, .ref (ad 1)), (1, .ref a)]) hx hb d_P_costOfAll_3 rfl hl (by decide) rfl (fun ls hl => ?_)
  replace hl : ∃ k p1 acc : Nat, (p1 + k = P 0 0) ∧ (ca1 P sh k p1 acc = costAll P sh) ∧ lv_has ls 4 [(0, .ref (ad 1)), (1, .ref a), (2, .int (nI acc)), (3, .int (nI p1))] := ⟨P 0 0, 0, 0, Nat.zero_add _, rfl, lv_sub hl [2, 3, 1, 0] rfl⟩
  obtain ⟨k, p1, acc, hk, hres, hl⟩ := hl
  induction k generalizing p1 acc ls with
  | zero =>
    refine lv_iload_n hx hb d_P_costOfAll_4 rfl (lv_at hl 3 rfl) ?_
    refine lv_aload_n hx hb d_P_costOfAll_5 rfl (lv_at hl 0 rfl) ?_
    refine va_get (D := D) (ci := 0) (v := .int (nI (P 0 0))) (C := R_P) (T := F_P) (N := 12) hx hb htb u_P hown hK hP 0 rfl rfl 0 (by decide) (htb _ q28) (fun _ h9 => h9) rfl d_P_costOfAll_6 ?_
    refine nr_icmp_ge (tgt := 27) hx hb (by omega) (by omega) d_P_costOfAll_9 (by decide) (fun c_9 => ?_) (fun c_9 => by exfalso; omega)
    refine lv_iload_n hx hb d_P_costOfAll_27 rfl (lv_at hl 2 rfl) ?_
    exact W.iret (v := (nI acc)) hx hb hr (fun t ht hW => ⟨_, rfl, by rw [← hres, ca1], ht⟩) (fun q h => by cases h) d_P_costOfAll_28
  | succ k ih_4 =>
    refine lv_iload_n hx hb d_P_costOfAll_4 rfl (lv_at hl 3 rfl) ?_
    refine lv_aload_n hx hb d_P_costOfAll_5 rfl (lv_at hl 0 rfl) ?_
    refine va_get (D := D) (ci := 0) (v := .int (nI (P 0 0))) (C := R_P) (T := F_P) (N := 12) hx hb htb u_P hown hK hP 0 rfl rfl 0 (by decide) (htb _ q28) (fun _ h9 => h9) rfl d_P_costOfAll_6 ?_
    refine nr_icmp_ge (tgt := 27) hx hb (by omega) (by omega) d_P_costOfAll_9 (by decide) (fun c_9 => by exfalso; omega) (fun c_9 => ?_)
    refine lv_iload_n hx hb d_P_costOfAll_12 rfl (lv_at hl 2 rfl) ?_
    refine lv_aload_n hx hb d_P_costOfAll_13 rfl (lv_at hl 0 rfl) ?_
    refine lv_aload_n hx hb d_P_costOfAll_14 rfl (lv_at hl 1 rfl) ?_
    refine lv_iload_n hx hb d_P_costOfAll_15 rfl (lv_at hl 3 rfl) ?_
    refine nr_calli (va_runV (As := [.ref a, .int (nI p1)]) (rest := [.int (nI acc)]) ⟨hx, hb, hml, hown, hts⟩ (c_P_costOfOne l D ad ca P a cS sh hP0 hsh p1 (by omega)) ⟨callB_of 2 hts (gTB q_P_costOfOne) rfl rfl rfl (htb _ q2) (htb _ q225) hd_P_costOfOne ⟨Nat.le_of_ble_eq_true rfl, Nat.le_of_ble_eq_true rfl⟩, (htb _ q227), (htb _ sel_P_costOfOne)⟩ ⟨ro_blind, va_recv (hK.sub (tys' := []) [] rfl) hP (ci := 0) (q0 := 0) rfl rfl, ro_pre hN (hP.sub (ws' := (wPS ad ca P a cS sh)) [0, 1, 2, 3, 4, 5, 6, 7] rfl) (hK.sub (tys' := (tPS ca cS)) [0, 1, 2, 3, 4, 5, 6] rfl)⟩ rfl rfl hl.1 rfl (lv_room (Nat.le_of_ble_eq_true rfl)) d_P_costOfAll_16 ⟨Nat.le_of_ble_eq_true rfl, Nat.le_of_ble_eq_true rfl⟩) (fun r_1 hr_1 => ?_)
    subst hr_1
    refine nr_iadd hx hb d_P_costOfAll_19 ?_
    refine lv_istore_n (lv' := [(2, .int (nI (acc + (costOne P sh p1)))), (0, .ref (ad 1)), (1, .ref a), (3, .int (nI p1))]) hx hb d_P_costOfAll_20 rfl hl (by decide) rfl (fun ls hl => ?_)
    refine nr_iinc (k := 3) (lv' := [(3, .int (nI (p1 + 1))), (2, .int (nI (acc + (costOne P sh p1)))), (0, .ref (ad 1)), (1, .ref a)]) hx hb d_P_costOfAll_21 hl rfl (by decide) rfl (fun ls hl => ?_)
    refine lv_goto (tgt := 4) hx hb d_P_costOfAll_24 (by decide) ?_
    exact ih_4 _ _ _ (by omega) (by rw [← hres, ca1]) (lv_sub hl [2, 3, 1, 0] rfl)
end
section
/-- the start of a contract that may write -/
def rw_P (av : List Value) (D : va_G) (ws : va_W) (tys : List (ClassId × FieldType)) (sz : Nat) : Array Value → State → Prop := va_Pc av (fun U => U.heap.size = sz ∧ NX U ∧ va_P D cls ws U.heap ∧ va_K D cls tys U ∧ va_D (fun _ => True) ws)
theorem rw_blind {av : List Value} {D : va_G} {ws : va_W} {tys : List (ClassId × FieldType)} {sz : Nat} : FrameBlind (rw_P av D ws tys sz) := fun a U g mk q => ⟨q.1, q.2.1, q.2.2.1.calling, q.2.2.2.1, va_K.moved (u := U) (U := U.calling g mk a) (Vm.Alike.refl U.vm) q.2.2.2.2.1, q.2.2.2.2.2⟩
theorem rw_pre {s : State} {H : Heap} {av : List Value} {D : va_G} {ws : va_W} {tys : List (ClassId × FieldType)} {A : Nat → Prop} (hN : NX s) (hP : va_P D cls ws H) (hK : va_K D cls tys s) (hD : va_D A ws) : ∀ U : State, U.heap = H → s.WarmedH U.vm → rw_P av D ws tys H.size av.toArray U := fun U hU hW => ⟨rfl, by rw [hU], hN.warm hW, by rw [hU]; exact hP, va_K.moved hW.alike hK, hD.weaken (fun _ _ _ _ => trivial)⟩
/-- its end: a new world over the same addresses; void, and an int -/
abbrev rw_Qv {S : Type} (post : S → Prop) (D : va_G) (wc : va_W) (w1 : S → va_W) (sz : Nat) : Array Value → State → Outcome → State → Prop := va_Qv post (fun u t => va_P D cls (w1 u) t.heap ∧ va_D (va_A wc sz) (w1 u)) (va_A wc sz)
abbrev rw_Qi {S : Type} (post : Int32 → S → Prop) (D : va_G) (wc : va_W) (w1 : S → va_W) (sz : Nat) : Array Value → State → Outcome → State → Prop := va_Qi post (fun u t => va_P D cls (w1 u) t.heap ∧ va_D (va_A wc sz) (w1 u)) (va_A wc sz)
section NW
variable {p : Program} {l : Launch} {e : Env} {R : Room} {s : State} {m : MethodId} {args : Array Value} {below : List Frame} {meth : Method} {c : Code} {H : Heap} {locs : List Loc} {cells slots : Nat} {Q : State → Prop} {pc : Nat} {ls : Array Slot} {rest st0 : List Value}
variable {D : va_G} {ws wc wr : va_W} {A : Nat → Prop} {H0 : Heap} {a : Array Value} {mc ms : Nat}
theorem nr_callv {S : Type} {post : S → Prop} {w1 : S → va_W} (hr : va_Run p l e R s m args below meth c H locs cells slots mc ms (F0 m pc ls st0) rest (rw_Qv post D wc w1 H.size a) (va_A wc H.size)) (hP : va_P D cls ws H) (hD : va_D A ws) (hS : va_S A H0 H locs) (hA : ∀ q, H0.size ≤ q → A q) (isC isR : List Nat) (hC : isC.map (fun i => ws[i]?) = wc.map some) (hR : isR.map (fun i => ws[i]?) = wr.map some) (hn : va_nd isR = true) (hdis : ∀ i ∈ isR, i ∉ isC)
    (kk : ∀ (u : S) (H1 : Heap) (locs1 : List Loc), post u → va_P D cls (wr ++ w1 u) H1 → va_D A (wr ++ w1 u) → va_S A H0 H1 locs1 → W p l e R s m args below meth c H1 locs1 (cells + mc) (slots + ms) Q (F0 m (pc + 3) ls rest)) : W p l e R s m args below meth c H locs cells slots Q (F0 m pc ls st0) := by
  have hF := va_free (wc := wc) hD hS hA isC hC
  refine va_callv hr hS (fun q _ h => hF q h) hF (fun u t H1 locs1 ht hvm hp hB hz hk hS1 => ?_)
  obtain ⟨hP1, hD1⟩ := hB
  rw [ht] at hP1
  obtain ⟨hP2, hD2⟩ := va_join hP hD isC isR hC hR hn hdis hk hF hP1 hD1
  exact kk u H1 locs1 hp hP2 hD2 hS1
theorem nr_callwi {S : Type} {post : Int32 → S → Prop} {w1 : S → va_W} (hr : va_Run p l e R s m args below meth c H locs cells slots mc ms (F0 m pc ls st0) rest (rw_Qi post D wc w1 H.size a) (va_A wc H.size)) (hP : va_P D cls ws H) (hD : va_D A ws) (hS : va_S A H0 H locs) (hA : ∀ q, H0.size ≤ q → A q) (isC isR : List Nat) (hC : isC.map (fun i => ws[i]?) = wc.map some) (hR : isR.map (fun i => ws[i]?) = wr.map some) (hn : va_nd isR = true) (hdis : ∀ i ∈ isR, i ∉ isC)
    (kk : ∀ (r : Int32) (u : S) (H1 : Heap) (locs1 : List Loc), post r u → va_P D cls (wr ++ w1 u) H1 → va_D A (wr ++ w1 u) → va_S A H0 H1 locs1 → W p l e R s m args below meth c H1 locs1 (cells + mc) (slots + ms) Q (F0 m (pc + 3) ls (.int r :: rest))) : W p l e R s m args below meth c H locs cells slots Q (F0 m pc ls st0) := by
  have hF := va_free (wc := wc) hD hS hA isC hC
  refine va_calli hr hS (fun q _ h => hF q h) hF (fun r u t H1 locs1 ht hvm hp hB hz hk hS1 => ?_)
  obtain ⟨hP1, hD1⟩ := hB
  rw [ht] at hP1
  obtain ⟨hP2, hD2⟩ := va_join hP hD isC isR hC hR hn hdis hk hF hP1 hD1
  exact kk r u H1 locs1 hp hP2 hD2 hS1
end NW
theorem nr_arrV {cA : ClassId} {n : Nat} {f g : Nat → Value} (h : ∀ j, j < n → f j = g j) : arrV cA n f = arrV cA n g := by
  unfold arrV
  congr 2
  funext j
  exact h j.1 j.2
/-- what an array holds beyond its end is nobody's -/
theorem nr_swap {D : va_G} {cl : List vw_C} {A : Nat → Prop} {ws : va_W} {H : Heap} {a n q0 : Nat} {cA : ClassId} {f g : Nat → Int32} (hP : va_P D cl ws H) (hD : va_D A ws) (ha : ws[q0]? = some (a, .inl (cA, n, .inl f))) (h : ∀ j, j < n → f j = g j) : va_P D cl (ws.set q0 (a, .inl (cA, n, .inl g))) H ∧ va_D A (ws.set q0 (a, .inl (cA, n, .inl g))) := by
  refine ⟨hP.set hD ha ?_ (fun _ _ => rfl), hD.set ha⟩
  have h1 : H[a]? = some (vp_cell cA (n, .inl f)) := hP q0 _ ha
  show H[a]? = some (vp_cell cA (n, .inl g))
  rw [h1, vp_cell_i, vp_cell_i, nr_arrV (fun j hj => by rw [h j hj])]
section NY
variable {p : Program} {l : Launch} {e : Env} {R : Room} {s : State} {m : MethodId} {args : Array Value} {below : List Frame} {meth : Method} {c : Code} {H : Heap} {locs : List Loc} {cells slots : Nat} {Q : State → Prop} {pc : Nat} {ls : Array Slot} {rest : List Value}
variable {cc : ByteArray} {D : va_G} {cl : List vw_C} {A : Nat → Prop} {a : Nat} {tys : List (ClassId × FieldType)} {ws : va_W} {H0 : Heap}
/-- the whole of an array is copied into another of its length -/
theorem nr_copy (hexec : p.tables.exec = Jvm.exec) (hb : c.code = cc) (hml : c.maxLocals = ls.size) {own : String} {index : Nat} (hown : s.vm.findClass own = some m.cls) (hlink : (Cond.methodLink own index arraycopyName).before args s = true) (hnat : (Cond.native arraycopyName).before args s = true) (hstat : (Cond.static arraycopyName).before args s = true) (hini : (Cond.initialized "java/lang/System").before args s = true)
    (hK : va_K D cl tys s) (hP : va_P D cl ws H) (hD : va_D A ws) (hS : va_S A H0 H locs) (q0 q1 t0 t1 : Nat) {a0 : Nat} {c0 c1 : ClassId} {f g : Nat → Nat} (ha0 : ws[q0]? = some (a0, .inl (c0, 42, .inl (fun k => nI (f k))))) (ha1 : ws[q1]? = some (a, .inl (c1, 42, .inl (fun k => nI (g k))))) (ht0 : tys[t0]? = some (c0, .int)) (ht1 : tys[t1]? = some (c1, .int))
    (hframes : 1 ≤ R.frames) (hlocals : (rest.map fun v => v.category).sum + 18 ≤ R.locals) (hdg : decode cc pc = .ok (.invokestatic index, 3))
    (kk : ∀ (H1 : Heap) (locs1 : List Loc), va_P D cl (ws.set q1 (a, .inl (c1, 42, .inl (fun k => nI (f k))))) H1 → va_D A (ws.set q1 (a, .inl (c1, 42, .inl (fun k => nI (f k))))) → va_S A H0 H1 locs1 → W p l e R s m args below meth c H1 locs1 cells slots Q (F0 m (pc + 3) ls rest)) : W p l e R s m args below meth c H locs cells slots Q (F0 m pc ls (.int (nI 42) :: .int (nI 0) :: .ref a :: .int (nI 0) :: .ref a0 :: rest)) := by
  refine va_copyi (f := fun k => nI (f k)) (g := fun k => nI (g k)) hexec hb hml hown hlink hnat hstat hini hK hP hD hS q0 q1 t0 t1 ha0 ha1 ht0 ht1 rfl (by decide) (by decide) (by decide) (by decide) (by decide) (fun _ _ => rfl) hframes hlocals hdg (fun H1 locs1 hP1 hD1 hS1 => ?_)
  have hi : q1 < ws.length := (List.getElem?_eq_some_iff.mp ha1).1
  obtain ⟨hP2, hD2⟩ := nr_swap (q0 := q1) (g := fun k => nI (f k)) hP1 hD1 (by rw [List.getElem?_set_self hi]) (fun j hj => by
    have e1 : (nI 0).toNatClampNeg = 0 := by decide
    have e2 : (nI 42).toNatClampNeg = 42 := by decide
    rw [e1, e2, pk_cpy_in (Nat.zero_le j) (by omega)]
    simp)
  rw [List.set_set] at hP2 hD2
  exact kk H1 locs1 hP2 hD2 hS1
end NY
theorem upr_self (S : Nat → Nat → Nat) (a : Nat) (f : Nat → Nat) (k : Nat) : upr S a f a k = f k := by simp [upr]
theorem nr_start {p : Program} {l : Launch} {e : Env} {R : Room} {s : State} {m : MethodId} {args : Array Value} {below : List Frame} {meth : Method} {c : Code} {H : Heap} {locs : List Loc} {cells slots : Nat} {Q : State → Prop} {g : JFrame} {D : va_G} {cl : List vw_C} {A : Nat → Prop} {ws : va_W} {H0 : Heap} (hP : va_P D cl ws H) (hS : va_S A H0 H locs) (kk : ∀ (H1 : Heap) (locs1 : List Loc), va_P D cl ws H1 → va_S A H0 H1 locs1 → W p l e R s m args below meth c H1 locs1 cells slots Q g) : W p l e R s m args below meth c H locs cells slots Q g := kk H locs hP hS
def up1 (f : Nat → Nat) (i x : Nat) : Nat → Nat := fun k => if k = i then x else f k
end
section
/-- the plan behind startDays -/
def sdP (P : Nat → Nat → Nat) (d : Nat) : Nat → Nat → Nat := upr (upr (upr (upr (up2 (up2 P 0 1 d) 0 5 0) 3 (fun _ => 0)) 4 (fun _ => 0)) 6 (fun _ => 0)) 5 (fun _ => 0)
/-- a wish: from the choice fc + o on, k of them: the weight is added where the wish is not met -/
def aw (fc sf wb wt : Nat) : Nat → Nat → (Nat → Nat → Nat) → Nat → Nat → Nat
  | 0, _, P => P
  | k + 1, o, P => aw fc sf wb wt k (o + 1) (if (if o = sf then 1 else 0) = wb then P else up2 P 6 (fc + o) (P 6 (fc + o) + wt))
set_option maxHeartbeats 4000000 in
set_option maxRecDepth 100000 in
theorem c_R_clearRow (l : Launch) (D : va_G) (a : Nat) (cA : ClassId) (n : Nat) (hn : n < 2147483648) (f : Nat → Nat) (sz : Nat) : Met l y_R_clearRow w_R_clearRow { frames := 0, cells := 0, slots := 0, locals := 0 } (rw_P [.ref a] D ([(a, .inl (cA, n, .inl (fun k => nI (f k))))]) ([(cA, .int)]) sz) (rw_Qv (fun u : Unit => True) D ([(a, .inl (cA, n, .inl (fun k => nI (f k))))]) (fun u => [(a, .inl (cA, n, .inl (fun _ => nI 0)))]) sz) 0 0 (va_A ([(a, .inl (cA, n, .inl (fun k => nI (f k))))]) sz) := by
  refine Met.ofW (cc := b_R_clearRow) (maxL := 2) (ret := none) (by decide) rfl ?_
  intro p e s m args below meth c s₁ B hml hv
  obtain ⟨rfl, hsz, hN, hP, hK, hD0⟩ := hv
  have hx := B.exec
  have hb := B.bytes
  have hr := B.returns
  have hts := atoms_spec (ws := w_R_clearRow) B.pre
  have htb : ∀ w ∈ TBG, w.before [.ref a].toArray s = true := fun w h => hts w (List.mem_cons_of_mem _ h)
  have hown : s.vm.findClass R_R = some m.cls := findClass_of_methodNamed B.named
  have hlocks := B.notSynchronized
  subst hsz
  have hD := hD0.self (sz := s.heap.size)
  unfold rw_Qv
  generalize hAe : va_A ([(a, .inl (cA, n, .inl (fun k => nI (f k))))]) s.heap.size = A at hD ⊢
  have hA : ∀ q : Nat, s.heap.size ≤ q → A q := fun q h => by rw [← hAe]; exact Or.inr h
  have hS : va_S A s.heap s.heap [] := va_S.rf
  have hl := lv_entry ([.ref a]) (n := 2) (Nat.le_of_ble_eq_true rfl)
  rw [lg_entry_eq]
  generalize (lg_sl ([.ref a]) ++ List.replicate (2 - (lg_sl ([.ref a])).length) Slot.unset).toArray = ls at hl ⊢
  have hl : lv_has ls 2 [(0, .ref a)] := hl
  refine nr_start hP hS (fun H locs hP hS => ?_)
  refine nr_iconst hx hb 0 d_R_clearRow_0 (by decide) ?_
  refine lv_istore_n (lv' := [(1, .int (nI 0)), (0, .ref a)]) hx hb d_R_clearRow_1 rfl hl (by decide) rfl (fun ls hl => ?_)
  replace hP : ∃ (k i : Nat) (f1 : Nat → Nat), (i + k = n) ∧ (∀ j, j < i → f1 j = 0) ∧ lv_has ls 2 [(0, .ref a), (1, .int (nI i))] ∧ va_P D cls ([(a, .inl (cA, n, .inl (fun k => nI (f1 k))))]) H ∧ va_D A ([(a, .inl (cA, n, .inl (fun k => nI (f1 k))))]) ∧ va_S A s.heap H locs := ⟨n, 0, f, Nat.zero_add _, fun j h => absurd h (Nat.not_lt_zero j), lv_sub hl [1, 0] rfl, hP, hD, hS⟩
  clear hl hD hS
  obtain ⟨k, i, f1, hk, hf, hl, hP, hD, hS⟩ := hP
  induction k generalizing i f1 ls H locs with
  | zero =>
    refine lv_iload_n hx hb d_R_clearRow_2 rfl (lv_at hl 1 rfl) ?_
    refine lv_aload_n hx hb d_R_clearRow_3 rfl (lv_at hl 0 rfl) ?_
    refine va_alen (v := nI n) hx hb hK hP 0 0 rfl rfl rfl d_R_clearRow_4 ?_
    refine nr_icmp_ge (tgt := 18) hx hb (by omega) (by omega) d_R_clearRow_5 (by decide) (fun c_5 => ?_) (fun c_5 => by exfalso; omega)
    obtain ⟨hP, hD⟩ := nr_swap (q0 := 0) (g := fun _ => nI 0) hP hD rfl (fun j hj => by rw [hf j (by omega)])
    have hP : va_P D cls [(a, .inl (cA, n, .inl (fun _ => nI 0)))] H := hP
    have hD : va_D A [(a, .inl (cA, n, .inl (fun _ => nI 0)))] := hD
    exact W.vret hx hb hr (fun t ht hW => ⟨⟨(), rfl, trivial, by rw [ht]; exact hP, hD⟩, hS.F ht⟩) hS.2.2 d_R_clearRow_18
  | succ k ih_2 =>
    refine lv_iload_n hx hb d_R_clearRow_2 rfl (lv_at hl 1 rfl) ?_
    refine lv_aload_n hx hb d_R_clearRow_3 rfl (lv_at hl 0 rfl) ?_
    refine va_alen (v := nI n) hx hb hK hP 0 0 rfl rfl rfl d_R_clearRow_4 ?_
    refine nr_icmp_ge (tgt := 18) hx hb (by omega) (by omega) d_R_clearRow_5 (by decide) (fun c_5 => by exfalso; omega) (fun c_5 => ?_)
    refine lv_aload_n hx hb d_R_clearRow_8 rfl (lv_at hl 0 rfl) ?_
    refine lv_iload_n hx hb d_R_clearRow_9 rfl (lv_at hl 1 rfl) ?_
    refine nr_iconst hx hb 0 d_R_clearRow_10 (by decide) ?_
    refine nr_iast hx hb hK hP hD hS 0 0 rfl rfl (by omega) hn d_R_clearRow_11 (fun H locs hP hD hS => ?_)
    have hP : va_P D cls ([(a, .inl (cA, n, .inl (fun k => nI ((up1 f1 i 0) k))))]) H := hP
    have hD : va_D A ([(a, .inl (cA, n, .inl (fun k => nI ((up1 f1 i 0) k))))]) := hD
    refine nr_iinc (k := 1) (lv' := [(1, .int (nI (i + 1))), (0, .ref a)]) hx hb d_R_clearRow_12 hl rfl (by decide) rfl (fun ls hl => ?_)
    refine lv_goto (tgt := 2) hx hb d_R_clearRow_15 (by decide) ?_
    exact ih_2 _ _ _ _ _ (by omega) (fun j h => by unfold up1; split; rfl; exact hf j (by omega)) (lv_sub hl [1, 0] rfl) hP hD hS
set_option maxHeartbeats 4000000 in
set_option maxRecDepth 100000 in
theorem c_P_startDays (l : Launch) (D : va_G) (ad : Nat → Nat) (ca : Nat → ClassId) (P : Nat → Nat → Nat) (d : Nat) (sz : Nat) : Met l y_P_startDays w_P_startDays { frames := 1, cells := 0, slots := 0, locals := 21 } (rw_P [.ref (ad 1), .int (nI d)] D (wP ad ca P) (tP ca) sz) (rw_Qv (fun u : Unit => True) D (wP ad ca P) (fun u => wP ad ca (sdP P d)) sz) 0 0 (va_A (wP ad ca P) sz) := by
  refine Met.ofW (cc := b_P_startDays) (maxL := 3) (ret := none) (by decide) rfl ?_
  intro p e s m args below meth c s₁ B hml hv
  obtain ⟨rfl, hsz, hN, hP, hK, hD0⟩ := hv
  have hx := B.exec
  have hb := B.bytes
  have hr := B.returns
  have hts := atoms_spec (ws := w_P_startDays) B.pre
  have htb : ∀ w ∈ TBG, w.before [.ref (ad 1), .int (nI d)].toArray s = true := fun w h => hts w (List.mem_cons_of_mem _ h)
  have hown : s.vm.findClass R_P = some m.cls := findClass_of_methodNamed B.named
  have hlocks := B.notSynchronized
  subst hsz
  have hD := hD0.self (sz := s.heap.size)
  unfold rw_Qv
  generalize hAe : va_A (wP ad ca P) s.heap.size = A at hD ⊢
  have hA : ∀ q : Nat, s.heap.size ≤ q → A q := fun q h => by rw [← hAe]; exact Or.inr h
  have hS : va_S A s.heap s.heap [] := va_S.rf
  have hl := lv_entry ([.ref (ad 1), .int (nI d)]) (n := 3) (Nat.le_of_ble_eq_true rfl)
  rw [lg_entry_eq]
  generalize (lg_sl ([.ref (ad 1), .int (nI d)]) ++ List.replicate (3 - (lg_sl ([.ref (ad 1), .int (nI d)])).length) Slot.unset).toArray = ls at hl ⊢
  have hl : lv_has ls 3 [(0, .ref (ad 1)), (1, .int (nI d))] := hl
  refine nr_start hP hS (fun H locs hP hS => ?_)
  refine lv_aload_n hx hb d_P_startDays_0 rfl (lv_at hl 0 rfl) ?_
  refine lv_iload_n hx hb d_P_startDays_1 rfl (lv_at hl 1 rfl) ?_
  refine va_put (D := D) (ci := 0) (v := .int (nI d)) (ty := .int) (C := R_P) (T := F_P) (N := 12) hx hb htb u_P t_P t_P_ok n_P hown hK hP hD hS 0 rfl rfl 1 (by decide) (htb _ q31) (fun _ h9 => h9) rfl (by decide +kernel) rfl rfl (Nat.le_of_ble_eq_true rfl) d_P_startDays_2 (fun H locs hP hD hS => ?_)
  have hP : va_P D cls (wP ad ca (up2 P 0 1 d)) H := hP
  have hD : va_D A (wP ad ca (up2 P 0 1 d)) := hD
  refine lv_aload_n hx hb d_P_startDays_5 rfl (lv_at hl 0 rfl) ?_
  refine nr_iconst hx hb 0 d_P_startDays_6 (by decide) ?_
  refine va_put (D := D) (ci := 0) (v := .int (nI 0)) (ty := .int) (C := R_P) (T := F_P) (N := 12) hx hb htb u_P t_P t_P_ok n_P hown hK hP hD hS 0 rfl rfl 5 (by decide) (htb _ q39) (fun _ h9 => h9) rfl (by decide +kernel) rfl rfl (Nat.le_of_ble_eq_true rfl) d_P_startDays_7 (fun H locs hP hD hS => ?_)
  have hP : va_P D cls (wP ad ca (up2 (up2 P 0 1 d) 0 5 0)) H := hP
  have hD : va_D A (wP ad ca (up2 (up2 P 0 1 d) 0 5 0)) := hD
  refine lv_aload_n hx hb d_P_startDays_10 rfl (lv_at hl 0 rfl) ?_
  refine va_get (D := D) (ci := 0) (v := .ref (ad 5)) (C := R_P) (T := F_P) (N := 12) hx hb htb u_P hown hK hP 0 rfl rfl 8 (by decide) (htb _ q43) (fun _ h9 => h9) rfl d_P_startDays_11 ?_
  refine nr_callv (wr := [0, 1, 2, 4, 5, 6].filterMap (fun i => (wP ad ca (up2 (up2 P 0 1 d) 0 5 0))[i]?)) (va_runSN (As := [.ref (ad 5)]) (rest := []) ⟨hx, hb, hml, hown, hts⟩ (c_R_clearRow l D (ad 5) (ca 2) 28 (by decide) ((up2 (up2 P 0 1 d) 0 5 0) 3) H.size) ⟨va_cnB 1 hts (gTB q_R_clearRow) rfl rfl rfl (hN.nw q321 rfl) (htb _ q1) hd_R_clearRow ⟨Nat.le_of_ble_eq_true rfl, Nat.le_of_ble_eq_true rfl⟩, (htb _ q322), trivial⟩ ⟨rw_blind, rw_pre hN (hP.sub (ws' := [(ad 5, .inl (ca 2, 28, .inl (fun k => nI ((up2 (up2 P 0 1 d) 0 5 0) 3 k))))]) [3] rfl) (hK.sub (tys' := [(ca 2, .int)]) [2] rfl) (hD.sub (ws' := [(ad 5, .inl (ca 2, 28, .inl (fun k => nI ((up2 (up2 P 0 1 d) 0 5 0) 3 k))))]) [3] (by decide) rfl)⟩ rfl rfl hl.1 rfl (lv_room (Nat.le_of_ble_eq_true rfl)) d_P_startDays_14 ⟨Nat.le_of_ble_eq_true rfl, Nat.le_of_ble_eq_true rfl⟩) hP hD hS hA [3] [0, 1, 2, 4, 5, 6] rfl rfl (by decide) (by decide) (fun u_1 H locs hu_1 hP hD hS => ?_)
  replace hP := hP.sub (ws' := wP ad ca (upr (up2 (up2 P 0 1 d) 0 5 0) 3 (fun _ => 0))) [0, 1, 2, 6, 3, 4, 5] rfl
  replace hD := hD.sub (ws' := wP ad ca (upr (up2 (up2 P 0 1 d) 0 5 0) 3 (fun _ => 0))) [0, 1, 2, 6, 3, 4, 5] (by decide) rfl
  refine lv_aload_n hx hb d_P_startDays_17 rfl (lv_at hl 0 rfl) ?_
  refine va_get (D := D) (ci := 0) (v := .ref (ad 6)) (C := R_P) (T := F_P) (N := 12) hx hb htb u_P hown hK hP 0 rfl rfl 9 (by decide) (htb _ q44) (fun _ h9 => h9) rfl d_P_startDays_18 ?_
  refine nr_callv (wr := [0, 1, 2, 3, 5, 6].filterMap (fun i => (wP ad ca (upr (up2 (up2 P 0 1 d) 0 5 0) 3 (fun _ => 0)))[i]?)) (va_runSN (As := [.ref (ad 6)]) (rest := []) ⟨hx, hb, hml, hown, hts⟩ (c_R_clearRow l D (ad 6) (ca 3) 28 (by decide) ((upr (up2 (up2 P 0 1 d) 0 5 0) 3 (fun _ => 0)) 4) H.size) ⟨va_cnB 1 hts (gTB q_R_clearRow) rfl rfl rfl (hN.nw q321 rfl) (htb _ q1) hd_R_clearRow ⟨Nat.le_of_ble_eq_true rfl, Nat.le_of_ble_eq_true rfl⟩, (htb _ q322), trivial⟩ ⟨rw_blind, rw_pre hN (hP.sub (ws' := [(ad 6, .inl (ca 3, 28, .inl (fun k => nI ((upr (up2 (up2 P 0 1 d) 0 5 0) 3 (fun _ => 0)) 4 k))))]) [4] rfl) (hK.sub (tys' := [(ca 3, .int)]) [3] rfl) (hD.sub (ws' := [(ad 6, .inl (ca 3, 28, .inl (fun k => nI ((upr (up2 (up2 P 0 1 d) 0 5 0) 3 (fun _ => 0)) 4 k))))]) [4] (by decide) rfl)⟩ rfl rfl hl.1 rfl (lv_room (Nat.le_of_ble_eq_true rfl)) d_P_startDays_21 ⟨Nat.le_of_ble_eq_true rfl, Nat.le_of_ble_eq_true rfl⟩) hP hD hS hA [4] [0, 1, 2, 3, 5, 6] rfl rfl (by decide) (by decide) (fun u_2 H locs hu_2 hP hD hS => ?_)
  replace hP := hP.sub (ws' := wP ad ca (upr (upr (up2 (up2 P 0 1 d) 0 5 0) 3 (fun _ => 0)) 4 (fun _ => 0))) [0, 1, 2, 3, 6, 4, 5] rfl
  replace hD := hD.sub (ws' := wP ad ca (upr (upr (up2 (up2 P 0 1 d) 0 5 0) 3 (fun _ => 0)) 4 (fun _ => 0))) [0, 1, 2, 3, 6, 4, 5] (by decide) rfl
  refine lv_aload_n hx hb d_P_startDays_24 rfl (lv_at hl 0 rfl) ?_
  refine va_get (D := D) (ci := 0) (v := .ref (ad 8)) (C := R_P) (T := F_P) (N := 12) hx hb htb u_P hown hK hP 0 rfl rfl 11 (by decide) (htb _ q48) (fun _ h9 => h9) rfl d_P_startDays_25 ?_
  refine nr_callv (wr := [0, 1, 2, 3, 4, 5].filterMap (fun i => (wP ad ca (upr (upr (up2 (up2 P 0 1 d) 0 5 0) 3 (fun _ => 0)) 4 (fun _ => 0)))[i]?)) (va_runSN (As := [.ref (ad 8)]) (rest := []) ⟨hx, hb, hml, hown, hts⟩ (c_R_clearRow l D (ad 8) (ca 5) 168 (by decide) ((upr (upr (up2 (up2 P 0 1 d) 0 5 0) 3 (fun _ => 0)) 4 (fun _ => 0)) 6) H.size) ⟨va_cnB 1 hts (gTB q_R_clearRow) rfl rfl rfl (hN.nw q321 rfl) (htb _ q1) hd_R_clearRow ⟨Nat.le_of_ble_eq_true rfl, Nat.le_of_ble_eq_true rfl⟩, (htb _ q322), trivial⟩ ⟨rw_blind, rw_pre hN (hP.sub (ws' := [(ad 8, .inl (ca 5, 168, .inl (fun k => nI ((upr (upr (up2 (up2 P 0 1 d) 0 5 0) 3 (fun _ => 0)) 4 (fun _ => 0)) 6 k))))]) [6] rfl) (hK.sub (tys' := [(ca 5, .int)]) [5] rfl) (hD.sub (ws' := [(ad 8, .inl (ca 5, 168, .inl (fun k => nI ((upr (upr (up2 (up2 P 0 1 d) 0 5 0) 3 (fun _ => 0)) 4 (fun _ => 0)) 6 k))))]) [6] (by decide) rfl)⟩ rfl rfl hl.1 rfl (lv_room (Nat.le_of_ble_eq_true rfl)) d_P_startDays_28 ⟨Nat.le_of_ble_eq_true rfl, Nat.le_of_ble_eq_true rfl⟩) hP hD hS hA [6] [0, 1, 2, 3, 4, 5] rfl rfl (by decide) (by decide) (fun u_3 H locs hu_3 hP hD hS => ?_)
  replace hP := hP.sub (ws' := wP ad ca (upr (upr (upr (up2 (up2 P 0 1 d) 0 5 0) 3 (fun _ => 0)) 4 (fun _ => 0)) 6 (fun _ => 0))) [0, 1, 2, 3, 4, 5, 6] rfl
  replace hD := hD.sub (ws' := wP ad ca (upr (upr (upr (up2 (up2 P 0 1 d) 0 5 0) 3 (fun _ => 0)) 4 (fun _ => 0)) 6 (fun _ => 0))) [0, 1, 2, 3, 4, 5, 6] (by decide) rfl
  refine nr_iconst hx hb 0 d_P_startDays_31 (by decide) ?_
  refine lv_istore_n (lv' := [(2, .int (nI 0)), (0, .ref (ad 1)), (1, .int (nI d))]) hx hb d_P_startDays_32 rfl hl (by decide) rfl (fun ls hl => ?_)
  replace hP : ∃ (k i : Nat) (P1 : Nat → Nat → Nat), (i + k = 168) ∧ (∀ j, j < i → P1 5 j = 0) ∧ (∀ r, r ≠ 5 → P1 r = upr (upr (upr (up2 (up2 P 0 1 d) 0 5 0) 3 (fun _ => 0)) 4 (fun _ => 0)) 6 (fun _ => 0) r) ∧ lv_has ls 3 [(0, .ref (ad 1)), (1, .int (nI d)), (2, .int (nI i))] ∧ va_P D cls (wP ad ca P1) H ∧ va_D A (wP ad ca P1) ∧ va_S A s.heap H locs := ⟨168, 0, upr (upr (upr (up2 (up2 P 0 1 d) 0 5 0) 3 (fun _ => 0)) 4 (fun _ => 0)) 6 (fun _ => 0), rfl, fun j h => absurd h (Nat.not_lt_zero j), fun _ _ => rfl, lv_sub hl [1, 2, 0] rfl, hP, hD, hS⟩
  clear hl hD hS
  obtain ⟨k, i, P1, hk, hf, hrr, hl, hP, hD, hS⟩ := hP
  induction k generalizing i P1 ls H locs with
  | zero =>
    refine lv_iload_n hx hb d_P_startDays_33 rfl (lv_at hl 2 rfl) ?_
    refine lv_aload_n hx hb d_P_startDays_34 rfl (lv_at hl 0 rfl) ?_
    refine va_get (D := D) (ci := 0) (v := .ref (ad 7)) (C := R_P) (T := F_P) (N := 12) hx hb htb u_P hown hK hP 0 rfl rfl 10 (by decide) (htb _ q45) (fun _ h9 => h9) rfl d_P_startDays_35 ?_
    refine va_alen (v := nI 168) hx hb hK hP 5 4 rfl rfl rfl d_P_startDays_38 ?_
    refine nr_icmp_ge (tgt := 55) hx hb (by omega) (by omega) d_P_startDays_39 (by decide) (fun c_39 => ?_) (fun c_39 => by exfalso; omega)
    obtain ⟨hP, hD⟩ := nr_swap (q0 := 5) (g := fun _ => nI 0) hP hD rfl (fun j hj => by rw [hf j (by omega)])
    have e0 := hrr 0 (by decide)
    have e1 := hrr 1 (by decide)
    have e2 := hrr 2 (by decide)
    have e3 := hrr 3 (by decide)
    have e4 := hrr 4 (by decide)
    have e6 := hrr 6 (by decide)
    have hP : va_P D cls (wP ad ca (sdP P d)) H := by have h9 := hP; simp only [wP, List.set, e0, e1, e2, e3, e4, e6] at h9; exact h9
    have hD : va_D A (wP ad ca (sdP P d)) := by have h9 := hD; simp only [wP, List.set, e0, e1, e2, e3, e4, e6] at h9; exact h9
    exact W.vret hx hb hr (fun t ht hW => ⟨⟨(), rfl, trivial, by rw [ht]; exact hP, hD⟩, hS.F ht⟩) hS.2.2 d_P_startDays_55
  | succ k ih_33 =>
    refine lv_iload_n hx hb d_P_startDays_33 rfl (lv_at hl 2 rfl) ?_
    refine lv_aload_n hx hb d_P_startDays_34 rfl (lv_at hl 0 rfl) ?_
    refine va_get (D := D) (ci := 0) (v := .ref (ad 7)) (C := R_P) (T := F_P) (N := 12) hx hb htb u_P hown hK hP 0 rfl rfl 10 (by decide) (htb _ q45) (fun _ h9 => h9) rfl d_P_startDays_35 ?_
    refine va_alen (v := nI 168) hx hb hK hP 5 4 rfl rfl rfl d_P_startDays_38 ?_
    refine nr_icmp_ge (tgt := 55) hx hb (by omega) (by omega) d_P_startDays_39 (by decide) (fun c_39 => by exfalso; omega) (fun c_39 => ?_)
    refine lv_aload_n hx hb d_P_startDays_42 rfl (lv_at hl 0 rfl) ?_
    refine va_get (D := D) (ci := 0) (v := .ref (ad 7)) (C := R_P) (T := F_P) (N := 12) hx hb htb u_P hown hK hP 0 rfl rfl 10 (by decide) (htb _ q45) (fun _ h9 => h9) rfl d_P_startDays_43 ?_
    refine lv_iload_n hx hb d_P_startDays_46 rfl (lv_at hl 2 rfl) ?_
    refine nr_iconst hx hb 0 d_P_startDays_47 (by decide) ?_
    refine nr_zast hx hb hK hP hD hS 5 4 rfl rfl (by omega) (by decide) (by omega) d_P_startDays_48 (fun H locs hP hD hS => ?_)
    have hP : va_P D cls (wP ad ca (up2 P1 5 i 0)) H := hP
    have hD : va_D A (wP ad ca (up2 P1 5 i 0)) := hD
    refine nr_iinc (k := 2) (lv' := [(2, .int (nI (i + 1))), (0, .ref (ad 1)), (1, .int (nI d))]) hx hb d_P_startDays_49 hl rfl (by decide) rfl (fun ls hl => ?_)
    refine lv_goto (tgt := 33) hx hb d_P_startDays_52 (by decide) ?_
    exact ih_33 _ _ _ _ _ (by omega) (fun j h => by show (if j = i then 0 else P1 5 j) = 0; split; rfl; exact hf j (by omega)) (fun r h => by rw [← hrr r h]; funext k; simp [up2, h]) (lv_sub hl [1, 2, 0] rfl) hP hD hS
set_option maxHeartbeats 4000000 in
set_option maxRecDepth 100000 in
theorem c_P_addPerson (l : Launch) (D : va_G) (ad : Nat → Nat) (ca : Nat → ClassId) (P : Nat → Nat → Nat) (x y : Nat) (hp : P 0 0 < 6) (sz : Nat) : Met l y_P_addPerson w_P_addPerson { frames := 0, cells := 0, slots := 0, locals := 0 } (rw_P [.ref (ad 1), .int (nI x), .int (nI y)] D (wP ad ca P) (tP ca) sz) (rw_Qi (fun (r : Int32) (u : Unit) => r = nI (P 0 0)) D (wP ad ca P) (fun u => wP ad ca (up2 (up2 (up2 P 1 (P 0 0) x) 2 (P 0 0) y) 0 0 (P 0 0 + 1))) sz) 0 0 (va_A (wP ad ca P) sz) := by
  refine Met.ofW (cc := b_P_addPerson) (maxL := 4) (ret := (some .int)) (by decide) rfl ?_
  intro p e s m args below meth c s₁ B hml hv
  obtain ⟨rfl, hsz, hN, hP, hK, hD0⟩ := hv
  have hx := B.exec
  have hb := B.bytes
  have hr := B.returns
  have hts := atoms_spec (ws := w_P_addPerson) B.pre
  have htb : ∀ w ∈ TBG, w.before [.ref (ad 1), .int (nI x), .int (nI y)].toArray s = true := fun w h => hts w (List.mem_cons_of_mem _ h)
  have hown : s.vm.findClass R_P = some m.cls := findClass_of_methodNamed B.named
  have hlocks := B.notSynchronized
  subst hsz
  have hD := hD0.self (sz := s.heap.size)
  unfold rw_Qi
  generalize hAe : va_A (wP ad ca P) s.heap.size = A at hD ⊢
  have hA : ∀ q : Nat, s.heap.size ≤ q → A q := fun q h => by rw [← hAe]; exact Or.inr h
  have hS : va_S A s.heap s.heap [] := va_S.rf
  have hl := lv_entry ([.ref (ad 1), .int (nI x), .int (nI y)]) (n := 4) (Nat.le_of_ble_eq_true rfl)
  rw [lg_entry_eq]
  generalize (lg_sl ([.ref (ad 1), .int (nI x), .int (nI y)]) ++ List.replicate (4 - (lg_sl ([.ref (ad 1), .int (nI x), .int (nI y)])).length) Slot.unset).toArray = ls at hl ⊢
  have hl : lv_has ls 4 [(0, .ref (ad 1)), (1, .int (nI x)), (2, .int (nI y))] := hl
  refine nr_start hP hS (fun H locs hP hS => ?_)
  refine lv_aload_n hx hb d_P_addPerson_0 rfl (lv_at hl 0 rfl) ?_
  refine va_get (D := D) (ci := 0) (v := .int (nI (P 0 0))) (C := R_P) (T := F_P) (N := 12) hx hb htb u_P hown hK hP 0 rfl rfl 0 (by decide) (htb _ q28) (fun _ h9 => h9) rfl d_P_addPerson_1 ?_
  refine lv_istore_n (lv' := [(3, .int (nI (P 0 0))), (0, .ref (ad 1)), (1, .int (nI x)), (2, .int (nI y))]) hx hb d_P_addPerson_4 rfl hl (by decide) rfl (fun ls hl => ?_)
  refine lv_aload_n hx hb d_P_addPerson_5 rfl (lv_at hl 1 rfl) ?_
  refine va_get (D := D) (ci := 0) (v := .ref (ad 3)) (C := R_P) (T := F_P) (N := 12) hx hb htb u_P hown hK hP 0 rfl rfl 6 (by decide) (htb _ q41) (fun _ h9 => h9) rfl d_P_addPerson_6 ?_
  refine lv_iload_n hx hb d_P_addPerson_9 rfl (lv_at hl 0 rfl) ?_
  refine lv_iload_n hx hb d_P_addPerson_10 rfl (lv_at hl 2 rfl) ?_
  refine nr_iast hx hb hK hP hD hS 1 0 rfl rfl (by omega) (by decide) d_P_addPerson_11 (fun H locs hP hD hS => ?_)
  have hP : va_P D cls (wP ad ca (up2 P 1 (P 0 0) x)) H := hP
  have hD : va_D A (wP ad ca (up2 P 1 (P 0 0) x)) := hD
  refine lv_aload_n hx hb d_P_addPerson_12 rfl (lv_at hl 1 rfl) ?_
  refine va_get (D := D) (ci := 0) (v := .ref (ad 4)) (C := R_P) (T := F_P) (N := 12) hx hb htb u_P hown hK hP 0 rfl rfl 7 (by decide) (htb _ q42) (fun _ h9 => h9) rfl d_P_addPerson_13 ?_
  refine lv_iload_n hx hb d_P_addPerson_16 rfl (lv_at hl 0 rfl) ?_
  refine lv_iload_n hx hb d_P_addPerson_17 rfl (lv_at hl 3 rfl) ?_
  refine nr_iast hx hb hK hP hD hS 2 1 rfl rfl (by omega) (by decide) d_P_addPerson_18 (fun H locs hP hD hS => ?_)
  have hP : va_P D cls (wP ad ca (up2 (up2 P 1 (P 0 0) x) 2 (P 0 0) y)) H := hP
  have hD : va_D A (wP ad ca (up2 (up2 P 1 (P 0 0) x) 2 (P 0 0) y)) := hD
  refine lv_aload_n hx hb d_P_addPerson_19 rfl (lv_at hl 1 rfl) ?_
  refine lv_dup hx hb d_P_addPerson_20 rfl ?_
  refine va_get (D := D) (ci := 0) (v := .int (nI (P 0 0))) (C := R_P) (T := F_P) (N := 12) hx hb htb u_P hown hK hP 0 rfl rfl 0 (by decide) (htb _ q28) (fun _ h9 => h9) rfl d_P_addPerson_21 ?_
  refine nr_iconst hx hb 1 d_P_addPerson_24 (by decide) ?_
  refine nr_iadd hx hb d_P_addPerson_25 ?_
  refine va_put (D := D) (ci := 0) (v := .int (nI ((P 0 0) + 1))) (ty := .int) (C := R_P) (T := F_P) (N := 12) hx hb htb u_P t_P t_P_ok n_P hown hK hP hD hS 0 rfl rfl 0 (by decide) (htb _ q28) (fun _ h9 => h9) rfl (by decide +kernel) rfl rfl (Nat.le_of_ble_eq_true rfl) d_P_addPerson_26 (fun H locs hP hD hS => ?_)
  have hP : va_P D cls (wP ad ca (up2 (up2 (up2 P 1 (P 0 0) x) 2 (P 0 0) y) 0 0 ((P 0 0) + 1))) H := hP
  have hD : va_D A (wP ad ca (up2 (up2 (up2 P 1 (P 0 0) x) 2 (P 0 0) y) 0 0 ((P 0 0) + 1))) := hD
  refine lv_iload_n hx hb d_P_addPerson_29 rfl (lv_at hl 0 rfl) ?_
  exact W.iret (v := (nI (P 0 0))) hx hb hr (fun t ht hW => ⟨⟨_, (), rfl, rfl, by rw [ht]; exact hP, hD⟩, hS.F ht⟩) hS.2.2 d_P_addPerson_30
set_option maxHeartbeats 4000000 in
set_option maxRecDepth 100000 in
theorem c_P_putNeed (l : Launch) (D : va_G) (ad : Nat → Nat) (ca : Nat → ClassId) (P : Nat → Nat → Nat) (d sf x y : Nat) (hd : d < 7) (hs : sf < 4) (sz : Nat) : Met l y_P_putNeed w_P_putNeed { frames := 1, cells := 0, slots := 0, locals := 21 } (rw_P [.ref (ad 1), .int (nI d), .int (nI sf), .int (nI x), .int (nI y)] D (wP ad ca P) (tP ca) sz) (rw_Qv (fun u : Unit => True) D (wP ad ca P) (fun u => wP ad ca (up2 (up2 P 3 (d * 4 + sf) x) 4 (d * 4 + sf) y)) sz) 0 0 (va_A (wP ad ca P) sz) := by
  refine Met.ofW (cc := b_P_putNeed) (maxL := 5) (ret := none) (by decide) rfl ?_
  intro p e s m args below meth c s₁ B hml hv
  obtain ⟨rfl, hsz, hN, hP, hK, hD0⟩ := hv
  have hx := B.exec
  have hb := B.bytes
  have hr := B.returns
  have hts := atoms_spec (ws := w_P_putNeed) B.pre
  have htb : ∀ w ∈ TBG, w.before [.ref (ad 1), .int (nI d), .int (nI sf), .int (nI x), .int (nI y)].toArray s = true := fun w h => hts w (List.mem_cons_of_mem _ h)
  have hown : s.vm.findClass R_P = some m.cls := findClass_of_methodNamed B.named
  have hlocks := B.notSynchronized
  subst hsz
  have hD := hD0.self (sz := s.heap.size)
  unfold rw_Qv
  generalize hAe : va_A (wP ad ca P) s.heap.size = A at hD ⊢
  have hA : ∀ q : Nat, s.heap.size ≤ q → A q := fun q h => by rw [← hAe]; exact Or.inr h
  have hS : va_S A s.heap s.heap [] := va_S.rf
  have hl := lv_entry ([.ref (ad 1), .int (nI d), .int (nI sf), .int (nI x), .int (nI y)]) (n := 5) (Nat.le_of_ble_eq_true rfl)
  rw [lg_entry_eq]
  generalize (lg_sl ([.ref (ad 1), .int (nI d), .int (nI sf), .int (nI x), .int (nI y)]) ++ List.replicate (5 - (lg_sl ([.ref (ad 1), .int (nI d), .int (nI sf), .int (nI x), .int (nI y)])).length) Slot.unset).toArray = ls at hl ⊢
  have hl : lv_has ls 5 [(0, .ref (ad 1)), (1, .int (nI d)), (2, .int (nI sf)), (3, .int (nI x)), (4, .int (nI y))] := hl
  refine nr_start hP hS (fun H locs hP hS => ?_)
  refine lv_aload_n hx hb d_P_putNeed_0 rfl (lv_at hl 0 rfl) ?_
  refine va_get (D := D) (ci := 0) (v := .ref (ad 5)) (C := R_P) (T := F_P) (N := 12) hx hb htb u_P hown hK hP 0 rfl rfl 8 (by decide) (htb _ q43) (fun _ h9 => h9) rfl d_P_putNeed_1 ?_
  refine lv_iload_n hx hb d_P_putNeed_4 rfl (lv_at hl 1 rfl) ?_
  refine lv_iload_n hx hb d_P_putNeed_5 rfl (lv_at hl 2 rfl) ?_
  refine nr_calli (va_runSN (As := [.int (nI d), .int (nI sf)]) (rest := [.ref (ad 5)]) ⟨hx, hb, hml, hown, hts⟩ (c_R_slot l D d sf) ⟨va_cnB 2 hts (gTB q_R_slot) rfl rfl rfl (hN.nw q176 rfl) (htb _ q1) hd_R_slot ⟨Nat.le_of_ble_eq_true rfl, Nat.le_of_ble_eq_true rfl⟩, (htb _ q177), trivial⟩ ⟨ro_blind, ro_pre hN (hP.sub (ws' := []) [] rfl) (hK.sub (tys' := []) [] rfl)⟩ rfl rfl hl.1 rfl (lv_room (Nat.le_of_ble_eq_true rfl)) d_P_putNeed_6 ⟨Nat.le_of_ble_eq_true rfl, Nat.le_of_ble_eq_true rfl⟩) (fun r_1 hr_1 => ?_)
  subst hr_1
  refine lv_iload_n hx hb d_P_putNeed_9 rfl (lv_at hl 3 rfl) ?_
  refine nr_iast hx hb hK hP hD hS 3 2 rfl rfl (by omega) (by decide) d_P_putNeed_10 (fun H locs hP hD hS => ?_)
  have hP : va_P D cls (wP ad ca (up2 P 3 (d * 4 + sf) x)) H := hP
  have hD : va_D A (wP ad ca (up2 P 3 (d * 4 + sf) x)) := hD
  refine lv_aload_n hx hb d_P_putNeed_11 rfl (lv_at hl 0 rfl) ?_
  refine va_get (D := D) (ci := 0) (v := .ref (ad 6)) (C := R_P) (T := F_P) (N := 12) hx hb htb u_P hown hK hP 0 rfl rfl 9 (by decide) (htb _ q44) (fun _ h9 => h9) rfl d_P_putNeed_12 ?_
  refine lv_iload_n hx hb d_P_putNeed_15 rfl (lv_at hl 1 rfl) ?_
  refine lv_iload_n hx hb d_P_putNeed_16 rfl (lv_at hl 2 rfl) ?_
  refine nr_calli (va_runSN (As := [.int (nI d), .int (nI sf)]) (rest := [.ref (ad 6)]) ⟨hx, hb, hml, hown, hts⟩ (c_R_slot l D d sf) ⟨va_cnB 2 hts (gTB q_R_slot) rfl rfl rfl (hN.nw q176 rfl) (htb _ q1) hd_R_slot ⟨Nat.le_of_ble_eq_true rfl, Nat.le_of_ble_eq_true rfl⟩, (htb _ q177), trivial⟩ ⟨ro_blind, ro_pre hN (hP.sub (ws' := []) [] rfl) (hK.sub (tys' := []) [] rfl)⟩ rfl rfl hl.1 rfl (lv_room (Nat.le_of_ble_eq_true rfl)) d_P_putNeed_17 ⟨Nat.le_of_ble_eq_true rfl, Nat.le_of_ble_eq_true rfl⟩) (fun r_2 hr_2 => ?_)
  subst hr_2
  refine lv_iload hx hb d_P_putNeed_20 (lv_at hl 4 rfl) ?_
  refine nr_iast hx hb hK hP hD hS 4 3 rfl rfl (by omega) (by decide) d_P_putNeed_22 (fun H locs hP hD hS => ?_)
  have hP : va_P D cls (wP ad ca (up2 (up2 P 3 (d * 4 + sf) x) 4 (d * 4 + sf) y)) H := hP
  have hD : va_D A (wP ad ca (up2 (up2 P 3 (d * 4 + sf) x) 4 (d * 4 + sf) y)) := hD
  exact W.vret hx hb hr (fun t ht hW => ⟨⟨(), rfl, trivial, by rw [ht]; exact hP, hD⟩, hS.F ht⟩) hS.2.2 d_P_putNeed_23
set_option maxHeartbeats 4000000 in
set_option maxRecDepth 100000 in
theorem c_P_putRules (l : Launch) (D : va_G) (ad : Nat → Nat) (ca : Nat → ClassId) (P : Nat → Nat → Nat) (x y z : Nat) (sz : Nat) : Met l y_P_putRules w_P_putRules { frames := 0, cells := 0, slots := 0, locals := 0 } (rw_P [.ref (ad 1), .int (nI x), .int (nI y), .int (nI z)] D (wP ad ca P) (tP ca) sz) (rw_Qv (fun u : Unit => True) D (wP ad ca P) (fun u => wP ad ca (up2 (up2 (up2 P 0 2 x) 0 3 y) 0 4 z)) sz) 0 0 (va_A (wP ad ca P) sz) := by
  refine Met.ofW (cc := b_P_putRules) (maxL := 4) (ret := none) (by decide) rfl ?_
  intro p e s m args below meth c s₁ B hml hv
  obtain ⟨rfl, hsz, hN, hP, hK, hD0⟩ := hv
  have hx := B.exec
  have hb := B.bytes
  have hr := B.returns
  have hts := atoms_spec (ws := w_P_putRules) B.pre
  have htb : ∀ w ∈ TBG, w.before [.ref (ad 1), .int (nI x), .int (nI y), .int (nI z)].toArray s = true := fun w h => hts w (List.mem_cons_of_mem _ h)
  have hown : s.vm.findClass R_P = some m.cls := findClass_of_methodNamed B.named
  have hlocks := B.notSynchronized
  subst hsz
  have hD := hD0.self (sz := s.heap.size)
  unfold rw_Qv
  generalize hAe : va_A (wP ad ca P) s.heap.size = A at hD ⊢
  have hA : ∀ q : Nat, s.heap.size ≤ q → A q := fun q h => by rw [← hAe]; exact Or.inr h
  have hS : va_S A s.heap s.heap [] := va_S.rf
  have hl := lv_entry ([.ref (ad 1), .int (nI x), .int (nI y), .int (nI z)]) (n := 4) (Nat.le_of_ble_eq_true rfl)
  rw [lg_entry_eq]
  generalize (lg_sl ([.ref (ad 1), .int (nI x), .int (nI y), .int (nI z)]) ++ List.replicate (4 - (lg_sl ([.ref (ad 1), .int (nI x), .int (nI y), .int (nI z)])).length) Slot.unset).toArray = ls at hl ⊢
  have hl : lv_has ls 4 [(0, .ref (ad 1)), (1, .int (nI x)), (2, .int (nI y)), (3, .int (nI z))] := hl
  refine nr_start hP hS (fun H locs hP hS => ?_)
  refine lv_aload_n hx hb d_P_putRules_0 rfl (lv_at hl 0 rfl) ?_
  refine lv_iload_n hx hb d_P_putRules_1 rfl (lv_at hl 1 rfl) ?_
  refine va_put (D := D) (ci := 0) (v := .int (nI x)) (ty := .int) (C := R_P) (T := F_P) (N := 12) hx hb htb u_P t_P t_P_ok n_P hown hK hP hD hS 0 rfl rfl 2 (by decide) (htb _ q34) (fun _ h9 => h9) rfl (by decide +kernel) rfl rfl (Nat.le_of_ble_eq_true rfl) d_P_putRules_2 (fun H locs hP hD hS => ?_)
  have hP : va_P D cls (wP ad ca (up2 P 0 2 x)) H := hP
  have hD : va_D A (wP ad ca (up2 P 0 2 x)) := hD
  refine lv_aload_n hx hb d_P_putRules_5 rfl (lv_at hl 0 rfl) ?_
  refine lv_iload_n hx hb d_P_putRules_6 rfl (lv_at hl 2 rfl) ?_
  refine va_put (D := D) (ci := 0) (v := .int (nI y)) (ty := .int) (C := R_P) (T := F_P) (N := 12) hx hb htb u_P t_P t_P_ok n_P hown hK hP hD hS 0 rfl rfl 3 (by decide) (htb _ q35) (fun _ h9 => h9) rfl (by decide +kernel) rfl rfl (Nat.le_of_ble_eq_true rfl) d_P_putRules_7 (fun H locs hP hD hS => ?_)
  have hP : va_P D cls (wP ad ca (up2 (up2 P 0 2 x) 0 3 y)) H := hP
  have hD : va_D A (wP ad ca (up2 (up2 P 0 2 x) 0 3 y)) := hD
  refine lv_aload_n hx hb d_P_putRules_10 rfl (lv_at hl 0 rfl) ?_
  refine lv_iload_n hx hb d_P_putRules_11 rfl (lv_at hl 3 rfl) ?_
  refine va_put (D := D) (ci := 0) (v := .int (nI z)) (ty := .int) (C := R_P) (T := F_P) (N := 12) hx hb htb u_P t_P t_P_ok n_P hown hK hP hD hS 0 rfl rfl 4 (by decide) (htb _ q37) (fun _ h9 => h9) rfl (by decide +kernel) rfl rfl (Nat.le_of_ble_eq_true rfl) d_P_putRules_12 (fun H locs hP hD hS => ?_)
  have hP : va_P D cls (wP ad ca (up2 (up2 (up2 P 0 2 x) 0 3 y) 0 4 z)) H := hP
  have hD : va_D A (wP ad ca (up2 (up2 (up2 P 0 2 x) 0 3 y) 0 4 z)) := hD
  exact W.vret hx hb hr (fun t ht hW => ⟨⟨(), rfl, trivial, by rw [ht]; exact hP, hD⟩, hS.F ht⟩) hS.2.2 d_P_putRules_15
set_option maxHeartbeats 4000000 in
set_option maxRecDepth 100000 in
theorem c_P_addWish (l : Launch) (D : va_G) (ad : Nat → Nat) (ca : Nat → ClassId) (P : Nat → Nat → Nat) (fc sf wb wt : Nat) (hfc : fc + 3 < 168) (hsf : sf ≤ 3) (hwb : wb ≤ 1) (sz : Nat) : Met l y_P_addWish w_P_addWish { frames := 0, cells := 0, slots := 0, locals := 0 } (rw_P [.ref (ad 1), .int (nI fc), .int (nI sf), .int (nI wb), .int (nI wt)] D (wP ad ca P) (tP ca) sz) (rw_Qi (fun (r : Int32) (u : Unit) => r = nI (P 0 5)) D (wP ad ca P) (fun u => wP ad ca (up2 (aw fc sf wb wt 4 0 P) 0 5 (P 0 5 + 1))) sz) 0 0 (va_A (wP ad ca P) sz) := by
  refine Met.ofW (cc := b_P_addWish) (maxL := 7) (ret := (some .int)) (by decide) rfl ?_
  intro p e s m args below meth c s₁ B hml hv
  obtain ⟨rfl, hsz, hN, hP, hK, hD0⟩ := hv
  have hx := B.exec
  have hb := B.bytes
  have hr := B.returns
  have hts := atoms_spec (ws := w_P_addWish) B.pre
  have htb : ∀ w ∈ TBG, w.before [.ref (ad 1), .int (nI fc), .int (nI sf), .int (nI wb), .int (nI wt)].toArray s = true := fun w h => hts w (List.mem_cons_of_mem _ h)
  have hown : s.vm.findClass R_P = some m.cls := findClass_of_methodNamed B.named
  have hlocks := B.notSynchronized
  subst hsz
  have hD := hD0.self (sz := s.heap.size)
  unfold rw_Qi
  generalize hAe : va_A (wP ad ca P) s.heap.size = A at hD ⊢
  have hA : ∀ q : Nat, s.heap.size ≤ q → A q := fun q h => by rw [← hAe]; exact Or.inr h
  have hS : va_S A s.heap s.heap [] := va_S.rf
  have hl := lv_entry ([.ref (ad 1), .int (nI fc), .int (nI sf), .int (nI wb), .int (nI wt)]) (n := 7) (Nat.le_of_ble_eq_true rfl)
  rw [lg_entry_eq]
  generalize (lg_sl ([.ref (ad 1), .int (nI fc), .int (nI sf), .int (nI wb), .int (nI wt)]) ++ List.replicate (7 - (lg_sl ([.ref (ad 1), .int (nI fc), .int (nI sf), .int (nI wb), .int (nI wt)])).length) Slot.unset).toArray = ls at hl ⊢
  have hl : lv_has ls 7 [(0, .ref (ad 1)), (1, .int (nI fc)), (2, .int (nI sf)), (3, .int (nI wb)), (4, .int (nI wt))] := hl
  refine nr_start hP hS (fun H locs hP hS => ?_)
  refine nr_iconst hx hb 0 d_P_addWish_0 (by decide) ?_
  refine lv_istore (lv' := [(5, .int (nI 0)), (0, .ref (ad 1)), (1, .int (nI fc)), (2, .int (nI sf)), (3, .int (nI wb)), (4, .int (nI wt))]) hx hb d_P_addWish_1 hl (by decide) rfl (fun ls hl => ?_)
  replace hP : ∃ (k o : Nat) (P1 : Nat → Nat → Nat), (o + k = 4) ∧ (∀ r, r ≠ 6 → P1 r = P r) ∧ (aw fc sf wb wt k o P1 = aw fc sf wb wt 4 0 P) ∧ lv_has ls 7 [(0, .ref (ad 1)), (1, .int (nI fc)), (2, .int (nI sf)), (3, .int (nI wb)), (4, .int (nI wt)), (5, .int (nI o))] ∧ va_P D cls (wP ad ca P1) H ∧ va_D A (wP ad ca P1) ∧ va_S A s.heap H locs := ⟨4, 0, P, rfl, fun _ _ => rfl, rfl, lv_sub hl [1, 2, 3, 4, 5, 0] rfl, hP, hD, hS⟩
  clear hl hD hS
  obtain ⟨k, o, P1, hk, hrr, hres, hl, hP, hD, hS⟩ := hP
  induction k generalizing o P1 ls H locs with
  | zero =>
    refine lv_iload hx hb d_P_addWish_3 (lv_at hl 5 rfl) ?_
    refine nr_iconst hx hb 3 d_P_addWish_5 (by decide) ?_
    refine nr_icmp_gt (tgt := 56) hx hb (by omega) (by omega) d_P_addWish_6 (by decide) (fun c_6 => ?_) (fun c_6 => by exfalso; omega)
    refine lv_aload_n hx hb d_P_addWish_56 rfl (lv_at hl 0 rfl) ?_
    refine va_get (D := D) (ci := 0) (v := .int (nI (P1 0 5))) (C := R_P) (T := F_P) (N := 12) hx hb htb u_P hown hK hP 0 rfl rfl 5 (by decide) (htb _ q39) (fun _ h9 => h9) rfl d_P_addWish_57 ?_
    refine lv_istore (lv' := [(5, .int (nI (P1 0 5))), (0, .ref (ad 1)), (1, .int (nI fc)), (2, .int (nI sf)), (3, .int (nI wb)), (4, .int (nI wt))]) hx hb d_P_addWish_60 hl (by decide) rfl (fun ls hl => ?_)
    refine lv_aload_n hx hb d_P_addWish_62 rfl (lv_at hl 1 rfl) ?_
    refine lv_dup hx hb d_P_addWish_63 rfl ?_
    refine va_get (D := D) (ci := 0) (v := .int (nI (P1 0 5))) (C := R_P) (T := F_P) (N := 12) hx hb htb u_P hown hK hP 0 rfl rfl 5 (by decide) (htb _ q39) (fun _ h9 => h9) rfl d_P_addWish_64 ?_
    refine nr_iconst hx hb 1 d_P_addWish_67 (by decide) ?_
    refine nr_iadd hx hb d_P_addWish_68 ?_
    refine va_put (D := D) (ci := 0) (v := .int (nI ((P1 0 5) + 1))) (ty := .int) (C := R_P) (T := F_P) (N := 12) hx hb htb u_P t_P t_P_ok n_P hown hK hP hD hS 0 rfl rfl 5 (by decide) (htb _ q39) (fun _ h9 => h9) rfl (by decide +kernel) rfl rfl (Nat.le_of_ble_eq_true rfl) d_P_addWish_69 (fun H locs hP hD hS => ?_)
    have hP : va_P D cls (wP ad ca (up2 P1 0 5 ((P1 0 5) + 1))) H := hP
    have hD : va_D A (wP ad ca (up2 P1 0 5 ((P1 0 5) + 1))) := hD
    refine lv_iload hx hb d_P_addWish_72 (lv_at hl 0 rfl) ?_
    have e05 : P1 0 5 = P 0 5 := congrFun (hrr 0 (by decide)) 5
    have hfin : P1 = aw fc sf wb wt 4 0 P := by rw [← hres]; rfl
    rw [e05, hfin] at hP hD
    exact W.iret (v := (nI (P1 0 5))) hx hb hr (fun t ht hW => ⟨⟨_, (), rfl, by rw [e05], by rw [ht]; exact hP, hD⟩, hS.F ht⟩) hS.2.2 d_P_addWish_74
  | succ k ih_3 =>
    refine lv_iload hx hb d_P_addWish_3 (lv_at hl 5 rfl) ?_
    refine nr_iconst hx hb 3 d_P_addWish_5 (by decide) ?_
    refine nr_icmp_gt (tgt := 56) hx hb (by omega) (by omega) d_P_addWish_6 (by decide) (fun c_6 => by exfalso; omega) (fun c_6 => ?_)
    refine lv_iload hx hb d_P_addWish_9 (lv_at hl 5 rfl) ?_
    refine lv_iload_n hx hb d_P_addWish_11 rfl (lv_at hl 2 rfl) ?_
    refine nr_icmp_ne (tgt := 19) hx hb (by omega) (by omega) d_P_addWish_12 (by decide) (fun c_12 => ?_) (fun c_12 => ?_)
    · refine nr_iconst hx hb 0 d_P_addWish_19 (by decide) ?_
      refine lv_iload_n hx hb d_P_addWish_20 rfl (lv_at hl 3 rfl) ?_
      refine nr_icmp_ne (tgt := 28) hx hb (by omega) (by omega) d_P_addWish_21 (by decide) (fun c_21 => ?_) (fun c_21 => ?_)
      · refine nr_iconst hx hb 0 d_P_addWish_28 (by decide) ?_
        refine lv_istore (lv' := [(6, .int (nI 0)), (0, .ref (ad 1)), (1, .int (nI fc)), (2, .int (nI sf)), (3, .int (nI wb)), (4, .int (nI wt)), (5, .int (nI o))]) hx hb d_P_addWish_29 hl (by decide) rfl (fun ls hl => ?_)
        refine lv_iload hx hb d_P_addWish_31 (lv_at hl 0 rfl) ?_
        refine nr_if_ne (tgt := 50) hx hb (by omega) d_P_addWish_33 (by decide) (fun c_33 => by exfalso; omega) (fun c_33 => ?_)
        refine lv_aload_n hx hb d_P_addWish_36 rfl (lv_at hl 1 rfl) ?_
        refine va_get (D := D) (ci := 0) (v := .ref (ad 8)) (C := R_P) (T := F_P) (N := 12) hx hb htb u_P hown hK hP 0 rfl rfl 11 (by decide) (htb _ q48) (fun _ h9 => h9) rfl d_P_addWish_37 ?_
        refine lv_iload_n hx hb d_P_addWish_40 rfl (lv_at hl 2 rfl) ?_
        refine lv_iload hx hb d_P_addWish_41 (lv_at hl 6 rfl) ?_
        refine nr_iadd hx hb d_P_addWish_43 ?_
        refine lv_dup2_11 hx hb d_P_addWish_44 rfl rfl ?_
        refine nr_iald hx hb hK hP 6 5 rfl rfl (by omega) (by decide) d_P_addWish_45 ?_
        refine lv_iload hx hb d_P_addWish_46 (lv_at hl 5 rfl) ?_
        refine nr_iadd hx hb d_P_addWish_48 ?_
        refine nr_iast hx hb hK hP hD hS 6 5 rfl rfl (by omega) (by decide) d_P_addWish_49 (fun H locs hP hD hS => ?_)
        have hP : va_P D cls (wP ad ca (up2 P1 6 (fc + o) ((P1 6 (fc + o)) + wt))) H := hP
        have hD : va_D A (wP ad ca (up2 P1 6 (fc + o) ((P1 6 (fc + o)) + wt))) := hD
        refine nr_iinc (k := 6) (lv' := [(5, .int (nI (o + 1))), (6, .int (nI 0)), (0, .ref (ad 1)), (1, .int (nI fc)), (2, .int (nI sf)), (3, .int (nI wb)), (4, .int (nI wt))]) hx hb d_P_addWish_50 hl rfl (by decide) rfl (fun ls hl => ?_)
        refine lv_goto (tgt := 3) hx hb d_P_addWish_53 (by decide) ?_
        exact ih_3 _ _ _ _ _ (by omega) (fun r h => by rw [← hrr r h]; funext k; simp [up2, h]) (by rw [← hres, aw, if_neg (by rw [if_neg c_12]; exact c_21)]) (lv_sub hl [2, 3, 4, 5, 6, 0] rfl) hP hD hS
      · refine nr_iconst hx hb 1 d_P_addWish_24 (by decide) ?_
        refine lv_goto (tgt := 29) hx hb d_P_addWish_25 (by decide) ?_
        refine lv_istore (lv' := [(6, .int (nI 1)), (0, .ref (ad 1)), (1, .int (nI fc)), (2, .int (nI sf)), (3, .int (nI wb)), (4, .int (nI wt)), (5, .int (nI o))]) hx hb d_P_addWish_29 hl (by decide) rfl (fun ls hl => ?_)
        refine lv_iload hx hb d_P_addWish_31 (lv_at hl 0 rfl) ?_
        refine nr_if_ne (tgt := 50) hx hb (by omega) d_P_addWish_33 (by decide) (fun c_33 => ?_) (fun c_33 => by exfalso; omega)
        refine nr_iinc (k := 6) (lv' := [(5, .int (nI (o + 1))), (6, .int (nI 1)), (0, .ref (ad 1)), (1, .int (nI fc)), (2, .int (nI sf)), (3, .int (nI wb)), (4, .int (nI wt))]) hx hb d_P_addWish_50 hl rfl (by decide) rfl (fun ls hl => ?_)
        refine lv_goto (tgt := 3) hx hb d_P_addWish_53 (by decide) ?_
        exact ih_3 _ _ _ _ _ (by omega) hrr (by rw [← hres, aw, if_pos (by rw [if_neg c_12]; exact c_21)]) (lv_sub hl [2, 3, 4, 5, 6, 0] rfl) hP hD hS
    · refine nr_iconst hx hb 1 d_P_addWish_15 (by decide) ?_
      refine lv_goto (tgt := 20) hx hb d_P_addWish_16 (by decide) ?_
      refine lv_iload_n hx hb d_P_addWish_20 rfl (lv_at hl 3 rfl) ?_
      refine nr_icmp_ne (tgt := 28) hx hb (by omega) (by omega) d_P_addWish_21 (by decide) (fun c_21 => ?_) (fun c_21 => ?_)
      · refine nr_iconst hx hb 0 d_P_addWish_28 (by decide) ?_
        refine lv_istore (lv' := [(6, .int (nI 0)), (0, .ref (ad 1)), (1, .int (nI fc)), (2, .int (nI sf)), (3, .int (nI wb)), (4, .int (nI wt)), (5, .int (nI o))]) hx hb d_P_addWish_29 hl (by decide) rfl (fun ls hl => ?_)
        refine lv_iload hx hb d_P_addWish_31 (lv_at hl 0 rfl) ?_
        refine nr_if_ne (tgt := 50) hx hb (by omega) d_P_addWish_33 (by decide) (fun c_33 => by exfalso; omega) (fun c_33 => ?_)
        refine lv_aload_n hx hb d_P_addWish_36 rfl (lv_at hl 1 rfl) ?_
        refine va_get (D := D) (ci := 0) (v := .ref (ad 8)) (C := R_P) (T := F_P) (N := 12) hx hb htb u_P hown hK hP 0 rfl rfl 11 (by decide) (htb _ q48) (fun _ h9 => h9) rfl d_P_addWish_37 ?_
        refine lv_iload_n hx hb d_P_addWish_40 rfl (lv_at hl 2 rfl) ?_
        refine lv_iload hx hb d_P_addWish_41 (lv_at hl 6 rfl) ?_
        refine nr_iadd hx hb d_P_addWish_43 ?_
        refine lv_dup2_11 hx hb d_P_addWish_44 rfl rfl ?_
        refine nr_iald hx hb hK hP 6 5 rfl rfl (by omega) (by decide) d_P_addWish_45 ?_
        refine lv_iload hx hb d_P_addWish_46 (lv_at hl 5 rfl) ?_
        refine nr_iadd hx hb d_P_addWish_48 ?_
        refine nr_iast hx hb hK hP hD hS 6 5 rfl rfl (by omega) (by decide) d_P_addWish_49 (fun H locs hP hD hS => ?_)
        have hP : va_P D cls (wP ad ca (up2 P1 6 (fc + o) ((P1 6 (fc + o)) + wt))) H := hP
        have hD : va_D A (wP ad ca (up2 P1 6 (fc + o) ((P1 6 (fc + o)) + wt))) := hD
        refine nr_iinc (k := 6) (lv' := [(5, .int (nI (o + 1))), (6, .int (nI 0)), (0, .ref (ad 1)), (1, .int (nI fc)), (2, .int (nI sf)), (3, .int (nI wb)), (4, .int (nI wt))]) hx hb d_P_addWish_50 hl rfl (by decide) rfl (fun ls hl => ?_)
        refine lv_goto (tgt := 3) hx hb d_P_addWish_53 (by decide) ?_
        exact ih_3 _ _ _ _ _ (by omega) (fun r h => by rw [← hrr r h]; funext k; simp [up2, h]) (by rw [← hres, aw, if_neg (by rw [if_pos c_12]; exact c_21)]) (lv_sub hl [2, 3, 4, 5, 6, 0] rfl) hP hD hS
      · refine nr_iconst hx hb 1 d_P_addWish_24 (by decide) ?_
        refine lv_goto (tgt := 29) hx hb d_P_addWish_25 (by decide) ?_
        refine lv_istore (lv' := [(6, .int (nI 1)), (0, .ref (ad 1)), (1, .int (nI fc)), (2, .int (nI sf)), (3, .int (nI wb)), (4, .int (nI wt)), (5, .int (nI o))]) hx hb d_P_addWish_29 hl (by decide) rfl (fun ls hl => ?_)
        refine lv_iload hx hb d_P_addWish_31 (lv_at hl 0 rfl) ?_
        refine nr_if_ne (tgt := 50) hx hb (by omega) d_P_addWish_33 (by decide) (fun c_33 => ?_) (fun c_33 => by exfalso; omega)
        refine nr_iinc (k := 6) (lv' := [(5, .int (nI (o + 1))), (6, .int (nI 1)), (0, .ref (ad 1)), (1, .int (nI fc)), (2, .int (nI sf)), (3, .int (nI wb)), (4, .int (nI wt))]) hx hb d_P_addWish_50 hl rfl (by decide) rfl (fun ls hl => ?_)
        refine lv_goto (tgt := 3) hx hb d_P_addWish_53 (by decide) ?_
        exact ih_3 _ _ _ _ _ (by omega) hrr (by rw [← hres, aw, if_pos (by rw [if_pos c_12]; exact c_21)]) (lv_sub hl [2, 3, 4, 5, 6, 0] rfl) hP hD hS
end
section
abbrev wS (ad : Nat → Nat) (ca : Nat → ClassId) (S : Nat → Nat → Nat) : va_W := [(ad 2, .inr (1, [.ref (ad 1), .ref (ad 9), .ref (ad 10), .ref (ad 11), .ref (ad 12), .ref (ad 13), .ref (ad 14), .ref (ad 15), .int (nI (S 0 0)), .int (nI (S 0 1)), .int (nI (S 0 2)), .int (nI (S 0 3)), .int (nI (S 0 4)), .int (nI (S 0 5)), .int (nI (S 0 6))])), (ad 9, .inl (ca 6, 42, .inl (fun k => nI (S 1 k)))), (ad 10, .inl (ca 7, 42, .inl (fun k => nI (S 2 k)))), (ad 11, .inl (ca 8, 42, .inl (fun k => nI (S 3 k)))), (ad 12, .inl (ca 9, 42, .inl (fun k => nI (S 4 k)))), (ad 13, .inl (ca 10, 42, .inl (fun k => nI (S 5 k)))), (ad 14, .inl (ca 11, 42, .inl (fun k => nI (S 6 k)))), (ad 15, .inl (ca 12, 42, .inl (fun k => nI (S 7 k))))]
abbrev wSP (ad : Nat → Nat) (ca : Nat → ClassId) (P S : Nat → Nat → Nat) (a : Nat) (cS : ClassId) (ro : Nat → Nat) : va_W := wP ad ca P ++ (wS ad ca S ++ [(a, .inl (cS, 42, .inl (fun k => nI (ro k))))])
abbrev tS (ca : Nat → ClassId) : List (ClassId × FieldType) := [(ca 6, .int), (ca 7, .int), (ca 8, .int), (ca 9, .int), (ca 10, .int), (ca 11, .int), (ca 12, .int)]
abbrev tSP (ca : Nat → ClassId) (cS : ClassId) : List (ClassId × FieldType) := tP ca ++ (tS ca ++ [(cS, .int)])
/-- S: row 0 limit, frozen days, steps, right ones, best unmet, stopped, exact; rows 1 best, 2 trial, 3 next shift, 4 last shift, 5 shifts had, 6 nights had, 7 unmet had -/
def okS (S : Nat → Nat → Nat) : Prop := S 0 0 ≤ 20000 ∧ S 0 1 ≤ 7 ∧ S 0 2 ≤ 40000 ∧ S 0 3 ≤ 40000 ∧ S 0 4 ≤ 100000 ∧ S 0 5 ≤ 1 ∧ S 0 6 ≤ 1 ∧ (∀ k, S 1 k ≤ 3) ∧ (∀ k, S 2 k ≤ 3) ∧ (∀ k, S 3 k ≤ 4) ∧ (∀ k, S 4 k ≤ 3) ∧ (∀ k, S 5 k ≤ k + 1) ∧ (∀ k, S 6 k ≤ k + 1) ∧ (∀ k, S 7 k ≤ 2000 * (k + 1))
def openS (S : Nat → Nat → Nat) (ro : Nat → Nat) (p d : Nat) : Nat → Nat → Nat := if d < S 0 1 then up2 (up2 S 3 (d * 6 + p) (ro (d * 6 + p))) 4 (d * 6 + p) (ro (d * 6 + p)) else up2 (up2 S 3 (d * 6 + p) 0) 4 (d * 6 + p) 3
def hadB (S : Nat → Nat → Nat) (r p d : Nat) : Nat := if d = 0 then 0 else S r ((d - 1) * 6 + p)
def krS (S : Nat → Nat → Nat) (p d s : Nat) : Nat → Nat → Nat := up2 (up2 S 5 (d * 6 + p) (if s = 0 then hadB S 5 p d else hadB S 5 p d + 1)) 6 (d * 6 + p) (if s = 3 then hadB S 6 p d + 1 else 0)
def krB (P S : Nat → Nat → Nat) (p d s : Nat) : Bool := decide ((if s = 0 then hadB S 5 p d else hadB S 5 p d + 1) ≤ P 0 3 ∧ (if s = 3 then hadB S 6 p d + 1 else 0) ≤ P 0 4 ∧ breaks P (hadB S 2 p d) s = false)
def ubef (P S : Nat → Nat → Nat) (p d : Nat) : Nat := if 0 < p then S 7 (d * 6 + (p - 1)) else if d = 0 then 0 else S 7 ((d - 1) * 6 + (P 0 0 - 1))
def sbS (P S : Nat → Nat → Nat) (p d s : Nat) : Nat → Nat → Nat := up2 S 7 (d * 6 + p) (ubef P S p d + P 6 ((d * 6 + p) * 4 + s))
def sbB (P S : Nat → Nat → Nat) (p d s : Nat) : Bool := decide (ubef P S p d + P 6 ((d * 6 + p) * 4 + s) < S 0 4)
theorem b01_f {b : Bool} (h : (if b = true then 1 else 0 : Nat) = 0) : b = false := by cases b <;> simp_all
theorem ubef_le {P S : Nat → Nat → Nat} (h : okS S) (h0 : P 0 0 ≤ 6) (p d : Nat) (hp : p < P 0 0) (hd : d < 7) : ubef P S p d ≤ 2000 * (d * 6 + p) := by
  obtain ⟨-, -, -, -, -, -, -, -, -, -, -, -, -, h7⟩ := h
  unfold ubef
  split
  · have := h7 (d * 6 + (p - 1)); omega
  · split
    · omega
    · have := h7 ((d - 1) * 6 + (P 0 0 - 1)); omega
set_option maxHeartbeats 4000000 in
set_option maxRecDepth 100000 in
theorem c_R_cell_raw (l : Launch) (D : va_G) (x y : Int32) : Met l y_R_cell w_R_cell { frames := 0, cells := 0, slots := 0, locals := 0 } (ro_P [.int x, .int y] D ([]) ([])) (vp_Si (fun r => r = y * nI 6 + x)) 0 0 (fun _ => False) := by
  refine Met.ofW (cc := b_R_cell) (maxL := 2) (ret := (some .int)) (by decide) rfl ?_
  intro p e s m args below meth c s₁ B hml hv
  obtain ⟨rfl, hN, hP, hK⟩ := hv
  have hx := B.exec
  have hb := B.bytes
  have hr := B.returns
  have hts := atoms_spec (ws := w_R_cell) B.pre
  have htb : ∀ w ∈ TBG, w.before [.int x, .int y].toArray s = true := fun w h => hts w (List.mem_cons_of_mem _ h)
  have hown : s.vm.findClass R_R = some m.cls := findClass_of_methodNamed B.named
  have hlocks := B.notSynchronized
  have hl := lv_entry ([.int x, .int y]) (n := 2) (Nat.le_of_ble_eq_true rfl)
  rw [lg_entry_eq]
  generalize (lg_sl ([.int x, .int y]) ++ List.replicate (2 - (lg_sl ([.int x, .int y])).length) Slot.unset).toArray = ls at hl ⊢
  have hl : lv_has ls 2 [(0, .int x), (1, .int y)] := hl
  refine lv_iload_n hx hb d_R_cell_0 rfl (lv_at hl 1 rfl) ?_
  refine nr_bipush hx hb 6 d_R_cell_1 (by decide) ?_
  refine lv_imul hx hb d_R_cell_3 ?_
  refine lv_iload_n hx hb d_R_cell_4 rfl (lv_at hl 0 rfl) ?_
  refine lv_iadd hx hb d_R_cell_5 ?_
  exact W.iret (v := ((y * nI 6) + x)) hx hb hr (fun t ht hW => ⟨_, rfl, rfl, ht⟩) (fun q h => by cases h) d_R_cell_6
set_option maxHeartbeats 4000000 in
set_option maxRecDepth 100000 in
theorem c_S_open (l : Launch) (D : va_G) (ad : Nat → Nat) (ca : Nat → ClassId) (P S : Nat → Nat → Nat) (a : Nat) (cS : ClassId) (ro : Nat → Nat) (hP0 : okP P) (hS0 : okS S) (hro : ∀ k, ro k ≤ 3) (p1 d : Nat) (hp : p1 < 6) (hd : d < 7) (sz : Nat) : Met l y_S_open w_S_open { frames := 1, cells := 0, slots := 0, locals := 21 } (rw_P [.ref (ad 2), .ref a, .int (nI p1), .int (nI d)] D (wSP ad ca P S a cS ro) (tSP ca cS) sz) (rw_Qv (fun u : Unit => True) D (wSP ad ca P S a cS ro) (fun u => wSP ad ca P (openS S ro p1 d) a cS ro) sz) 0 0 (va_A (wSP ad ca P S a cS ro) sz) := by
  refine Met.ofW (cc := b_S_open) (maxL := 6) (ret := none) (by decide) rfl ?_
  intro p e s m args below meth c s₁ B hml hv
  obtain ⟨rfl, hsz, hN, hP, hK, hD0⟩ := hv
  have hx := B.exec
  have hb := B.bytes
  have hr := B.returns
  have hts := atoms_spec (ws := w_S_open) B.pre
  have htb : ∀ w ∈ TBG, w.before [.ref (ad 2), .ref a, .int (nI p1), .int (nI d)].toArray s = true := fun w h => hts w (List.mem_cons_of_mem _ h)
  have hown : s.vm.findClass R_S = some m.cls := findClass_of_methodNamed B.named
  have hlocks := B.notSynchronized
  subst hsz
  have hD := hD0.self (sz := s.heap.size)
  unfold rw_Qv
  generalize hAe : va_A (wSP ad ca P S a cS ro) s.heap.size = A at hD ⊢
  have hA : ∀ q : Nat, s.heap.size ≤ q → A q := fun q h => by rw [← hAe]; exact Or.inr h
  have hS : va_S A s.heap s.heap [] := va_S.rf
  have hl := lv_entry ([.ref (ad 2), .ref a, .int (nI p1), .int (nI d)]) (n := 6) (Nat.le_of_ble_eq_true rfl)
  rw [lg_entry_eq]
  generalize (lg_sl ([.ref (ad 2), .ref a, .int (nI p1), .int (nI d)]) ++ List.replicate (6 - (lg_sl ([.ref (ad 2), .ref a, .int (nI p1), .int (nI d)])).length) Slot.unset).toArray = ls at hl ⊢
  have hl : lv_has ls 6 [(0, .ref (ad 2)), (1, .ref a), (2, .int (nI p1)), (3, .int (nI d))] := hl
  refine nr_start hP hS (fun H locs hP hS => ?_)
  obtain ⟨h00, h01, h02, h03, h04, h05, hp1, hp2, hp3, hp4, hp5, hp6⟩ := id hP0
  obtain ⟨g00, g01, g02, g03, g04, g05, g06, hs1, hs2, hs3, hs4, hs5, hs6, hs7⟩ := id hS0
  refine lv_iload_n hx hb d_S_open_0 rfl (lv_at hl 2 rfl) ?_
  refine lv_iload_n hx hb d_S_open_1 rfl (lv_at hl 3 rfl) ?_
  refine nr_calli (va_runSN (As := [.int (nI p1), .int (nI d)]) (rest := []) ⟨hx, hb, hml, hown, hts⟩ (c_R_cell l D p1 d) ⟨va_cnB 2 hts (gTB q_R_cell) rfl rfl rfl (hN.nw q489 rfl) (htb _ q1) hd_R_cell ⟨Nat.le_of_ble_eq_true rfl, Nat.le_of_ble_eq_true rfl⟩, (htb _ q174), trivial⟩ ⟨ro_blind, ro_pre hN (hP.sub (ws' := []) [] rfl) (hK.sub (tys' := []) [] rfl)⟩ rfl rfl hl.1 rfl (lv_room (Nat.le_of_ble_eq_true rfl)) d_S_open_2 ⟨Nat.le_of_ble_eq_true rfl, Nat.le_of_ble_eq_true rfl⟩) (fun r_1 hr_1 => ?_)
  subst hr_1
  refine lv_istore (lv' := [(4, .int (nI (d * 6 + p1))), (0, .ref (ad 2)), (1, .ref a), (2, .int (nI p1)), (3, .int (nI d))]) hx hb d_S_open_5 hl (by decide) rfl (fun ls hl => ?_)
  refine lv_iload_n hx hb d_S_open_7 rfl (lv_at hl 4 rfl) ?_
  refine lv_aload_n hx hb d_S_open_8 rfl (lv_at hl 1 rfl) ?_
  refine va_get (D := D) (ci := 1) (v := .int (nI (S 0 1))) (C := R_S) (T := F_S) (N := 15) hx hb htb u_S hown hK hP 7 rfl rfl 9 (by decide) (htb _ q93) (fun _ h9 => h9) rfl d_S_open_9 ?_
  refine nr_icmp_ge (tgt := 19) hx hb (by omega) (by omega) d_S_open_12 (by decide) (fun c_12 => ?_) (fun c_12 => ?_)
  · refine nr_iconst hx hb 0 d_S_open_19 (by decide) ?_
    refine lv_istore (lv' := [(5, .int (nI 0)), (4, .int (nI (d * 6 + p1))), (0, .ref (ad 2)), (1, .ref a), (2, .int (nI p1)), (3, .int (nI d))]) hx hb d_S_open_20 hl (by decide) rfl (fun ls hl => ?_)
    refine lv_aload_n hx hb d_S_open_22 rfl (lv_at hl 2 rfl) ?_
    refine va_get (D := D) (ci := 1) (v := .ref (ad 11)) (C := R_S) (T := F_S) (N := 15) hx hb htb u_S hown hK hP 7 rfl rfl 3 (by decide) (htb _ q87) (fun _ h9 => h9) rfl d_S_open_23 ?_
    refine lv_iload hx hb d_S_open_26 (lv_at hl 1 rfl) ?_
    refine lv_iload hx hb d_S_open_28 (lv_at hl 0 rfl) ?_
    refine nr_if_eq (tgt := 40) hx hb (by omega) d_S_open_30 (by decide) (fun c_30 => ?_) (fun c_30 => by exfalso; omega)
    refine nr_iconst hx hb 0 d_S_open_40 (by decide) ?_
    refine nr_iast hx hb hK hP hD hS 10 8 rfl rfl (by omega) (by decide) d_S_open_41 (fun H locs hP hD hS => ?_)
    have hP : va_P D cls (wSP ad ca P (up2 S 3 (d * 6 + p1) 0) a cS ro) H := hP
    have hD : va_D A (wSP ad ca P (up2 S 3 (d * 6 + p1) 0) a cS ro) := hD
    refine lv_aload_n hx hb d_S_open_42 rfl (lv_at hl 2 rfl) ?_
    refine va_get (D := D) (ci := 1) (v := .ref (ad 12)) (C := R_S) (T := F_S) (N := 15) hx hb htb u_S hown hK hP 7 rfl rfl 4 (by decide) (htb _ q88) (fun _ h9 => h9) rfl d_S_open_43 ?_
    refine lv_iload hx hb d_S_open_46 (lv_at hl 1 rfl) ?_
    refine lv_iload hx hb d_S_open_48 (lv_at hl 0 rfl) ?_
    refine nr_if_eq (tgt := 60) hx hb (by omega) d_S_open_50 (by decide) (fun c_50 => ?_) (fun c_50 => by exfalso; omega)
    refine nr_iconst hx hb 3 d_S_open_60 (by decide) ?_
    refine nr_iast hx hb hK hP hD hS 11 9 rfl rfl (by omega) (by decide) d_S_open_61 (fun H locs hP hD hS => ?_)
    have hP : va_P D cls (wSP ad ca P (up2 (up2 S 3 (d * 6 + p1) 0) 4 (d * 6 + p1) 3) a cS ro) H := hP
    have hD : va_D A (wSP ad ca P (up2 (up2 S 3 (d * 6 + p1) 0) 4 (d * 6 + p1) 3) a cS ro) := hD
    have hfin : openS S ro p1 d = up2 (up2 S 3 (d * 6 + p1) 0) 4 (d * 6 + p1) 3 := by unfold openS; rw [if_neg (by omega)]
    rw [← hfin] at hP hD
    exact W.vret hx hb hr (fun t ht hW => ⟨⟨(), rfl, trivial, by rw [ht]; exact hP, hD⟩, hS.F ht⟩) hS.2.2 d_S_open_62
  · refine nr_iconst hx hb 1 d_S_open_15 (by decide) ?_
    refine lv_goto (tgt := 20) hx hb d_S_open_16 (by decide) ?_
    refine lv_istore (lv' := [(5, .int (nI 1)), (4, .int (nI (d * 6 + p1))), (0, .ref (ad 2)), (1, .ref a), (2, .int (nI p1)), (3, .int (nI d))]) hx hb d_S_open_20 hl (by decide) rfl (fun ls hl => ?_)
    refine lv_aload_n hx hb d_S_open_22 rfl (lv_at hl 2 rfl) ?_
    refine va_get (D := D) (ci := 1) (v := .ref (ad 11)) (C := R_S) (T := F_S) (N := 15) hx hb htb u_S hown hK hP 7 rfl rfl 3 (by decide) (htb _ q87) (fun _ h9 => h9) rfl d_S_open_23 ?_
    refine lv_iload hx hb d_S_open_26 (lv_at hl 1 rfl) ?_
    refine lv_iload hx hb d_S_open_28 (lv_at hl 0 rfl) ?_
    refine nr_if_eq (tgt := 40) hx hb (by omega) d_S_open_30 (by decide) (fun c_30 => by exfalso; omega) (fun c_30 => ?_)
    refine lv_aload_n hx hb d_S_open_33 rfl (lv_at hl 3 rfl) ?_
    refine lv_iload hx hb d_S_open_34 (lv_at hl 1 rfl) ?_
    refine nr_iald hx hb hK hP 15 13 rfl rfl (by omega) (by decide) d_S_open_36 ?_
    have hv_2 := hro (d * 6 + p1)
    refine lv_goto (tgt := 41) hx hb d_S_open_37 (by decide) ?_
    refine nr_iast hx hb hK hP hD hS 10 8 rfl rfl (by omega) (by decide) d_S_open_41 (fun H locs hP hD hS => ?_)
    have hP : va_P D cls (wSP ad ca P (up2 S 3 (d * 6 + p1) (ro (d * 6 + p1))) a cS ro) H := hP
    have hD : va_D A (wSP ad ca P (up2 S 3 (d * 6 + p1) (ro (d * 6 + p1))) a cS ro) := hD
    refine lv_aload_n hx hb d_S_open_42 rfl (lv_at hl 2 rfl) ?_
    refine va_get (D := D) (ci := 1) (v := .ref (ad 12)) (C := R_S) (T := F_S) (N := 15) hx hb htb u_S hown hK hP 7 rfl rfl 4 (by decide) (htb _ q88) (fun _ h9 => h9) rfl d_S_open_43 ?_
    refine lv_iload hx hb d_S_open_46 (lv_at hl 1 rfl) ?_
    refine lv_iload hx hb d_S_open_48 (lv_at hl 0 rfl) ?_
    refine nr_if_eq (tgt := 60) hx hb (by omega) d_S_open_50 (by decide) (fun c_50 => by exfalso; omega) (fun c_50 => ?_)
    refine lv_aload_n hx hb d_S_open_53 rfl (lv_at hl 3 rfl) ?_
    refine lv_iload hx hb d_S_open_54 (lv_at hl 1 rfl) ?_
    refine nr_iald hx hb hK hP 15 13 rfl rfl (by omega) (by decide) d_S_open_56 ?_
    have hv_3 := hro (d * 6 + p1)
    refine lv_goto (tgt := 61) hx hb d_S_open_57 (by decide) ?_
    refine nr_iast hx hb hK hP hD hS 11 9 rfl rfl (by omega) (by decide) d_S_open_61 (fun H locs hP hD hS => ?_)
    have hP : va_P D cls (wSP ad ca P (up2 (up2 S 3 (d * 6 + p1) (ro (d * 6 + p1))) 4 (d * 6 + p1) (ro (d * 6 + p1))) a cS ro) H := hP
    have hD : va_D A (wSP ad ca P (up2 (up2 S 3 (d * 6 + p1) (ro (d * 6 + p1))) 4 (d * 6 + p1) (ro (d * 6 + p1))) a cS ro) := hD
    have hfin : openS S ro p1 d = up2 (up2 S 3 (d * 6 + p1) (ro (d * 6 + p1))) 4 (d * 6 + p1) (ro (d * 6 + p1)) := by unfold openS; rw [if_pos c_12]
    rw [← hfin] at hP hD
    exact W.vret hx hb hr (fun t ht hW => ⟨⟨(), rfl, trivial, by rw [ht]; exact hP, hD⟩, hS.F ht⟩) hS.2.2 d_S_open_62
set_option maxHeartbeats 4000000 in
set_option maxRecDepth 100000 in
theorem c_S_keepsRules (l : Launch) (D : va_G) (ad : Nat → Nat) (ca : Nat → ClassId) (P S : Nat → Nat → Nat) (a : Nat) (cS : ClassId) (ro : Nat → Nat) (hP0 : okP P) (hS0 : okS S) (hro : ∀ k, ro k ≤ 3) (p1 d sf : Nat) (hp : p1 < 6) (hd : d < 7) (hsf : sf ≤ 3) (sz : Nat) : Met l y_S_keepsRules w_S_keepsRules { frames := 2, cells := 0, slots := 0, locals := 43 } (rw_P [.ref (ad 2), .int (nI p1), .int (nI d), .int (nI sf)] D (wSP ad ca P S a cS ro) (tSP ca cS) sz) (rw_Qi (fun (r : Int32) (u : Unit) => r = nI (if krB P S p1 d sf = true then 1 else 0)) D (wSP ad ca P S a cS ro) (fun u => wSP ad ca P (krS S p1 d sf) a cS ro) sz) 0 0 (va_A (wSP ad ca P S a cS ro) sz) := by
  refine Met.ofW (cc := b_S_keepsRules) (maxL := 9) (ret := (some .boolean)) (by decide) rfl ?_
  intro p e s m args below meth c s₁ B hml hv
  obtain ⟨rfl, hsz, hN, hP, hK, hD0⟩ := hv
  have hx := B.exec
  have hb := B.bytes
  have hr := B.returns
  have hts := atoms_spec (ws := w_S_keepsRules) B.pre
  have htb : ∀ w ∈ TBG, w.before [.ref (ad 2), .int (nI p1), .int (nI d), .int (nI sf)].toArray s = true := fun w h => hts w (List.mem_cons_of_mem _ h)
  have hown : s.vm.findClass R_S = some m.cls := findClass_of_methodNamed B.named
  have hlocks := B.notSynchronized
  subst hsz
  have hD := hD0.self (sz := s.heap.size)
  unfold rw_Qi
  generalize hAe : va_A (wSP ad ca P S a cS ro) s.heap.size = A at hD ⊢
  have hA : ∀ q : Nat, s.heap.size ≤ q → A q := fun q h => by rw [← hAe]; exact Or.inr h
  have hS : va_S A s.heap s.heap [] := va_S.rf
  have hl := lv_entry ([.ref (ad 2), .int (nI p1), .int (nI d), .int (nI sf)]) (n := 9) (Nat.le_of_ble_eq_true rfl)
  rw [lg_entry_eq]
  generalize (lg_sl ([.ref (ad 2), .int (nI p1), .int (nI d), .int (nI sf)]) ++ List.replicate (9 - (lg_sl ([.ref (ad 2), .int (nI p1), .int (nI d), .int (nI sf)])).length) Slot.unset).toArray = ls at hl ⊢
  have hl : lv_has ls 9 [(0, .ref (ad 2)), (1, .int (nI p1)), (2, .int (nI d)), (3, .int (nI sf))] := hl
  refine nr_start hP hS (fun H locs hP hS => ?_)
  obtain ⟨h00, h01, h02, h03, h04, h05, hp1, hp2, hp3, hp4, hp5, hp6⟩ := id hP0
  obtain ⟨g00, g01, g02, g03, g04, g05, g06, hs1, hs2, hs3, hs4, hs5, hs6, hs7⟩ := id hS0
  rcases Nat.eq_zero_or_pos d with hd0 | hd0
  · have hh5 : hadB S 5 p1 d = 0 := by unfold hadB; rw [if_pos hd0]
    have hh6 : hadB S 6 p1 d = 0 := by unfold hadB; rw [if_pos hd0]
    have hh2 : hadB S 2 p1 d = 0 := by unfold hadB; rw [if_pos hd0]
    refine lv_iload_n hx hb d_S_keepsRules_0 rfl (lv_at hl 1 rfl) ?_
    refine lv_iload_n hx hb d_S_keepsRules_1 rfl (lv_at hl 2 rfl) ?_
    refine nr_calli (va_runSN (As := [.int (nI p1), .int (nI d)]) (rest := []) ⟨hx, hb, hml, hown, hts⟩ (c_R_cell l D p1 d) ⟨va_cnB 2 hts (gTB q_R_cell) rfl rfl rfl (hN.nw q489 rfl) (htb _ q1) hd_R_cell ⟨Nat.le_of_ble_eq_true rfl, Nat.le_of_ble_eq_true rfl⟩, (htb _ q174), trivial⟩ ⟨ro_blind, ro_pre hN (hP.sub (ws' := []) [] rfl) (hK.sub (tys' := []) [] rfl)⟩ rfl rfl hl.1 rfl (lv_room (Nat.le_of_ble_eq_true rfl)) d_S_keepsRules_2 ⟨Nat.le_of_ble_eq_true rfl, Nat.le_of_ble_eq_true rfl⟩) (fun r_1 hr_1 => ?_)
    subst hr_1
    refine lv_istore (lv' := [(4, .int (nI (d * 6 + p1))), (0, .ref (ad 2)), (1, .int (nI p1)), (2, .int (nI d)), (3, .int (nI sf))]) hx hb d_S_keepsRules_5 hl (by decide) rfl (fun ls hl => ?_)
    refine lv_iload_n hx hb d_S_keepsRules_7 rfl (lv_at hl 2 rfl) ?_
    refine lv_iload_n hx hb d_S_keepsRules_8 rfl (lv_at hl 3 rfl) ?_
    refine nr_iconst hx hb 1 d_S_keepsRules_9 (by decide) ?_
    refine lv_isub hx hb d_S_keepsRules_10 ?_
    refine nr_calli (va_runSN (As := [.int (nI p1), .int (nI d - nI 1)]) (rest := []) ⟨hx, hb, hml, hown, hts⟩ (c_R_cell_raw l D (nI p1) (nI d - nI 1)) ⟨va_cnB 2 hts (gTB q_R_cell) rfl rfl rfl (hN.nw q489 rfl) (htb _ q1) hd_R_cell ⟨Nat.le_of_ble_eq_true rfl, Nat.le_of_ble_eq_true rfl⟩, (htb _ q174), trivial⟩ ⟨ro_blind, ro_pre hN (hP.sub (ws' := []) [] rfl) (hK.sub (tys' := []) [] rfl)⟩ rfl rfl hl.1 rfl (lv_room (Nat.le_of_ble_eq_true rfl)) d_S_keepsRules_11 ⟨Nat.le_of_ble_eq_true rfl, Nat.le_of_ble_eq_true rfl⟩) (fun r_2 hr_2 => ?_)
    subst hr_2
    refine lv_istore (lv' := [(5, .int ((nI d - nI 1) * nI 6 + (nI p1))), (4, .int (nI (d * 6 + p1))), (0, .ref (ad 2)), (1, .int (nI p1)), (2, .int (nI d)), (3, .int (nI sf))]) hx hb d_S_keepsRules_14 hl (by decide) rfl (fun ls hl => ?_)
    refine lv_iload_n hx hb d_S_keepsRules_16 rfl (lv_at hl 4 rfl) ?_
    refine nr_if_ne (tgt := 24) hx hb (by omega) d_S_keepsRules_17 (by decide) (fun c_17 => by exfalso; omega) (fun c_17 => ?_)
    refine nr_iconst hx hb 0 d_S_keepsRules_20 (by decide) ?_
    refine lv_goto (tgt := 31) hx hb d_S_keepsRules_21 (by decide) ?_
    refine lv_istore (lv' := [(6, .int (nI 0)), (5, .int ((nI d - nI 1) * nI 6 + (nI p1))), (4, .int (nI (d * 6 + p1))), (0, .ref (ad 2)), (1, .int (nI p1)), (2, .int (nI d)), (3, .int (nI sf))]) hx hb d_S_keepsRules_31 hl (by decide) rfl (fun ls hl => ?_)
    refine lv_iload_n hx hb d_S_keepsRules_33 rfl (lv_at hl 5 rfl) ?_
    refine nr_if_ne (tgt := 41) hx hb (by omega) d_S_keepsRules_34 (by decide) (fun c_34 => by exfalso; omega) (fun c_34 => ?_)
    refine nr_iconst hx hb 0 d_S_keepsRules_37 (by decide) ?_
    refine lv_goto (tgt := 48) hx hb d_S_keepsRules_38 (by decide) ?_
    refine lv_istore (lv' := [(7, .int (nI 0)), (6, .int (nI 0)), (5, .int ((nI d - nI 1) * nI 6 + (nI p1))), (4, .int (nI (d * 6 + p1))), (0, .ref (ad 2)), (1, .int (nI p1)), (2, .int (nI d)), (3, .int (nI sf))]) hx hb d_S_keepsRules_48 hl (by decide) rfl (fun ls hl => ?_)
    refine lv_iload_n hx hb d_S_keepsRules_50 rfl (lv_at hl 6 rfl) ?_
    refine nr_if_ne (tgt := 58) hx hb (by omega) d_S_keepsRules_51 (by decide) (fun c_51 => by exfalso; omega) (fun c_51 => ?_)
    refine nr_iconst hx hb 0 d_S_keepsRules_54 (by decide) ?_
    refine lv_goto (tgt := 65) hx hb d_S_keepsRules_55 (by decide) ?_
    refine lv_istore (lv' := [(8, .int (nI 0)), (7, .int (nI 0)), (6, .int (nI 0)), (5, .int ((nI d - nI 1) * nI 6 + (nI p1))), (4, .int (nI (d * 6 + p1))), (0, .ref (ad 2)), (1, .int (nI p1)), (2, .int (nI d)), (3, .int (nI sf))]) hx hb d_S_keepsRules_65 hl (by decide) rfl (fun ls hl => ?_)
    refine lv_aload_n hx hb d_S_keepsRules_67 rfl (lv_at hl 5 rfl) ?_
    refine va_get (D := D) (ci := 1) (v := .ref (ad 13)) (C := R_S) (T := F_S) (N := 15) hx hb htb u_S hown hK hP 7 rfl rfl 5 (by decide) (htb _ q89) (fun _ h9 => h9) rfl d_S_keepsRules_68 ?_
    refine lv_iload hx hb d_S_keepsRules_71 (lv_at hl 4 rfl) ?_
    refine lv_iload_n hx hb d_S_keepsRules_73 rfl (lv_at hl 8 rfl) ?_
    refine nr_if_ne (tgt := 82) hx hb (by omega) d_S_keepsRules_74 (by decide) (fun c_74 => ?_) (fun c_74 => ?_)
    · refine lv_iload hx hb d_S_keepsRules_82 (lv_at hl 2 rfl) ?_
      refine nr_iconst hx hb 1 d_S_keepsRules_84 (by decide) ?_
      refine nr_iadd hx hb d_S_keepsRules_85 ?_
      refine nr_iast hx hb hK hP hD hS 12 10 rfl rfl (by omega) (by decide) d_S_keepsRules_86 (fun H locs hP hD hS => ?_)
      have hP : va_P D cls (wSP ad ca P (up2 S 5 (d * 6 + p1) (0 + 1)) a cS ro) H := hP
      have hD : va_D A (wSP ad ca P (up2 S 5 (d * 6 + p1) (0 + 1)) a cS ro) := hD
      refine lv_aload_n hx hb d_S_keepsRules_87 rfl (lv_at hl 5 rfl) ?_
      refine va_get (D := D) (ci := 1) (v := .ref (ad 14)) (C := R_S) (T := F_S) (N := 15) hx hb htb u_S hown hK hP 7 rfl rfl 6 (by decide) (htb _ q90) (fun _ h9 => h9) rfl d_S_keepsRules_88 ?_
      refine lv_iload hx hb d_S_keepsRules_91 (lv_at hl 4 rfl) ?_
      refine lv_iload_n hx hb d_S_keepsRules_93 rfl (lv_at hl 8 rfl) ?_
      refine nr_iconst hx hb 3 d_S_keepsRules_94 (by decide) ?_
      refine nr_icmp_ne (tgt := 105) hx hb (by omega) (by omega) d_S_keepsRules_95 (by decide) (fun c_95 => ?_) (fun c_95 => ?_)
      · refine nr_iconst hx hb 0 d_S_keepsRules_105 (by decide) ?_
        refine nr_iast hx hb hK hP hD hS 13 11 rfl rfl (by omega) (by decide) d_S_keepsRules_106 (fun H locs hP hD hS => ?_)
        have hP : va_P D cls (wSP ad ca P (up2 (up2 S 5 (d * 6 + p1) (0 + 1)) 6 (d * 6 + p1) 0) a cS ro) H := hP
        have hD : va_D A (wSP ad ca P (up2 (up2 S 5 (d * 6 + p1) (0 + 1)) 6 (d * 6 + p1) 0) a cS ro) := hD
        refine lv_aload_n hx hb d_S_keepsRules_107 rfl (lv_at hl 5 rfl) ?_
        refine va_get (D := D) (ci := 1) (v := .ref (ad 13)) (C := R_S) (T := F_S) (N := 15) hx hb htb u_S hown hK hP 7 rfl rfl 5 (by decide) (htb _ q89) (fun _ h9 => h9) rfl d_S_keepsRules_108 ?_
        refine lv_iload hx hb d_S_keepsRules_111 (lv_at hl 4 rfl) ?_
        refine nr_iald hx hb hK hP 12 10 rfl rfl (by omega) (by decide) d_S_keepsRules_113 ?_
        refine nr_top (y := nI (0 + 1)) (by simp [up2, upr]) ?_
        have hv_3 := hs5 (d * 6 + p1)
        refine lv_aload_n hx hb d_S_keepsRules_114 rfl (lv_at hl 5 rfl) ?_
        refine va_get (D := D) (ci := 1) (v := .ref (ad 1)) (C := R_S) (T := F_S) (N := 15) hx hb htb u_S hown hK hP 7 rfl rfl 0 (by decide) (htb _ q83) (fun _ h9 => h9) rfl d_S_keepsRules_115 ?_
        refine va_getN (D := D) (ci := 0) (v := .int (nI (P 0 3))) (C := R_P) (T := F_P) (N := 12) hx hb htb u_P hown hK hP 0 rfl rfl 3 (by decide) (hN.at q36 rfl rfl) (fun _ h9 => h9) rfl d_S_keepsRules_118 ?_
        refine nr_icmp_gt (tgt := 158) hx hb (by omega) (by omega) d_S_keepsRules_121 (by decide) (fun c_121 => ?_) (fun c_121 => ?_)
        · refine nr_iconst hx hb 0 d_S_keepsRules_158 (by decide) ?_
          have hfin : krS S p1 d sf = up2 (up2 S 5 (d * 6 + p1) (0 + 1)) 6 (d * 6 + p1) 0 := by unfold krS; rw [hh5, hh6, if_neg c_74, if_neg c_95]
          rw [← hfin] at hP hD
          exact W.zret (v := (nI 0)) hx hb hr rfl (fun t ht hW => ⟨⟨_, (), rfl, by rw [krB, hh5, hh6, hh2, if_neg c_74, if_neg c_95, decide_eq_false (fun h => absurd h.1 (by omega))]; rfl, by rw [ht]; exact hP, hD⟩, hS.F ht⟩) hS.2.2 d_S_keepsRules_159
        · refine lv_aload_n hx hb d_S_keepsRules_124 rfl (lv_at hl 5 rfl) ?_
          refine va_get (D := D) (ci := 1) (v := .ref (ad 14)) (C := R_S) (T := F_S) (N := 15) hx hb htb u_S hown hK hP 7 rfl rfl 6 (by decide) (htb _ q90) (fun _ h9 => h9) rfl d_S_keepsRules_125 ?_
          refine lv_iload hx hb d_S_keepsRules_128 (lv_at hl 4 rfl) ?_
          refine nr_iald hx hb hK hP 13 11 rfl rfl (by omega) (by decide) d_S_keepsRules_130 ?_
          refine nr_top (y := nI 0) (by simp [up2, upr]) ?_
          have hv_4 := hs6 (d * 6 + p1)
          refine lv_aload_n hx hb d_S_keepsRules_131 rfl (lv_at hl 5 rfl) ?_
          refine va_get (D := D) (ci := 1) (v := .ref (ad 1)) (C := R_S) (T := F_S) (N := 15) hx hb htb u_S hown hK hP 7 rfl rfl 0 (by decide) (htb _ q83) (fun _ h9 => h9) rfl d_S_keepsRules_132 ?_
          refine va_getN (D := D) (ci := 0) (v := .int (nI (P 0 4))) (C := R_P) (T := F_P) (N := 12) hx hb htb u_P hown hK hP 0 rfl rfl 4 (by decide) (hN.at q38 rfl rfl) (fun _ h9 => h9) rfl d_S_keepsRules_135 ?_
          refine nr_icmp_gt (tgt := 158) hx hb (by omega) (by omega) d_S_keepsRules_138 (by decide) (fun c_138 => ?_) (fun c_138 => ?_)
          · refine nr_iconst hx hb 0 d_S_keepsRules_158 (by decide) ?_
            have hfin : krS S p1 d sf = up2 (up2 S 5 (d * 6 + p1) (0 + 1)) 6 (d * 6 + p1) 0 := by unfold krS; rw [hh5, hh6, if_neg c_74, if_neg c_95]
            rw [← hfin] at hP hD
            exact W.zret (v := (nI 0)) hx hb hr rfl (fun t ht hW => ⟨⟨_, (), rfl, by rw [krB, hh5, hh6, hh2, if_neg c_74, if_neg c_95, decide_eq_false (fun h => absurd h.2.1 (by omega))]; rfl, by rw [ht]; exact hP, hD⟩, hS.F ht⟩) hS.2.2 d_S_keepsRules_159
          · refine lv_aload_n hx hb d_S_keepsRules_141 rfl (lv_at hl 5 rfl) ?_
            refine va_get (D := D) (ci := 1) (v := .ref (ad 1)) (C := R_S) (T := F_S) (N := 15) hx hb htb u_S hown hK hP 7 rfl rfl 0 (by decide) (htb _ q83) (fun _ h9 => h9) rfl d_S_keepsRules_142 ?_
            refine lv_iload hx hb d_S_keepsRules_145 (lv_at hl 0 rfl) ?_
            refine lv_iload_n hx hb d_S_keepsRules_147 rfl (lv_at hl 8 rfl) ?_
            refine nr_calli (va_runVN (As := [.int (nI 0), .int (nI sf)]) (rest := []) ⟨hx, hb, hml, hown, hts⟩ (c_P_breaksRest l D ad ca P a cS ro hP0 hro 0 sf (by omega) (by omega)) ⟨va_cnB 2 hts (gTB q_P_breaksRest) rfl rfl rfl (hN.nw q499 rfl) (htb _ q2) hd_P_breaksRest ⟨Nat.le_of_ble_eq_true rfl, Nat.le_of_ble_eq_true rfl⟩, (htb _ q188), (htb _ sel_P_breaksRest)⟩ ⟨ro_blind, va_recv (hK.sub (tys' := []) [] rfl) hP (ci := 0) (q0 := 0) rfl rfl, ro_pre hN (hP.sub (ws' := (wPS ad ca P a cS ro)) [0, 1, 2, 3, 4, 5, 6, 15] rfl) (hK.sub (tys' := (tPS ca cS)) [0, 1, 2, 3, 4, 5, 13] rfl)⟩ rfl rfl hl.1 rfl (lv_room (Nat.le_of_ble_eq_true rfl)) d_S_keepsRules_148 ⟨Nat.le_of_ble_eq_true rfl, Nat.le_of_ble_eq_true rfl⟩) (fun r_5 hr_5 => ?_)
            subst hr_5
            refine nr_if_ne (tgt := 158) hx hb b01_lt d_S_keepsRules_151 (by decide) (fun c_151 => ?_) (fun c_151 => ?_)
            · refine nr_iconst hx hb 0 d_S_keepsRules_158 (by decide) ?_
              have hfin : krS S p1 d sf = up2 (up2 S 5 (d * 6 + p1) (0 + 1)) 6 (d * 6 + p1) 0 := by unfold krS; rw [hh5, hh6, if_neg c_74, if_neg c_95]
              rw [← hfin] at hP hD
              exact W.zret (v := (nI 0)) hx hb hr rfl (fun t ht hW => ⟨⟨_, (), rfl, by rw [krB, hh5, hh6, hh2, if_neg c_74, if_neg c_95, decide_eq_false (fun h => absurd h.2.2 (by rw [b01_nz c_151]; decide))]; rfl, by rw [ht]; exact hP, hD⟩, hS.F ht⟩) hS.2.2 d_S_keepsRules_159
            · refine nr_iconst hx hb 1 d_S_keepsRules_154 (by decide) ?_
              refine lv_goto (tgt := 159) hx hb d_S_keepsRules_155 (by decide) ?_
              have hfin : krS S p1 d sf = up2 (up2 S 5 (d * 6 + p1) (0 + 1)) 6 (d * 6 + p1) 0 := by unfold krS; rw [hh5, hh6, if_neg c_74, if_neg c_95]
              rw [← hfin] at hP hD
              exact W.zret (v := (nI 1)) hx hb hr rfl (fun t ht hW => ⟨⟨_, (), rfl, by rw [krB, hh5, hh6, hh2, if_neg c_74, if_neg c_95, decide_eq_true (⟨c_121, c_138, b01_f c_151⟩)]; rfl, by rw [ht]; exact hP, hD⟩, hS.F ht⟩) hS.2.2 d_S_keepsRules_159
      · refine lv_iload hx hb d_S_keepsRules_98 (lv_at hl 1 rfl) ?_
        refine nr_iconst hx hb 1 d_S_keepsRules_100 (by decide) ?_
        refine nr_iadd hx hb d_S_keepsRules_101 ?_
        refine lv_goto (tgt := 106) hx hb d_S_keepsRules_102 (by decide) ?_
        refine nr_iast hx hb hK hP hD hS 13 11 rfl rfl (by omega) (by decide) d_S_keepsRules_106 (fun H locs hP hD hS => ?_)
        have hP : va_P D cls (wSP ad ca P (up2 (up2 S 5 (d * 6 + p1) (0 + 1)) 6 (d * 6 + p1) (0 + 1)) a cS ro) H := hP
        have hD : va_D A (wSP ad ca P (up2 (up2 S 5 (d * 6 + p1) (0 + 1)) 6 (d * 6 + p1) (0 + 1)) a cS ro) := hD
        refine lv_aload_n hx hb d_S_keepsRules_107 rfl (lv_at hl 5 rfl) ?_
        refine va_get (D := D) (ci := 1) (v := .ref (ad 13)) (C := R_S) (T := F_S) (N := 15) hx hb htb u_S hown hK hP 7 rfl rfl 5 (by decide) (htb _ q89) (fun _ h9 => h9) rfl d_S_keepsRules_108 ?_
        refine lv_iload hx hb d_S_keepsRules_111 (lv_at hl 4 rfl) ?_
        refine nr_iald hx hb hK hP 12 10 rfl rfl (by omega) (by decide) d_S_keepsRules_113 ?_
        refine nr_top (y := nI (0 + 1)) (by simp [up2, upr]) ?_
        have hv_6 := hs5 (d * 6 + p1)
        refine lv_aload_n hx hb d_S_keepsRules_114 rfl (lv_at hl 5 rfl) ?_
        refine va_get (D := D) (ci := 1) (v := .ref (ad 1)) (C := R_S) (T := F_S) (N := 15) hx hb htb u_S hown hK hP 7 rfl rfl 0 (by decide) (htb _ q83) (fun _ h9 => h9) rfl d_S_keepsRules_115 ?_
        refine va_getN (D := D) (ci := 0) (v := .int (nI (P 0 3))) (C := R_P) (T := F_P) (N := 12) hx hb htb u_P hown hK hP 0 rfl rfl 3 (by decide) (hN.at q36 rfl rfl) (fun _ h9 => h9) rfl d_S_keepsRules_118 ?_
        refine nr_icmp_gt (tgt := 158) hx hb (by omega) (by omega) d_S_keepsRules_121 (by decide) (fun c_121 => ?_) (fun c_121 => ?_)
        · refine nr_iconst hx hb 0 d_S_keepsRules_158 (by decide) ?_
          have hfin : krS S p1 d sf = up2 (up2 S 5 (d * 6 + p1) (0 + 1)) 6 (d * 6 + p1) (0 + 1) := by unfold krS; rw [hh5, hh6, if_neg c_74, if_pos c_95]
          rw [← hfin] at hP hD
          exact W.zret (v := (nI 0)) hx hb hr rfl (fun t ht hW => ⟨⟨_, (), rfl, by rw [krB, hh5, hh6, hh2, if_neg c_74, if_pos c_95, decide_eq_false (fun h => absurd h.1 (by omega))]; rfl, by rw [ht]; exact hP, hD⟩, hS.F ht⟩) hS.2.2 d_S_keepsRules_159
        · refine lv_aload_n hx hb d_S_keepsRules_124 rfl (lv_at hl 5 rfl) ?_
          refine va_get (D := D) (ci := 1) (v := .ref (ad 14)) (C := R_S) (T := F_S) (N := 15) hx hb htb u_S hown hK hP 7 rfl rfl 6 (by decide) (htb _ q90) (fun _ h9 => h9) rfl d_S_keepsRules_125 ?_
          refine lv_iload hx hb d_S_keepsRules_128 (lv_at hl 4 rfl) ?_
          refine nr_iald hx hb hK hP 13 11 rfl rfl (by omega) (by decide) d_S_keepsRules_130 ?_
          refine nr_top (y := nI (0 + 1)) (by simp [up2, upr]) ?_
          have hv_7 := hs6 (d * 6 + p1)
          refine lv_aload_n hx hb d_S_keepsRules_131 rfl (lv_at hl 5 rfl) ?_
          refine va_get (D := D) (ci := 1) (v := .ref (ad 1)) (C := R_S) (T := F_S) (N := 15) hx hb htb u_S hown hK hP 7 rfl rfl 0 (by decide) (htb _ q83) (fun _ h9 => h9) rfl d_S_keepsRules_132 ?_
          refine va_getN (D := D) (ci := 0) (v := .int (nI (P 0 4))) (C := R_P) (T := F_P) (N := 12) hx hb htb u_P hown hK hP 0 rfl rfl 4 (by decide) (hN.at q38 rfl rfl) (fun _ h9 => h9) rfl d_S_keepsRules_135 ?_
          refine nr_icmp_gt (tgt := 158) hx hb (by omega) (by omega) d_S_keepsRules_138 (by decide) (fun c_138 => ?_) (fun c_138 => ?_)
          · refine nr_iconst hx hb 0 d_S_keepsRules_158 (by decide) ?_
            have hfin : krS S p1 d sf = up2 (up2 S 5 (d * 6 + p1) (0 + 1)) 6 (d * 6 + p1) (0 + 1) := by unfold krS; rw [hh5, hh6, if_neg c_74, if_pos c_95]
            rw [← hfin] at hP hD
            exact W.zret (v := (nI 0)) hx hb hr rfl (fun t ht hW => ⟨⟨_, (), rfl, by rw [krB, hh5, hh6, hh2, if_neg c_74, if_pos c_95, decide_eq_false (fun h => absurd h.2.1 (by omega))]; rfl, by rw [ht]; exact hP, hD⟩, hS.F ht⟩) hS.2.2 d_S_keepsRules_159
          · refine lv_aload_n hx hb d_S_keepsRules_141 rfl (lv_at hl 5 rfl) ?_
            refine va_get (D := D) (ci := 1) (v := .ref (ad 1)) (C := R_S) (T := F_S) (N := 15) hx hb htb u_S hown hK hP 7 rfl rfl 0 (by decide) (htb _ q83) (fun _ h9 => h9) rfl d_S_keepsRules_142 ?_
            refine lv_iload hx hb d_S_keepsRules_145 (lv_at hl 0 rfl) ?_
            refine lv_iload_n hx hb d_S_keepsRules_147 rfl (lv_at hl 8 rfl) ?_
            refine nr_calli (va_runVN (As := [.int (nI 0), .int (nI sf)]) (rest := []) ⟨hx, hb, hml, hown, hts⟩ (c_P_breaksRest l D ad ca P a cS ro hP0 hro 0 sf (by omega) (by omega)) ⟨va_cnB 2 hts (gTB q_P_breaksRest) rfl rfl rfl (hN.nw q499 rfl) (htb _ q2) hd_P_breaksRest ⟨Nat.le_of_ble_eq_true rfl, Nat.le_of_ble_eq_true rfl⟩, (htb _ q188), (htb _ sel_P_breaksRest)⟩ ⟨ro_blind, va_recv (hK.sub (tys' := []) [] rfl) hP (ci := 0) (q0 := 0) rfl rfl, ro_pre hN (hP.sub (ws' := (wPS ad ca P a cS ro)) [0, 1, 2, 3, 4, 5, 6, 15] rfl) (hK.sub (tys' := (tPS ca cS)) [0, 1, 2, 3, 4, 5, 13] rfl)⟩ rfl rfl hl.1 rfl (lv_room (Nat.le_of_ble_eq_true rfl)) d_S_keepsRules_148 ⟨Nat.le_of_ble_eq_true rfl, Nat.le_of_ble_eq_true rfl⟩) (fun r_8 hr_8 => ?_)
            subst hr_8
            refine nr_if_ne (tgt := 158) hx hb b01_lt d_S_keepsRules_151 (by decide) (fun c_151 => ?_) (fun c_151 => ?_)
            · refine nr_iconst hx hb 0 d_S_keepsRules_158 (by decide) ?_
              have hfin : krS S p1 d sf = up2 (up2 S 5 (d * 6 + p1) (0 + 1)) 6 (d * 6 + p1) (0 + 1) := by unfold krS; rw [hh5, hh6, if_neg c_74, if_pos c_95]
              rw [← hfin] at hP hD
              exact W.zret (v := (nI 0)) hx hb hr rfl (fun t ht hW => ⟨⟨_, (), rfl, by rw [krB, hh5, hh6, hh2, if_neg c_74, if_pos c_95, decide_eq_false (fun h => absurd h.2.2 (by rw [b01_nz c_151]; decide))]; rfl, by rw [ht]; exact hP, hD⟩, hS.F ht⟩) hS.2.2 d_S_keepsRules_159
            · refine nr_iconst hx hb 1 d_S_keepsRules_154 (by decide) ?_
              refine lv_goto (tgt := 159) hx hb d_S_keepsRules_155 (by decide) ?_
              have hfin : krS S p1 d sf = up2 (up2 S 5 (d * 6 + p1) (0 + 1)) 6 (d * 6 + p1) (0 + 1) := by unfold krS; rw [hh5, hh6, if_neg c_74, if_pos c_95]
              rw [← hfin] at hP hD
              exact W.zret (v := (nI 1)) hx hb hr rfl (fun t ht hW => ⟨⟨_, (), rfl, by rw [krB, hh5, hh6, hh2, if_neg c_74, if_pos c_95, decide_eq_true (⟨c_121, c_138, b01_f c_151⟩)]; rfl, by rw [ht]; exact hP, hD⟩, hS.F ht⟩) hS.2.2 d_S_keepsRules_159
    · refine lv_iload hx hb d_S_keepsRules_77 (lv_at hl 2 rfl) ?_
      refine lv_goto (tgt := 86) hx hb d_S_keepsRules_79 (by decide) ?_
      refine nr_iast hx hb hK hP hD hS 12 10 rfl rfl (by omega) (by decide) d_S_keepsRules_86 (fun H locs hP hD hS => ?_)
      have hP : va_P D cls (wSP ad ca P (up2 S 5 (d * 6 + p1) 0) a cS ro) H := hP
      have hD : va_D A (wSP ad ca P (up2 S 5 (d * 6 + p1) 0) a cS ro) := hD
      refine lv_aload_n hx hb d_S_keepsRules_87 rfl (lv_at hl 5 rfl) ?_
      refine va_get (D := D) (ci := 1) (v := .ref (ad 14)) (C := R_S) (T := F_S) (N := 15) hx hb htb u_S hown hK hP 7 rfl rfl 6 (by decide) (htb _ q90) (fun _ h9 => h9) rfl d_S_keepsRules_88 ?_
      refine lv_iload hx hb d_S_keepsRules_91 (lv_at hl 4 rfl) ?_
      refine lv_iload_n hx hb d_S_keepsRules_93 rfl (lv_at hl 8 rfl) ?_
      refine nr_iconst hx hb 3 d_S_keepsRules_94 (by decide) ?_
      refine nr_icmp_ne (tgt := 105) hx hb (by omega) (by omega) d_S_keepsRules_95 (by decide) (fun c_95 => ?_) (fun c_95 => ?_)
      · refine nr_iconst hx hb 0 d_S_keepsRules_105 (by decide) ?_
        refine nr_iast hx hb hK hP hD hS 13 11 rfl rfl (by omega) (by decide) d_S_keepsRules_106 (fun H locs hP hD hS => ?_)
        have hP : va_P D cls (wSP ad ca P (up2 (up2 S 5 (d * 6 + p1) 0) 6 (d * 6 + p1) 0) a cS ro) H := hP
        have hD : va_D A (wSP ad ca P (up2 (up2 S 5 (d * 6 + p1) 0) 6 (d * 6 + p1) 0) a cS ro) := hD
        refine lv_aload_n hx hb d_S_keepsRules_107 rfl (lv_at hl 5 rfl) ?_
        refine va_get (D := D) (ci := 1) (v := .ref (ad 13)) (C := R_S) (T := F_S) (N := 15) hx hb htb u_S hown hK hP 7 rfl rfl 5 (by decide) (htb _ q89) (fun _ h9 => h9) rfl d_S_keepsRules_108 ?_
        refine lv_iload hx hb d_S_keepsRules_111 (lv_at hl 4 rfl) ?_
        refine nr_iald hx hb hK hP 12 10 rfl rfl (by omega) (by decide) d_S_keepsRules_113 ?_
        refine nr_top (y := nI 0) (by simp [up2, upr]) ?_
        have hv_9 := hs5 (d * 6 + p1)
        refine lv_aload_n hx hb d_S_keepsRules_114 rfl (lv_at hl 5 rfl) ?_
        refine va_get (D := D) (ci := 1) (v := .ref (ad 1)) (C := R_S) (T := F_S) (N := 15) hx hb htb u_S hown hK hP 7 rfl rfl 0 (by decide) (htb _ q83) (fun _ h9 => h9) rfl d_S_keepsRules_115 ?_
        refine va_getN (D := D) (ci := 0) (v := .int (nI (P 0 3))) (C := R_P) (T := F_P) (N := 12) hx hb htb u_P hown hK hP 0 rfl rfl 3 (by decide) (hN.at q36 rfl rfl) (fun _ h9 => h9) rfl d_S_keepsRules_118 ?_
        refine nr_icmp_gt (tgt := 158) hx hb (by omega) (by omega) d_S_keepsRules_121 (by decide) (fun c_121 => ?_) (fun c_121 => ?_)
        · refine nr_iconst hx hb 0 d_S_keepsRules_158 (by decide) ?_
          have hfin : krS S p1 d sf = up2 (up2 S 5 (d * 6 + p1) 0) 6 (d * 6 + p1) 0 := by unfold krS; rw [hh5, hh6, if_pos c_74, if_neg c_95]
          rw [← hfin] at hP hD
          exact W.zret (v := (nI 0)) hx hb hr rfl (fun t ht hW => ⟨⟨_, (), rfl, by rw [krB, hh5, hh6, hh2, if_pos c_74, if_neg c_95, decide_eq_false (fun h => absurd h.1 (by omega))]; rfl, by rw [ht]; exact hP, hD⟩, hS.F ht⟩) hS.2.2 d_S_keepsRules_159
        · refine lv_aload_n hx hb d_S_keepsRules_124 rfl (lv_at hl 5 rfl) ?_
          refine va_get (D := D) (ci := 1) (v := .ref (ad 14)) (C := R_S) (T := F_S) (N := 15) hx hb htb u_S hown hK hP 7 rfl rfl 6 (by decide) (htb _ q90) (fun _ h9 => h9) rfl d_S_keepsRules_125 ?_
          refine lv_iload hx hb d_S_keepsRules_128 (lv_at hl 4 rfl) ?_
          refine nr_iald hx hb hK hP 13 11 rfl rfl (by omega) (by decide) d_S_keepsRules_130 ?_
          refine nr_top (y := nI 0) (by simp [up2, upr]) ?_
          have hv_10 := hs6 (d * 6 + p1)
          refine lv_aload_n hx hb d_S_keepsRules_131 rfl (lv_at hl 5 rfl) ?_
          refine va_get (D := D) (ci := 1) (v := .ref (ad 1)) (C := R_S) (T := F_S) (N := 15) hx hb htb u_S hown hK hP 7 rfl rfl 0 (by decide) (htb _ q83) (fun _ h9 => h9) rfl d_S_keepsRules_132 ?_
          refine va_getN (D := D) (ci := 0) (v := .int (nI (P 0 4))) (C := R_P) (T := F_P) (N := 12) hx hb htb u_P hown hK hP 0 rfl rfl 4 (by decide) (hN.at q38 rfl rfl) (fun _ h9 => h9) rfl d_S_keepsRules_135 ?_
          refine nr_icmp_gt (tgt := 158) hx hb (by omega) (by omega) d_S_keepsRules_138 (by decide) (fun c_138 => ?_) (fun c_138 => ?_)
          · refine nr_iconst hx hb 0 d_S_keepsRules_158 (by decide) ?_
            have hfin : krS S p1 d sf = up2 (up2 S 5 (d * 6 + p1) 0) 6 (d * 6 + p1) 0 := by unfold krS; rw [hh5, hh6, if_pos c_74, if_neg c_95]
            rw [← hfin] at hP hD
            exact W.zret (v := (nI 0)) hx hb hr rfl (fun t ht hW => ⟨⟨_, (), rfl, by rw [krB, hh5, hh6, hh2, if_pos c_74, if_neg c_95, decide_eq_false (fun h => absurd h.2.1 (by omega))]; rfl, by rw [ht]; exact hP, hD⟩, hS.F ht⟩) hS.2.2 d_S_keepsRules_159
          · refine lv_aload_n hx hb d_S_keepsRules_141 rfl (lv_at hl 5 rfl) ?_
            refine va_get (D := D) (ci := 1) (v := .ref (ad 1)) (C := R_S) (T := F_S) (N := 15) hx hb htb u_S hown hK hP 7 rfl rfl 0 (by decide) (htb _ q83) (fun _ h9 => h9) rfl d_S_keepsRules_142 ?_
            refine lv_iload hx hb d_S_keepsRules_145 (lv_at hl 0 rfl) ?_
            refine lv_iload_n hx hb d_S_keepsRules_147 rfl (lv_at hl 8 rfl) ?_
            refine nr_calli (va_runVN (As := [.int (nI 0), .int (nI sf)]) (rest := []) ⟨hx, hb, hml, hown, hts⟩ (c_P_breaksRest l D ad ca P a cS ro hP0 hro 0 sf (by omega) (by omega)) ⟨va_cnB 2 hts (gTB q_P_breaksRest) rfl rfl rfl (hN.nw q499 rfl) (htb _ q2) hd_P_breaksRest ⟨Nat.le_of_ble_eq_true rfl, Nat.le_of_ble_eq_true rfl⟩, (htb _ q188), (htb _ sel_P_breaksRest)⟩ ⟨ro_blind, va_recv (hK.sub (tys' := []) [] rfl) hP (ci := 0) (q0 := 0) rfl rfl, ro_pre hN (hP.sub (ws' := (wPS ad ca P a cS ro)) [0, 1, 2, 3, 4, 5, 6, 15] rfl) (hK.sub (tys' := (tPS ca cS)) [0, 1, 2, 3, 4, 5, 13] rfl)⟩ rfl rfl hl.1 rfl (lv_room (Nat.le_of_ble_eq_true rfl)) d_S_keepsRules_148 ⟨Nat.le_of_ble_eq_true rfl, Nat.le_of_ble_eq_true rfl⟩) (fun r_11 hr_11 => ?_)
            subst hr_11
            refine nr_if_ne (tgt := 158) hx hb b01_lt d_S_keepsRules_151 (by decide) (fun c_151 => ?_) (fun c_151 => ?_)
            · refine nr_iconst hx hb 0 d_S_keepsRules_158 (by decide) ?_
              have hfin : krS S p1 d sf = up2 (up2 S 5 (d * 6 + p1) 0) 6 (d * 6 + p1) 0 := by unfold krS; rw [hh5, hh6, if_pos c_74, if_neg c_95]
              rw [← hfin] at hP hD
              exact W.zret (v := (nI 0)) hx hb hr rfl (fun t ht hW => ⟨⟨_, (), rfl, by rw [krB, hh5, hh6, hh2, if_pos c_74, if_neg c_95, decide_eq_false (fun h => absurd h.2.2 (by rw [b01_nz c_151]; decide))]; rfl, by rw [ht]; exact hP, hD⟩, hS.F ht⟩) hS.2.2 d_S_keepsRules_159
            · refine nr_iconst hx hb 1 d_S_keepsRules_154 (by decide) ?_
              refine lv_goto (tgt := 159) hx hb d_S_keepsRules_155 (by decide) ?_
              have hfin : krS S p1 d sf = up2 (up2 S 5 (d * 6 + p1) 0) 6 (d * 6 + p1) 0 := by unfold krS; rw [hh5, hh6, if_pos c_74, if_neg c_95]
              rw [← hfin] at hP hD
              exact W.zret (v := (nI 1)) hx hb hr rfl (fun t ht hW => ⟨⟨_, (), rfl, by rw [krB, hh5, hh6, hh2, if_pos c_74, if_neg c_95, decide_eq_true (⟨c_121, c_138, b01_f c_151⟩)]; rfl, by rw [ht]; exact hP, hD⟩, hS.F ht⟩) hS.2.2 d_S_keepsRules_159
      · refine lv_iload hx hb d_S_keepsRules_98 (lv_at hl 1 rfl) ?_
        refine nr_iconst hx hb 1 d_S_keepsRules_100 (by decide) ?_
        refine nr_iadd hx hb d_S_keepsRules_101 ?_
        refine lv_goto (tgt := 106) hx hb d_S_keepsRules_102 (by decide) ?_
        refine nr_iast hx hb hK hP hD hS 13 11 rfl rfl (by omega) (by decide) d_S_keepsRules_106 (fun H locs hP hD hS => ?_)
        have hP : va_P D cls (wSP ad ca P (up2 (up2 S 5 (d * 6 + p1) 0) 6 (d * 6 + p1) (0 + 1)) a cS ro) H := hP
        have hD : va_D A (wSP ad ca P (up2 (up2 S 5 (d * 6 + p1) 0) 6 (d * 6 + p1) (0 + 1)) a cS ro) := hD
        refine lv_aload_n hx hb d_S_keepsRules_107 rfl (lv_at hl 5 rfl) ?_
        refine va_get (D := D) (ci := 1) (v := .ref (ad 13)) (C := R_S) (T := F_S) (N := 15) hx hb htb u_S hown hK hP 7 rfl rfl 5 (by decide) (htb _ q89) (fun _ h9 => h9) rfl d_S_keepsRules_108 ?_
        refine lv_iload hx hb d_S_keepsRules_111 (lv_at hl 4 rfl) ?_
        refine nr_iald hx hb hK hP 12 10 rfl rfl (by omega) (by decide) d_S_keepsRules_113 ?_
        refine nr_top (y := nI 0) (by simp [up2, upr]) ?_
        have hv_12 := hs5 (d * 6 + p1)
        refine lv_aload_n hx hb d_S_keepsRules_114 rfl (lv_at hl 5 rfl) ?_
        refine va_get (D := D) (ci := 1) (v := .ref (ad 1)) (C := R_S) (T := F_S) (N := 15) hx hb htb u_S hown hK hP 7 rfl rfl 0 (by decide) (htb _ q83) (fun _ h9 => h9) rfl d_S_keepsRules_115 ?_
        refine va_getN (D := D) (ci := 0) (v := .int (nI (P 0 3))) (C := R_P) (T := F_P) (N := 12) hx hb htb u_P hown hK hP 0 rfl rfl 3 (by decide) (hN.at q36 rfl rfl) (fun _ h9 => h9) rfl d_S_keepsRules_118 ?_
        refine nr_icmp_gt (tgt := 158) hx hb (by omega) (by omega) d_S_keepsRules_121 (by decide) (fun c_121 => ?_) (fun c_121 => ?_)
        · refine nr_iconst hx hb 0 d_S_keepsRules_158 (by decide) ?_
          have hfin : krS S p1 d sf = up2 (up2 S 5 (d * 6 + p1) 0) 6 (d * 6 + p1) (0 + 1) := by unfold krS; rw [hh5, hh6, if_pos c_74, if_pos c_95]
          rw [← hfin] at hP hD
          exact W.zret (v := (nI 0)) hx hb hr rfl (fun t ht hW => ⟨⟨_, (), rfl, by rw [krB, hh5, hh6, hh2, if_pos c_74, if_pos c_95, decide_eq_false (fun h => absurd h.1 (by omega))]; rfl, by rw [ht]; exact hP, hD⟩, hS.F ht⟩) hS.2.2 d_S_keepsRules_159
        · refine lv_aload_n hx hb d_S_keepsRules_124 rfl (lv_at hl 5 rfl) ?_
          refine va_get (D := D) (ci := 1) (v := .ref (ad 14)) (C := R_S) (T := F_S) (N := 15) hx hb htb u_S hown hK hP 7 rfl rfl 6 (by decide) (htb _ q90) (fun _ h9 => h9) rfl d_S_keepsRules_125 ?_
          refine lv_iload hx hb d_S_keepsRules_128 (lv_at hl 4 rfl) ?_
          refine nr_iald hx hb hK hP 13 11 rfl rfl (by omega) (by decide) d_S_keepsRules_130 ?_
          refine nr_top (y := nI (0 + 1)) (by simp [up2, upr]) ?_
          have hv_13 := hs6 (d * 6 + p1)
          refine lv_aload_n hx hb d_S_keepsRules_131 rfl (lv_at hl 5 rfl) ?_
          refine va_get (D := D) (ci := 1) (v := .ref (ad 1)) (C := R_S) (T := F_S) (N := 15) hx hb htb u_S hown hK hP 7 rfl rfl 0 (by decide) (htb _ q83) (fun _ h9 => h9) rfl d_S_keepsRules_132 ?_
          refine va_getN (D := D) (ci := 0) (v := .int (nI (P 0 4))) (C := R_P) (T := F_P) (N := 12) hx hb htb u_P hown hK hP 0 rfl rfl 4 (by decide) (hN.at q38 rfl rfl) (fun _ h9 => h9) rfl d_S_keepsRules_135 ?_
          refine nr_icmp_gt (tgt := 158) hx hb (by omega) (by omega) d_S_keepsRules_138 (by decide) (fun c_138 => ?_) (fun c_138 => ?_)
          · refine nr_iconst hx hb 0 d_S_keepsRules_158 (by decide) ?_
            have hfin : krS S p1 d sf = up2 (up2 S 5 (d * 6 + p1) 0) 6 (d * 6 + p1) (0 + 1) := by unfold krS; rw [hh5, hh6, if_pos c_74, if_pos c_95]
            rw [← hfin] at hP hD
            exact W.zret (v := (nI 0)) hx hb hr rfl (fun t ht hW => ⟨⟨_, (), rfl, by rw [krB, hh5, hh6, hh2, if_pos c_74, if_pos c_95, decide_eq_false (fun h => absurd h.2.1 (by omega))]; rfl, by rw [ht]; exact hP, hD⟩, hS.F ht⟩) hS.2.2 d_S_keepsRules_159
          · refine lv_aload_n hx hb d_S_keepsRules_141 rfl (lv_at hl 5 rfl) ?_
            refine va_get (D := D) (ci := 1) (v := .ref (ad 1)) (C := R_S) (T := F_S) (N := 15) hx hb htb u_S hown hK hP 7 rfl rfl 0 (by decide) (htb _ q83) (fun _ h9 => h9) rfl d_S_keepsRules_142 ?_
            refine lv_iload hx hb d_S_keepsRules_145 (lv_at hl 0 rfl) ?_
            refine lv_iload_n hx hb d_S_keepsRules_147 rfl (lv_at hl 8 rfl) ?_
            refine nr_calli (va_runVN (As := [.int (nI 0), .int (nI sf)]) (rest := []) ⟨hx, hb, hml, hown, hts⟩ (c_P_breaksRest l D ad ca P a cS ro hP0 hro 0 sf (by omega) (by omega)) ⟨va_cnB 2 hts (gTB q_P_breaksRest) rfl rfl rfl (hN.nw q499 rfl) (htb _ q2) hd_P_breaksRest ⟨Nat.le_of_ble_eq_true rfl, Nat.le_of_ble_eq_true rfl⟩, (htb _ q188), (htb _ sel_P_breaksRest)⟩ ⟨ro_blind, va_recv (hK.sub (tys' := []) [] rfl) hP (ci := 0) (q0 := 0) rfl rfl, ro_pre hN (hP.sub (ws' := (wPS ad ca P a cS ro)) [0, 1, 2, 3, 4, 5, 6, 15] rfl) (hK.sub (tys' := (tPS ca cS)) [0, 1, 2, 3, 4, 5, 13] rfl)⟩ rfl rfl hl.1 rfl (lv_room (Nat.le_of_ble_eq_true rfl)) d_S_keepsRules_148 ⟨Nat.le_of_ble_eq_true rfl, Nat.le_of_ble_eq_true rfl⟩) (fun r_14 hr_14 => ?_)
            subst hr_14
            refine nr_if_ne (tgt := 158) hx hb b01_lt d_S_keepsRules_151 (by decide) (fun c_151 => ?_) (fun c_151 => ?_)
            · refine nr_iconst hx hb 0 d_S_keepsRules_158 (by decide) ?_
              have hfin : krS S p1 d sf = up2 (up2 S 5 (d * 6 + p1) 0) 6 (d * 6 + p1) (0 + 1) := by unfold krS; rw [hh5, hh6, if_pos c_74, if_pos c_95]
              rw [← hfin] at hP hD
              exact W.zret (v := (nI 0)) hx hb hr rfl (fun t ht hW => ⟨⟨_, (), rfl, by rw [krB, hh5, hh6, hh2, if_pos c_74, if_pos c_95, decide_eq_false (fun h => absurd h.2.2 (by rw [b01_nz c_151]; decide))]; rfl, by rw [ht]; exact hP, hD⟩, hS.F ht⟩) hS.2.2 d_S_keepsRules_159
            · refine nr_iconst hx hb 1 d_S_keepsRules_154 (by decide) ?_
              refine lv_goto (tgt := 159) hx hb d_S_keepsRules_155 (by decide) ?_
              have hfin : krS S p1 d sf = up2 (up2 S 5 (d * 6 + p1) 0) 6 (d * 6 + p1) (0 + 1) := by unfold krS; rw [hh5, hh6, if_pos c_74, if_pos c_95]
              rw [← hfin] at hP hD
              exact W.zret (v := (nI 1)) hx hb hr rfl (fun t ht hW => ⟨⟨_, (), rfl, by rw [krB, hh5, hh6, hh2, if_pos c_74, if_pos c_95, decide_eq_true (⟨c_121, c_138, b01_f c_151⟩)]; rfl, by rw [ht]; exact hP, hD⟩, hS.F ht⟩) hS.2.2 d_S_keepsRules_159
  · have hh5 : hadB S 5 p1 d = S 5 ((d - 1) * 6 + p1) := by unfold hadB; rw [if_neg (by omega)]
    have hh6 : hadB S 6 p1 d = S 6 ((d - 1) * 6 + p1) := by unfold hadB; rw [if_neg (by omega)]
    have hh2 : hadB S 2 p1 d = S 2 ((d - 1) * 6 + p1) := by unfold hadB; rw [if_neg (by omega)]
    refine lv_iload_n hx hb d_S_keepsRules_0 rfl (lv_at hl 1 rfl) ?_
    refine lv_iload_n hx hb d_S_keepsRules_1 rfl (lv_at hl 2 rfl) ?_
    refine nr_calli (va_runSN (As := [.int (nI p1), .int (nI d)]) (rest := []) ⟨hx, hb, hml, hown, hts⟩ (c_R_cell l D p1 d) ⟨va_cnB 2 hts (gTB q_R_cell) rfl rfl rfl (hN.nw q489 rfl) (htb _ q1) hd_R_cell ⟨Nat.le_of_ble_eq_true rfl, Nat.le_of_ble_eq_true rfl⟩, (htb _ q174), trivial⟩ ⟨ro_blind, ro_pre hN (hP.sub (ws' := []) [] rfl) (hK.sub (tys' := []) [] rfl)⟩ rfl rfl hl.1 rfl (lv_room (Nat.le_of_ble_eq_true rfl)) d_S_keepsRules_2 ⟨Nat.le_of_ble_eq_true rfl, Nat.le_of_ble_eq_true rfl⟩) (fun r_15 hr_15 => ?_)
    subst hr_15
    refine lv_istore (lv' := [(4, .int (nI (d * 6 + p1))), (0, .ref (ad 2)), (1, .int (nI p1)), (2, .int (nI d)), (3, .int (nI sf))]) hx hb d_S_keepsRules_5 hl (by decide) rfl (fun ls hl => ?_)
    refine lv_iload_n hx hb d_S_keepsRules_7 rfl (lv_at hl 2 rfl) ?_
    refine lv_iload_n hx hb d_S_keepsRules_8 rfl (lv_at hl 3 rfl) ?_
    refine nr_iconst hx hb 1 d_S_keepsRules_9 (by decide) ?_
    refine nr_isub hx hb (by omega) d_S_keepsRules_10 ?_
    refine nr_calli (va_runSN (As := [.int (nI p1), .int (nI (d - 1))]) (rest := []) ⟨hx, hb, hml, hown, hts⟩ (c_R_cell l D p1 (d - 1)) ⟨va_cnB 2 hts (gTB q_R_cell) rfl rfl rfl (hN.nw q489 rfl) (htb _ q1) hd_R_cell ⟨Nat.le_of_ble_eq_true rfl, Nat.le_of_ble_eq_true rfl⟩, (htb _ q174), trivial⟩ ⟨ro_blind, ro_pre hN (hP.sub (ws' := []) [] rfl) (hK.sub (tys' := []) [] rfl)⟩ rfl rfl hl.1 rfl (lv_room (Nat.le_of_ble_eq_true rfl)) d_S_keepsRules_11 ⟨Nat.le_of_ble_eq_true rfl, Nat.le_of_ble_eq_true rfl⟩) (fun r_16 hr_16 => ?_)
    subst hr_16
    refine lv_istore (lv' := [(5, .int (nI ((d - 1) * 6 + p1))), (4, .int (nI (d * 6 + p1))), (0, .ref (ad 2)), (1, .int (nI p1)), (2, .int (nI d)), (3, .int (nI sf))]) hx hb d_S_keepsRules_14 hl (by decide) rfl (fun ls hl => ?_)
    refine lv_iload_n hx hb d_S_keepsRules_16 rfl (lv_at hl 4 rfl) ?_
    refine nr_if_ne (tgt := 24) hx hb (by omega) d_S_keepsRules_17 (by decide) (fun c_17 => ?_) (fun c_17 => by exfalso; omega)
    refine lv_aload_n hx hb d_S_keepsRules_24 rfl (lv_at hl 2 rfl) ?_
    refine va_get (D := D) (ci := 1) (v := .ref (ad 13)) (C := R_S) (T := F_S) (N := 15) hx hb htb u_S hown hK hP 7 rfl rfl 5 (by decide) (htb _ q89) (fun _ h9 => h9) rfl d_S_keepsRules_25 ?_
    refine lv_iload hx hb d_S_keepsRules_28 (lv_at hl 0 rfl) ?_
    refine nr_iald hx hb hK hP 12 10 rfl rfl (by omega) (by decide) d_S_keepsRules_30 ?_
    have hv_17 := hs5 ((d - 1) * 6 + p1)
    refine lv_istore (lv' := [(6, .int (nI (S 5 ((d - 1) * 6 + p1)))), (5, .int (nI ((d - 1) * 6 + p1))), (4, .int (nI (d * 6 + p1))), (0, .ref (ad 2)), (1, .int (nI p1)), (2, .int (nI d)), (3, .int (nI sf))]) hx hb d_S_keepsRules_31 hl (by decide) rfl (fun ls hl => ?_)
    refine lv_iload_n hx hb d_S_keepsRules_33 rfl (lv_at hl 5 rfl) ?_
    refine nr_if_ne (tgt := 41) hx hb (by omega) d_S_keepsRules_34 (by decide) (fun c_34 => ?_) (fun c_34 => by exfalso; omega)
    refine lv_aload_n hx hb d_S_keepsRules_41 rfl (lv_at hl 3 rfl) ?_
    refine va_get (D := D) (ci := 1) (v := .ref (ad 14)) (C := R_S) (T := F_S) (N := 15) hx hb htb u_S hown hK hP 7 rfl rfl 6 (by decide) (htb _ q90) (fun _ h9 => h9) rfl d_S_keepsRules_42 ?_
    refine lv_iload hx hb d_S_keepsRules_45 (lv_at hl 1 rfl) ?_
    refine nr_iald hx hb hK hP 13 11 rfl rfl (by omega) (by decide) d_S_keepsRules_47 ?_
    have hv_18 := hs6 ((d - 1) * 6 + p1)
    refine lv_istore (lv' := [(7, .int (nI (S 6 ((d - 1) * 6 + p1)))), (6, .int (nI (S 5 ((d - 1) * 6 + p1)))), (5, .int (nI ((d - 1) * 6 + p1))), (4, .int (nI (d * 6 + p1))), (0, .ref (ad 2)), (1, .int (nI p1)), (2, .int (nI d)), (3, .int (nI sf))]) hx hb d_S_keepsRules_48 hl (by decide) rfl (fun ls hl => ?_)
    refine lv_iload_n hx hb d_S_keepsRules_50 rfl (lv_at hl 6 rfl) ?_
    refine nr_if_ne (tgt := 58) hx hb (by omega) d_S_keepsRules_51 (by decide) (fun c_51 => ?_) (fun c_51 => by exfalso; omega)
    refine lv_aload_n hx hb d_S_keepsRules_58 rfl (lv_at hl 4 rfl) ?_
    refine va_get (D := D) (ci := 1) (v := .ref (ad 10)) (C := R_S) (T := F_S) (N := 15) hx hb htb u_S hown hK hP 7 rfl rfl 2 (by decide) (htb _ q86) (fun _ h9 => h9) rfl d_S_keepsRules_59 ?_
    refine lv_iload hx hb d_S_keepsRules_62 (lv_at hl 2 rfl) ?_
    refine nr_iald hx hb hK hP 9 7 rfl rfl (by omega) (by decide) d_S_keepsRules_64 ?_
    have hv_19 := hs2 ((d - 1) * 6 + p1)
    refine lv_istore (lv' := [(8, .int (nI (S 2 ((d - 1) * 6 + p1)))), (7, .int (nI (S 6 ((d - 1) * 6 + p1)))), (6, .int (nI (S 5 ((d - 1) * 6 + p1)))), (5, .int (nI ((d - 1) * 6 + p1))), (4, .int (nI (d * 6 + p1))), (0, .ref (ad 2)), (1, .int (nI p1)), (2, .int (nI d)), (3, .int (nI sf))]) hx hb d_S_keepsRules_65 hl (by decide) rfl (fun ls hl => ?_)
    refine lv_aload_n hx hb d_S_keepsRules_67 rfl (lv_at hl 5 rfl) ?_
    refine va_get (D := D) (ci := 1) (v := .ref (ad 13)) (C := R_S) (T := F_S) (N := 15) hx hb htb u_S hown hK hP 7 rfl rfl 5 (by decide) (htb _ q89) (fun _ h9 => h9) rfl d_S_keepsRules_68 ?_
    refine lv_iload hx hb d_S_keepsRules_71 (lv_at hl 4 rfl) ?_
    refine lv_iload_n hx hb d_S_keepsRules_73 rfl (lv_at hl 8 rfl) ?_
    refine nr_if_ne (tgt := 82) hx hb (by omega) d_S_keepsRules_74 (by decide) (fun c_74 => ?_) (fun c_74 => ?_)
    · refine lv_iload hx hb d_S_keepsRules_82 (lv_at hl 2 rfl) ?_
      refine nr_iconst hx hb 1 d_S_keepsRules_84 (by decide) ?_
      refine nr_iadd hx hb d_S_keepsRules_85 ?_
      refine nr_iast hx hb hK hP hD hS 12 10 rfl rfl (by omega) (by decide) d_S_keepsRules_86 (fun H locs hP hD hS => ?_)
      have hP : va_P D cls (wSP ad ca P (up2 S 5 (d * 6 + p1) ((S 5 ((d - 1) * 6 + p1)) + 1)) a cS ro) H := hP
      have hD : va_D A (wSP ad ca P (up2 S 5 (d * 6 + p1) ((S 5 ((d - 1) * 6 + p1)) + 1)) a cS ro) := hD
      refine lv_aload_n hx hb d_S_keepsRules_87 rfl (lv_at hl 5 rfl) ?_
      refine va_get (D := D) (ci := 1) (v := .ref (ad 14)) (C := R_S) (T := F_S) (N := 15) hx hb htb u_S hown hK hP 7 rfl rfl 6 (by decide) (htb _ q90) (fun _ h9 => h9) rfl d_S_keepsRules_88 ?_
      refine lv_iload hx hb d_S_keepsRules_91 (lv_at hl 4 rfl) ?_
      refine lv_iload_n hx hb d_S_keepsRules_93 rfl (lv_at hl 8 rfl) ?_
      refine nr_iconst hx hb 3 d_S_keepsRules_94 (by decide) ?_
      refine nr_icmp_ne (tgt := 105) hx hb (by omega) (by omega) d_S_keepsRules_95 (by decide) (fun c_95 => ?_) (fun c_95 => ?_)
      · refine nr_iconst hx hb 0 d_S_keepsRules_105 (by decide) ?_
        refine nr_iast hx hb hK hP hD hS 13 11 rfl rfl (by omega) (by decide) d_S_keepsRules_106 (fun H locs hP hD hS => ?_)
        have hP : va_P D cls (wSP ad ca P (up2 (up2 S 5 (d * 6 + p1) ((S 5 ((d - 1) * 6 + p1)) + 1)) 6 (d * 6 + p1) 0) a cS ro) H := hP
        have hD : va_D A (wSP ad ca P (up2 (up2 S 5 (d * 6 + p1) ((S 5 ((d - 1) * 6 + p1)) + 1)) 6 (d * 6 + p1) 0) a cS ro) := hD
        refine lv_aload_n hx hb d_S_keepsRules_107 rfl (lv_at hl 5 rfl) ?_
        refine va_get (D := D) (ci := 1) (v := .ref (ad 13)) (C := R_S) (T := F_S) (N := 15) hx hb htb u_S hown hK hP 7 rfl rfl 5 (by decide) (htb _ q89) (fun _ h9 => h9) rfl d_S_keepsRules_108 ?_
        refine lv_iload hx hb d_S_keepsRules_111 (lv_at hl 4 rfl) ?_
        refine nr_iald hx hb hK hP 12 10 rfl rfl (by omega) (by decide) d_S_keepsRules_113 ?_
        refine nr_top (y := nI ((S 5 ((d - 1) * 6 + p1)) + 1)) (by simp [up2, upr]) ?_
        have hv_20 := hs5 (d * 6 + p1)
        refine lv_aload_n hx hb d_S_keepsRules_114 rfl (lv_at hl 5 rfl) ?_
        refine va_get (D := D) (ci := 1) (v := .ref (ad 1)) (C := R_S) (T := F_S) (N := 15) hx hb htb u_S hown hK hP 7 rfl rfl 0 (by decide) (htb _ q83) (fun _ h9 => h9) rfl d_S_keepsRules_115 ?_
        refine va_getN (D := D) (ci := 0) (v := .int (nI (P 0 3))) (C := R_P) (T := F_P) (N := 12) hx hb htb u_P hown hK hP 0 rfl rfl 3 (by decide) (hN.at q36 rfl rfl) (fun _ h9 => h9) rfl d_S_keepsRules_118 ?_
        refine nr_icmp_gt (tgt := 158) hx hb (by omega) (by omega) d_S_keepsRules_121 (by decide) (fun c_121 => ?_) (fun c_121 => ?_)
        · refine nr_iconst hx hb 0 d_S_keepsRules_158 (by decide) ?_
          have hfin : krS S p1 d sf = up2 (up2 S 5 (d * 6 + p1) ((S 5 ((d - 1) * 6 + p1)) + 1)) 6 (d * 6 + p1) 0 := by unfold krS; rw [hh5, hh6, if_neg c_74, if_neg c_95]
          rw [← hfin] at hP hD
          exact W.zret (v := (nI 0)) hx hb hr rfl (fun t ht hW => ⟨⟨_, (), rfl, by rw [krB, hh5, hh6, hh2, if_neg c_74, if_neg c_95, decide_eq_false (fun h => absurd h.1 (by omega))]; rfl, by rw [ht]; exact hP, hD⟩, hS.F ht⟩) hS.2.2 d_S_keepsRules_159
        · refine lv_aload_n hx hb d_S_keepsRules_124 rfl (lv_at hl 5 rfl) ?_
          refine va_get (D := D) (ci := 1) (v := .ref (ad 14)) (C := R_S) (T := F_S) (N := 15) hx hb htb u_S hown hK hP 7 rfl rfl 6 (by decide) (htb _ q90) (fun _ h9 => h9) rfl d_S_keepsRules_125 ?_
          refine lv_iload hx hb d_S_keepsRules_128 (lv_at hl 4 rfl) ?_
          refine nr_iald hx hb hK hP 13 11 rfl rfl (by omega) (by decide) d_S_keepsRules_130 ?_
          refine nr_top (y := nI 0) (by simp [up2, upr]) ?_
          have hv_21 := hs6 (d * 6 + p1)
          refine lv_aload_n hx hb d_S_keepsRules_131 rfl (lv_at hl 5 rfl) ?_
          refine va_get (D := D) (ci := 1) (v := .ref (ad 1)) (C := R_S) (T := F_S) (N := 15) hx hb htb u_S hown hK hP 7 rfl rfl 0 (by decide) (htb _ q83) (fun _ h9 => h9) rfl d_S_keepsRules_132 ?_
          refine va_getN (D := D) (ci := 0) (v := .int (nI (P 0 4))) (C := R_P) (T := F_P) (N := 12) hx hb htb u_P hown hK hP 0 rfl rfl 4 (by decide) (hN.at q38 rfl rfl) (fun _ h9 => h9) rfl d_S_keepsRules_135 ?_
          refine nr_icmp_gt (tgt := 158) hx hb (by omega) (by omega) d_S_keepsRules_138 (by decide) (fun c_138 => ?_) (fun c_138 => ?_)
          · refine nr_iconst hx hb 0 d_S_keepsRules_158 (by decide) ?_
            have hfin : krS S p1 d sf = up2 (up2 S 5 (d * 6 + p1) ((S 5 ((d - 1) * 6 + p1)) + 1)) 6 (d * 6 + p1) 0 := by unfold krS; rw [hh5, hh6, if_neg c_74, if_neg c_95]
            rw [← hfin] at hP hD
            exact W.zret (v := (nI 0)) hx hb hr rfl (fun t ht hW => ⟨⟨_, (), rfl, by rw [krB, hh5, hh6, hh2, if_neg c_74, if_neg c_95, decide_eq_false (fun h => absurd h.2.1 (by omega))]; rfl, by rw [ht]; exact hP, hD⟩, hS.F ht⟩) hS.2.2 d_S_keepsRules_159
          · refine lv_aload_n hx hb d_S_keepsRules_141 rfl (lv_at hl 5 rfl) ?_
            refine va_get (D := D) (ci := 1) (v := .ref (ad 1)) (C := R_S) (T := F_S) (N := 15) hx hb htb u_S hown hK hP 7 rfl rfl 0 (by decide) (htb _ q83) (fun _ h9 => h9) rfl d_S_keepsRules_142 ?_
            refine lv_iload hx hb d_S_keepsRules_145 (lv_at hl 0 rfl) ?_
            refine lv_iload_n hx hb d_S_keepsRules_147 rfl (lv_at hl 8 rfl) ?_
            refine nr_calli (va_runVN (As := [.int (nI (S 2 ((d - 1) * 6 + p1))), .int (nI sf)]) (rest := []) ⟨hx, hb, hml, hown, hts⟩ (c_P_breaksRest l D ad ca P a cS ro hP0 hro (S 2 ((d - 1) * 6 + p1)) sf (by omega) (by omega)) ⟨va_cnB 2 hts (gTB q_P_breaksRest) rfl rfl rfl (hN.nw q499 rfl) (htb _ q2) hd_P_breaksRest ⟨Nat.le_of_ble_eq_true rfl, Nat.le_of_ble_eq_true rfl⟩, (htb _ q188), (htb _ sel_P_breaksRest)⟩ ⟨ro_blind, va_recv (hK.sub (tys' := []) [] rfl) hP (ci := 0) (q0 := 0) rfl rfl, ro_pre hN (hP.sub (ws' := (wPS ad ca P a cS ro)) [0, 1, 2, 3, 4, 5, 6, 15] rfl) (hK.sub (tys' := (tPS ca cS)) [0, 1, 2, 3, 4, 5, 13] rfl)⟩ rfl rfl hl.1 rfl (lv_room (Nat.le_of_ble_eq_true rfl)) d_S_keepsRules_148 ⟨Nat.le_of_ble_eq_true rfl, Nat.le_of_ble_eq_true rfl⟩) (fun r_22 hr_22 => ?_)
            subst hr_22
            refine nr_if_ne (tgt := 158) hx hb b01_lt d_S_keepsRules_151 (by decide) (fun c_151 => ?_) (fun c_151 => ?_)
            · refine nr_iconst hx hb 0 d_S_keepsRules_158 (by decide) ?_
              have hfin : krS S p1 d sf = up2 (up2 S 5 (d * 6 + p1) ((S 5 ((d - 1) * 6 + p1)) + 1)) 6 (d * 6 + p1) 0 := by unfold krS; rw [hh5, hh6, if_neg c_74, if_neg c_95]
              rw [← hfin] at hP hD
              exact W.zret (v := (nI 0)) hx hb hr rfl (fun t ht hW => ⟨⟨_, (), rfl, by rw [krB, hh5, hh6, hh2, if_neg c_74, if_neg c_95, decide_eq_false (fun h => absurd h.2.2 (by rw [b01_nz c_151]; decide))]; rfl, by rw [ht]; exact hP, hD⟩, hS.F ht⟩) hS.2.2 d_S_keepsRules_159
            · refine nr_iconst hx hb 1 d_S_keepsRules_154 (by decide) ?_
              refine lv_goto (tgt := 159) hx hb d_S_keepsRules_155 (by decide) ?_
              have hfin : krS S p1 d sf = up2 (up2 S 5 (d * 6 + p1) ((S 5 ((d - 1) * 6 + p1)) + 1)) 6 (d * 6 + p1) 0 := by unfold krS; rw [hh5, hh6, if_neg c_74, if_neg c_95]
              rw [← hfin] at hP hD
              exact W.zret (v := (nI 1)) hx hb hr rfl (fun t ht hW => ⟨⟨_, (), rfl, by rw [krB, hh5, hh6, hh2, if_neg c_74, if_neg c_95, decide_eq_true (⟨c_121, c_138, b01_f c_151⟩)]; rfl, by rw [ht]; exact hP, hD⟩, hS.F ht⟩) hS.2.2 d_S_keepsRules_159
      · refine lv_iload hx hb d_S_keepsRules_98 (lv_at hl 1 rfl) ?_
        refine nr_iconst hx hb 1 d_S_keepsRules_100 (by decide) ?_
        refine nr_iadd hx hb d_S_keepsRules_101 ?_
        refine lv_goto (tgt := 106) hx hb d_S_keepsRules_102 (by decide) ?_
        refine nr_iast hx hb hK hP hD hS 13 11 rfl rfl (by omega) (by decide) d_S_keepsRules_106 (fun H locs hP hD hS => ?_)
        have hP : va_P D cls (wSP ad ca P (up2 (up2 S 5 (d * 6 + p1) ((S 5 ((d - 1) * 6 + p1)) + 1)) 6 (d * 6 + p1) ((S 6 ((d - 1) * 6 + p1)) + 1)) a cS ro) H := hP
        have hD : va_D A (wSP ad ca P (up2 (up2 S 5 (d * 6 + p1) ((S 5 ((d - 1) * 6 + p1)) + 1)) 6 (d * 6 + p1) ((S 6 ((d - 1) * 6 + p1)) + 1)) a cS ro) := hD
        refine lv_aload_n hx hb d_S_keepsRules_107 rfl (lv_at hl 5 rfl) ?_
        refine va_get (D := D) (ci := 1) (v := .ref (ad 13)) (C := R_S) (T := F_S) (N := 15) hx hb htb u_S hown hK hP 7 rfl rfl 5 (by decide) (htb _ q89) (fun _ h9 => h9) rfl d_S_keepsRules_108 ?_
        refine lv_iload hx hb d_S_keepsRules_111 (lv_at hl 4 rfl) ?_
        refine nr_iald hx hb hK hP 12 10 rfl rfl (by omega) (by decide) d_S_keepsRules_113 ?_
        refine nr_top (y := nI ((S 5 ((d - 1) * 6 + p1)) + 1)) (by simp [up2, upr]) ?_
        have hv_23 := hs5 (d * 6 + p1)
        refine lv_aload_n hx hb d_S_keepsRules_114 rfl (lv_at hl 5 rfl) ?_
        refine va_get (D := D) (ci := 1) (v := .ref (ad 1)) (C := R_S) (T := F_S) (N := 15) hx hb htb u_S hown hK hP 7 rfl rfl 0 (by decide) (htb _ q83) (fun _ h9 => h9) rfl d_S_keepsRules_115 ?_
        refine va_getN (D := D) (ci := 0) (v := .int (nI (P 0 3))) (C := R_P) (T := F_P) (N := 12) hx hb htb u_P hown hK hP 0 rfl rfl 3 (by decide) (hN.at q36 rfl rfl) (fun _ h9 => h9) rfl d_S_keepsRules_118 ?_
        refine nr_icmp_gt (tgt := 158) hx hb (by omega) (by omega) d_S_keepsRules_121 (by decide) (fun c_121 => ?_) (fun c_121 => ?_)
        · refine nr_iconst hx hb 0 d_S_keepsRules_158 (by decide) ?_
          have hfin : krS S p1 d sf = up2 (up2 S 5 (d * 6 + p1) ((S 5 ((d - 1) * 6 + p1)) + 1)) 6 (d * 6 + p1) ((S 6 ((d - 1) * 6 + p1)) + 1) := by unfold krS; rw [hh5, hh6, if_neg c_74, if_pos c_95]
          rw [← hfin] at hP hD
          exact W.zret (v := (nI 0)) hx hb hr rfl (fun t ht hW => ⟨⟨_, (), rfl, by rw [krB, hh5, hh6, hh2, if_neg c_74, if_pos c_95, decide_eq_false (fun h => absurd h.1 (by omega))]; rfl, by rw [ht]; exact hP, hD⟩, hS.F ht⟩) hS.2.2 d_S_keepsRules_159
        · refine lv_aload_n hx hb d_S_keepsRules_124 rfl (lv_at hl 5 rfl) ?_
          refine va_get (D := D) (ci := 1) (v := .ref (ad 14)) (C := R_S) (T := F_S) (N := 15) hx hb htb u_S hown hK hP 7 rfl rfl 6 (by decide) (htb _ q90) (fun _ h9 => h9) rfl d_S_keepsRules_125 ?_
          refine lv_iload hx hb d_S_keepsRules_128 (lv_at hl 4 rfl) ?_
          refine nr_iald hx hb hK hP 13 11 rfl rfl (by omega) (by decide) d_S_keepsRules_130 ?_
          refine nr_top (y := nI ((S 6 ((d - 1) * 6 + p1)) + 1)) (by simp [up2, upr]) ?_
          have hv_24 := hs6 (d * 6 + p1)
          refine lv_aload_n hx hb d_S_keepsRules_131 rfl (lv_at hl 5 rfl) ?_
          refine va_get (D := D) (ci := 1) (v := .ref (ad 1)) (C := R_S) (T := F_S) (N := 15) hx hb htb u_S hown hK hP 7 rfl rfl 0 (by decide) (htb _ q83) (fun _ h9 => h9) rfl d_S_keepsRules_132 ?_
          refine va_getN (D := D) (ci := 0) (v := .int (nI (P 0 4))) (C := R_P) (T := F_P) (N := 12) hx hb htb u_P hown hK hP 0 rfl rfl 4 (by decide) (hN.at q38 rfl rfl) (fun _ h9 => h9) rfl d_S_keepsRules_135 ?_
          refine nr_icmp_gt (tgt := 158) hx hb (by omega) (by omega) d_S_keepsRules_138 (by decide) (fun c_138 => ?_) (fun c_138 => ?_)
          · refine nr_iconst hx hb 0 d_S_keepsRules_158 (by decide) ?_
            have hfin : krS S p1 d sf = up2 (up2 S 5 (d * 6 + p1) ((S 5 ((d - 1) * 6 + p1)) + 1)) 6 (d * 6 + p1) ((S 6 ((d - 1) * 6 + p1)) + 1) := by unfold krS; rw [hh5, hh6, if_neg c_74, if_pos c_95]
            rw [← hfin] at hP hD
            exact W.zret (v := (nI 0)) hx hb hr rfl (fun t ht hW => ⟨⟨_, (), rfl, by rw [krB, hh5, hh6, hh2, if_neg c_74, if_pos c_95, decide_eq_false (fun h => absurd h.2.1 (by omega))]; rfl, by rw [ht]; exact hP, hD⟩, hS.F ht⟩) hS.2.2 d_S_keepsRules_159
          · refine lv_aload_n hx hb d_S_keepsRules_141 rfl (lv_at hl 5 rfl) ?_
            refine va_get (D := D) (ci := 1) (v := .ref (ad 1)) (C := R_S) (T := F_S) (N := 15) hx hb htb u_S hown hK hP 7 rfl rfl 0 (by decide) (htb _ q83) (fun _ h9 => h9) rfl d_S_keepsRules_142 ?_
            refine lv_iload hx hb d_S_keepsRules_145 (lv_at hl 0 rfl) ?_
            refine lv_iload_n hx hb d_S_keepsRules_147 rfl (lv_at hl 8 rfl) ?_
            refine nr_calli (va_runVN (As := [.int (nI (S 2 ((d - 1) * 6 + p1))), .int (nI sf)]) (rest := []) ⟨hx, hb, hml, hown, hts⟩ (c_P_breaksRest l D ad ca P a cS ro hP0 hro (S 2 ((d - 1) * 6 + p1)) sf (by omega) (by omega)) ⟨va_cnB 2 hts (gTB q_P_breaksRest) rfl rfl rfl (hN.nw q499 rfl) (htb _ q2) hd_P_breaksRest ⟨Nat.le_of_ble_eq_true rfl, Nat.le_of_ble_eq_true rfl⟩, (htb _ q188), (htb _ sel_P_breaksRest)⟩ ⟨ro_blind, va_recv (hK.sub (tys' := []) [] rfl) hP (ci := 0) (q0 := 0) rfl rfl, ro_pre hN (hP.sub (ws' := (wPS ad ca P a cS ro)) [0, 1, 2, 3, 4, 5, 6, 15] rfl) (hK.sub (tys' := (tPS ca cS)) [0, 1, 2, 3, 4, 5, 13] rfl)⟩ rfl rfl hl.1 rfl (lv_room (Nat.le_of_ble_eq_true rfl)) d_S_keepsRules_148 ⟨Nat.le_of_ble_eq_true rfl, Nat.le_of_ble_eq_true rfl⟩) (fun r_25 hr_25 => ?_)
            subst hr_25
            refine nr_if_ne (tgt := 158) hx hb b01_lt d_S_keepsRules_151 (by decide) (fun c_151 => ?_) (fun c_151 => ?_)
            · refine nr_iconst hx hb 0 d_S_keepsRules_158 (by decide) ?_
              have hfin : krS S p1 d sf = up2 (up2 S 5 (d * 6 + p1) ((S 5 ((d - 1) * 6 + p1)) + 1)) 6 (d * 6 + p1) ((S 6 ((d - 1) * 6 + p1)) + 1) := by unfold krS; rw [hh5, hh6, if_neg c_74, if_pos c_95]
              rw [← hfin] at hP hD
              exact W.zret (v := (nI 0)) hx hb hr rfl (fun t ht hW => ⟨⟨_, (), rfl, by rw [krB, hh5, hh6, hh2, if_neg c_74, if_pos c_95, decide_eq_false (fun h => absurd h.2.2 (by rw [b01_nz c_151]; decide))]; rfl, by rw [ht]; exact hP, hD⟩, hS.F ht⟩) hS.2.2 d_S_keepsRules_159
            · refine nr_iconst hx hb 1 d_S_keepsRules_154 (by decide) ?_
              refine lv_goto (tgt := 159) hx hb d_S_keepsRules_155 (by decide) ?_
              have hfin : krS S p1 d sf = up2 (up2 S 5 (d * 6 + p1) ((S 5 ((d - 1) * 6 + p1)) + 1)) 6 (d * 6 + p1) ((S 6 ((d - 1) * 6 + p1)) + 1) := by unfold krS; rw [hh5, hh6, if_neg c_74, if_pos c_95]
              rw [← hfin] at hP hD
              exact W.zret (v := (nI 1)) hx hb hr rfl (fun t ht hW => ⟨⟨_, (), rfl, by rw [krB, hh5, hh6, hh2, if_neg c_74, if_pos c_95, decide_eq_true (⟨c_121, c_138, b01_f c_151⟩)]; rfl, by rw [ht]; exact hP, hD⟩, hS.F ht⟩) hS.2.2 d_S_keepsRules_159
    · refine lv_iload hx hb d_S_keepsRules_77 (lv_at hl 2 rfl) ?_
      refine lv_goto (tgt := 86) hx hb d_S_keepsRules_79 (by decide) ?_
      refine nr_iast hx hb hK hP hD hS 12 10 rfl rfl (by omega) (by decide) d_S_keepsRules_86 (fun H locs hP hD hS => ?_)
      have hP : va_P D cls (wSP ad ca P (up2 S 5 (d * 6 + p1) (S 5 ((d - 1) * 6 + p1))) a cS ro) H := hP
      have hD : va_D A (wSP ad ca P (up2 S 5 (d * 6 + p1) (S 5 ((d - 1) * 6 + p1))) a cS ro) := hD
      refine lv_aload_n hx hb d_S_keepsRules_87 rfl (lv_at hl 5 rfl) ?_
      refine va_get (D := D) (ci := 1) (v := .ref (ad 14)) (C := R_S) (T := F_S) (N := 15) hx hb htb u_S hown hK hP 7 rfl rfl 6 (by decide) (htb _ q90) (fun _ h9 => h9) rfl d_S_keepsRules_88 ?_
      refine lv_iload hx hb d_S_keepsRules_91 (lv_at hl 4 rfl) ?_
      refine lv_iload_n hx hb d_S_keepsRules_93 rfl (lv_at hl 8 rfl) ?_
      refine nr_iconst hx hb 3 d_S_keepsRules_94 (by decide) ?_
      refine nr_icmp_ne (tgt := 105) hx hb (by omega) (by omega) d_S_keepsRules_95 (by decide) (fun c_95 => ?_) (fun c_95 => ?_)
      · refine nr_iconst hx hb 0 d_S_keepsRules_105 (by decide) ?_
        refine nr_iast hx hb hK hP hD hS 13 11 rfl rfl (by omega) (by decide) d_S_keepsRules_106 (fun H locs hP hD hS => ?_)
        have hP : va_P D cls (wSP ad ca P (up2 (up2 S 5 (d * 6 + p1) (S 5 ((d - 1) * 6 + p1))) 6 (d * 6 + p1) 0) a cS ro) H := hP
        have hD : va_D A (wSP ad ca P (up2 (up2 S 5 (d * 6 + p1) (S 5 ((d - 1) * 6 + p1))) 6 (d * 6 + p1) 0) a cS ro) := hD
        refine lv_aload_n hx hb d_S_keepsRules_107 rfl (lv_at hl 5 rfl) ?_
        refine va_get (D := D) (ci := 1) (v := .ref (ad 13)) (C := R_S) (T := F_S) (N := 15) hx hb htb u_S hown hK hP 7 rfl rfl 5 (by decide) (htb _ q89) (fun _ h9 => h9) rfl d_S_keepsRules_108 ?_
        refine lv_iload hx hb d_S_keepsRules_111 (lv_at hl 4 rfl) ?_
        refine nr_iald hx hb hK hP 12 10 rfl rfl (by omega) (by decide) d_S_keepsRules_113 ?_
        refine nr_top (y := nI (S 5 ((d - 1) * 6 + p1))) (by simp [up2, upr]) ?_
        have hv_26 := hs5 (d * 6 + p1)
        refine lv_aload_n hx hb d_S_keepsRules_114 rfl (lv_at hl 5 rfl) ?_
        refine va_get (D := D) (ci := 1) (v := .ref (ad 1)) (C := R_S) (T := F_S) (N := 15) hx hb htb u_S hown hK hP 7 rfl rfl 0 (by decide) (htb _ q83) (fun _ h9 => h9) rfl d_S_keepsRules_115 ?_
        refine va_getN (D := D) (ci := 0) (v := .int (nI (P 0 3))) (C := R_P) (T := F_P) (N := 12) hx hb htb u_P hown hK hP 0 rfl rfl 3 (by decide) (hN.at q36 rfl rfl) (fun _ h9 => h9) rfl d_S_keepsRules_118 ?_
        refine nr_icmp_gt (tgt := 158) hx hb (by omega) (by omega) d_S_keepsRules_121 (by decide) (fun c_121 => ?_) (fun c_121 => ?_)
        · refine nr_iconst hx hb 0 d_S_keepsRules_158 (by decide) ?_
          have hfin : krS S p1 d sf = up2 (up2 S 5 (d * 6 + p1) (S 5 ((d - 1) * 6 + p1))) 6 (d * 6 + p1) 0 := by unfold krS; rw [hh5, hh6, if_pos c_74, if_neg c_95]
          rw [← hfin] at hP hD
          exact W.zret (v := (nI 0)) hx hb hr rfl (fun t ht hW => ⟨⟨_, (), rfl, by rw [krB, hh5, hh6, hh2, if_pos c_74, if_neg c_95, decide_eq_false (fun h => absurd h.1 (by omega))]; rfl, by rw [ht]; exact hP, hD⟩, hS.F ht⟩) hS.2.2 d_S_keepsRules_159
        · refine lv_aload_n hx hb d_S_keepsRules_124 rfl (lv_at hl 5 rfl) ?_
          refine va_get (D := D) (ci := 1) (v := .ref (ad 14)) (C := R_S) (T := F_S) (N := 15) hx hb htb u_S hown hK hP 7 rfl rfl 6 (by decide) (htb _ q90) (fun _ h9 => h9) rfl d_S_keepsRules_125 ?_
          refine lv_iload hx hb d_S_keepsRules_128 (lv_at hl 4 rfl) ?_
          refine nr_iald hx hb hK hP 13 11 rfl rfl (by omega) (by decide) d_S_keepsRules_130 ?_
          refine nr_top (y := nI 0) (by simp [up2, upr]) ?_
          have hv_27 := hs6 (d * 6 + p1)
          refine lv_aload_n hx hb d_S_keepsRules_131 rfl (lv_at hl 5 rfl) ?_
          refine va_get (D := D) (ci := 1) (v := .ref (ad 1)) (C := R_S) (T := F_S) (N := 15) hx hb htb u_S hown hK hP 7 rfl rfl 0 (by decide) (htb _ q83) (fun _ h9 => h9) rfl d_S_keepsRules_132 ?_
          refine va_getN (D := D) (ci := 0) (v := .int (nI (P 0 4))) (C := R_P) (T := F_P) (N := 12) hx hb htb u_P hown hK hP 0 rfl rfl 4 (by decide) (hN.at q38 rfl rfl) (fun _ h9 => h9) rfl d_S_keepsRules_135 ?_
          refine nr_icmp_gt (tgt := 158) hx hb (by omega) (by omega) d_S_keepsRules_138 (by decide) (fun c_138 => ?_) (fun c_138 => ?_)
          · refine nr_iconst hx hb 0 d_S_keepsRules_158 (by decide) ?_
            have hfin : krS S p1 d sf = up2 (up2 S 5 (d * 6 + p1) (S 5 ((d - 1) * 6 + p1))) 6 (d * 6 + p1) 0 := by unfold krS; rw [hh5, hh6, if_pos c_74, if_neg c_95]
            rw [← hfin] at hP hD
            exact W.zret (v := (nI 0)) hx hb hr rfl (fun t ht hW => ⟨⟨_, (), rfl, by rw [krB, hh5, hh6, hh2, if_pos c_74, if_neg c_95, decide_eq_false (fun h => absurd h.2.1 (by omega))]; rfl, by rw [ht]; exact hP, hD⟩, hS.F ht⟩) hS.2.2 d_S_keepsRules_159
          · refine lv_aload_n hx hb d_S_keepsRules_141 rfl (lv_at hl 5 rfl) ?_
            refine va_get (D := D) (ci := 1) (v := .ref (ad 1)) (C := R_S) (T := F_S) (N := 15) hx hb htb u_S hown hK hP 7 rfl rfl 0 (by decide) (htb _ q83) (fun _ h9 => h9) rfl d_S_keepsRules_142 ?_
            refine lv_iload hx hb d_S_keepsRules_145 (lv_at hl 0 rfl) ?_
            refine lv_iload_n hx hb d_S_keepsRules_147 rfl (lv_at hl 8 rfl) ?_
            refine nr_calli (va_runVN (As := [.int (nI (S 2 ((d - 1) * 6 + p1))), .int (nI sf)]) (rest := []) ⟨hx, hb, hml, hown, hts⟩ (c_P_breaksRest l D ad ca P a cS ro hP0 hro (S 2 ((d - 1) * 6 + p1)) sf (by omega) (by omega)) ⟨va_cnB 2 hts (gTB q_P_breaksRest) rfl rfl rfl (hN.nw q499 rfl) (htb _ q2) hd_P_breaksRest ⟨Nat.le_of_ble_eq_true rfl, Nat.le_of_ble_eq_true rfl⟩, (htb _ q188), (htb _ sel_P_breaksRest)⟩ ⟨ro_blind, va_recv (hK.sub (tys' := []) [] rfl) hP (ci := 0) (q0 := 0) rfl rfl, ro_pre hN (hP.sub (ws' := (wPS ad ca P a cS ro)) [0, 1, 2, 3, 4, 5, 6, 15] rfl) (hK.sub (tys' := (tPS ca cS)) [0, 1, 2, 3, 4, 5, 13] rfl)⟩ rfl rfl hl.1 rfl (lv_room (Nat.le_of_ble_eq_true rfl)) d_S_keepsRules_148 ⟨Nat.le_of_ble_eq_true rfl, Nat.le_of_ble_eq_true rfl⟩) (fun r_28 hr_28 => ?_)
            subst hr_28
            refine nr_if_ne (tgt := 158) hx hb b01_lt d_S_keepsRules_151 (by decide) (fun c_151 => ?_) (fun c_151 => ?_)
            · refine nr_iconst hx hb 0 d_S_keepsRules_158 (by decide) ?_
              have hfin : krS S p1 d sf = up2 (up2 S 5 (d * 6 + p1) (S 5 ((d - 1) * 6 + p1))) 6 (d * 6 + p1) 0 := by unfold krS; rw [hh5, hh6, if_pos c_74, if_neg c_95]
              rw [← hfin] at hP hD
              exact W.zret (v := (nI 0)) hx hb hr rfl (fun t ht hW => ⟨⟨_, (), rfl, by rw [krB, hh5, hh6, hh2, if_pos c_74, if_neg c_95, decide_eq_false (fun h => absurd h.2.2 (by rw [b01_nz c_151]; decide))]; rfl, by rw [ht]; exact hP, hD⟩, hS.F ht⟩) hS.2.2 d_S_keepsRules_159
            · refine nr_iconst hx hb 1 d_S_keepsRules_154 (by decide) ?_
              refine lv_goto (tgt := 159) hx hb d_S_keepsRules_155 (by decide) ?_
              have hfin : krS S p1 d sf = up2 (up2 S 5 (d * 6 + p1) (S 5 ((d - 1) * 6 + p1))) 6 (d * 6 + p1) 0 := by unfold krS; rw [hh5, hh6, if_pos c_74, if_neg c_95]
              rw [← hfin] at hP hD
              exact W.zret (v := (nI 1)) hx hb hr rfl (fun t ht hW => ⟨⟨_, (), rfl, by rw [krB, hh5, hh6, hh2, if_pos c_74, if_neg c_95, decide_eq_true (⟨c_121, c_138, b01_f c_151⟩)]; rfl, by rw [ht]; exact hP, hD⟩, hS.F ht⟩) hS.2.2 d_S_keepsRules_159
      · refine lv_iload hx hb d_S_keepsRules_98 (lv_at hl 1 rfl) ?_
        refine nr_iconst hx hb 1 d_S_keepsRules_100 (by decide) ?_
        refine nr_iadd hx hb d_S_keepsRules_101 ?_
        refine lv_goto (tgt := 106) hx hb d_S_keepsRules_102 (by decide) ?_
        refine nr_iast hx hb hK hP hD hS 13 11 rfl rfl (by omega) (by decide) d_S_keepsRules_106 (fun H locs hP hD hS => ?_)
        have hP : va_P D cls (wSP ad ca P (up2 (up2 S 5 (d * 6 + p1) (S 5 ((d - 1) * 6 + p1))) 6 (d * 6 + p1) ((S 6 ((d - 1) * 6 + p1)) + 1)) a cS ro) H := hP
        have hD : va_D A (wSP ad ca P (up2 (up2 S 5 (d * 6 + p1) (S 5 ((d - 1) * 6 + p1))) 6 (d * 6 + p1) ((S 6 ((d - 1) * 6 + p1)) + 1)) a cS ro) := hD
        refine lv_aload_n hx hb d_S_keepsRules_107 rfl (lv_at hl 5 rfl) ?_
        refine va_get (D := D) (ci := 1) (v := .ref (ad 13)) (C := R_S) (T := F_S) (N := 15) hx hb htb u_S hown hK hP 7 rfl rfl 5 (by decide) (htb _ q89) (fun _ h9 => h9) rfl d_S_keepsRules_108 ?_
        refine lv_iload hx hb d_S_keepsRules_111 (lv_at hl 4 rfl) ?_
        refine nr_iald hx hb hK hP 12 10 rfl rfl (by omega) (by decide) d_S_keepsRules_113 ?_
        refine nr_top (y := nI (S 5 ((d - 1) * 6 + p1))) (by simp [up2, upr]) ?_
        have hv_29 := hs5 (d * 6 + p1)
        refine lv_aload_n hx hb d_S_keepsRules_114 rfl (lv_at hl 5 rfl) ?_
        refine va_get (D := D) (ci := 1) (v := .ref (ad 1)) (C := R_S) (T := F_S) (N := 15) hx hb htb u_S hown hK hP 7 rfl rfl 0 (by decide) (htb _ q83) (fun _ h9 => h9) rfl d_S_keepsRules_115 ?_
        refine va_getN (D := D) (ci := 0) (v := .int (nI (P 0 3))) (C := R_P) (T := F_P) (N := 12) hx hb htb u_P hown hK hP 0 rfl rfl 3 (by decide) (hN.at q36 rfl rfl) (fun _ h9 => h9) rfl d_S_keepsRules_118 ?_
        refine nr_icmp_gt (tgt := 158) hx hb (by omega) (by omega) d_S_keepsRules_121 (by decide) (fun c_121 => ?_) (fun c_121 => ?_)
        · refine nr_iconst hx hb 0 d_S_keepsRules_158 (by decide) ?_
          have hfin : krS S p1 d sf = up2 (up2 S 5 (d * 6 + p1) (S 5 ((d - 1) * 6 + p1))) 6 (d * 6 + p1) ((S 6 ((d - 1) * 6 + p1)) + 1) := by unfold krS; rw [hh5, hh6, if_pos c_74, if_pos c_95]
          rw [← hfin] at hP hD
          exact W.zret (v := (nI 0)) hx hb hr rfl (fun t ht hW => ⟨⟨_, (), rfl, by rw [krB, hh5, hh6, hh2, if_pos c_74, if_pos c_95, decide_eq_false (fun h => absurd h.1 (by omega))]; rfl, by rw [ht]; exact hP, hD⟩, hS.F ht⟩) hS.2.2 d_S_keepsRules_159
        · refine lv_aload_n hx hb d_S_keepsRules_124 rfl (lv_at hl 5 rfl) ?_
          refine va_get (D := D) (ci := 1) (v := .ref (ad 14)) (C := R_S) (T := F_S) (N := 15) hx hb htb u_S hown hK hP 7 rfl rfl 6 (by decide) (htb _ q90) (fun _ h9 => h9) rfl d_S_keepsRules_125 ?_
          refine lv_iload hx hb d_S_keepsRules_128 (lv_at hl 4 rfl) ?_
          refine nr_iald hx hb hK hP 13 11 rfl rfl (by omega) (by decide) d_S_keepsRules_130 ?_
          refine nr_top (y := nI ((S 6 ((d - 1) * 6 + p1)) + 1)) (by simp [up2, upr]) ?_
          have hv_30 := hs6 (d * 6 + p1)
          refine lv_aload_n hx hb d_S_keepsRules_131 rfl (lv_at hl 5 rfl) ?_
          refine va_get (D := D) (ci := 1) (v := .ref (ad 1)) (C := R_S) (T := F_S) (N := 15) hx hb htb u_S hown hK hP 7 rfl rfl 0 (by decide) (htb _ q83) (fun _ h9 => h9) rfl d_S_keepsRules_132 ?_
          refine va_getN (D := D) (ci := 0) (v := .int (nI (P 0 4))) (C := R_P) (T := F_P) (N := 12) hx hb htb u_P hown hK hP 0 rfl rfl 4 (by decide) (hN.at q38 rfl rfl) (fun _ h9 => h9) rfl d_S_keepsRules_135 ?_
          refine nr_icmp_gt (tgt := 158) hx hb (by omega) (by omega) d_S_keepsRules_138 (by decide) (fun c_138 => ?_) (fun c_138 => ?_)
          · refine nr_iconst hx hb 0 d_S_keepsRules_158 (by decide) ?_
            have hfin : krS S p1 d sf = up2 (up2 S 5 (d * 6 + p1) (S 5 ((d - 1) * 6 + p1))) 6 (d * 6 + p1) ((S 6 ((d - 1) * 6 + p1)) + 1) := by unfold krS; rw [hh5, hh6, if_pos c_74, if_pos c_95]
            rw [← hfin] at hP hD
            exact W.zret (v := (nI 0)) hx hb hr rfl (fun t ht hW => ⟨⟨_, (), rfl, by rw [krB, hh5, hh6, hh2, if_pos c_74, if_pos c_95, decide_eq_false (fun h => absurd h.2.1 (by omega))]; rfl, by rw [ht]; exact hP, hD⟩, hS.F ht⟩) hS.2.2 d_S_keepsRules_159
          · refine lv_aload_n hx hb d_S_keepsRules_141 rfl (lv_at hl 5 rfl) ?_
            refine va_get (D := D) (ci := 1) (v := .ref (ad 1)) (C := R_S) (T := F_S) (N := 15) hx hb htb u_S hown hK hP 7 rfl rfl 0 (by decide) (htb _ q83) (fun _ h9 => h9) rfl d_S_keepsRules_142 ?_
            refine lv_iload hx hb d_S_keepsRules_145 (lv_at hl 0 rfl) ?_
            refine lv_iload_n hx hb d_S_keepsRules_147 rfl (lv_at hl 8 rfl) ?_
            refine nr_calli (va_runVN (As := [.int (nI (S 2 ((d - 1) * 6 + p1))), .int (nI sf)]) (rest := []) ⟨hx, hb, hml, hown, hts⟩ (c_P_breaksRest l D ad ca P a cS ro hP0 hro (S 2 ((d - 1) * 6 + p1)) sf (by omega) (by omega)) ⟨va_cnB 2 hts (gTB q_P_breaksRest) rfl rfl rfl (hN.nw q499 rfl) (htb _ q2) hd_P_breaksRest ⟨Nat.le_of_ble_eq_true rfl, Nat.le_of_ble_eq_true rfl⟩, (htb _ q188), (htb _ sel_P_breaksRest)⟩ ⟨ro_blind, va_recv (hK.sub (tys' := []) [] rfl) hP (ci := 0) (q0 := 0) rfl rfl, ro_pre hN (hP.sub (ws' := (wPS ad ca P a cS ro)) [0, 1, 2, 3, 4, 5, 6, 15] rfl) (hK.sub (tys' := (tPS ca cS)) [0, 1, 2, 3, 4, 5, 13] rfl)⟩ rfl rfl hl.1 rfl (lv_room (Nat.le_of_ble_eq_true rfl)) d_S_keepsRules_148 ⟨Nat.le_of_ble_eq_true rfl, Nat.le_of_ble_eq_true rfl⟩) (fun r_31 hr_31 => ?_)
            subst hr_31
            refine nr_if_ne (tgt := 158) hx hb b01_lt d_S_keepsRules_151 (by decide) (fun c_151 => ?_) (fun c_151 => ?_)
            · refine nr_iconst hx hb 0 d_S_keepsRules_158 (by decide) ?_
              have hfin : krS S p1 d sf = up2 (up2 S 5 (d * 6 + p1) (S 5 ((d - 1) * 6 + p1))) 6 (d * 6 + p1) ((S 6 ((d - 1) * 6 + p1)) + 1) := by unfold krS; rw [hh5, hh6, if_pos c_74, if_pos c_95]
              rw [← hfin] at hP hD
              exact W.zret (v := (nI 0)) hx hb hr rfl (fun t ht hW => ⟨⟨_, (), rfl, by rw [krB, hh5, hh6, hh2, if_pos c_74, if_pos c_95, decide_eq_false (fun h => absurd h.2.2 (by rw [b01_nz c_151]; decide))]; rfl, by rw [ht]; exact hP, hD⟩, hS.F ht⟩) hS.2.2 d_S_keepsRules_159
            · refine nr_iconst hx hb 1 d_S_keepsRules_154 (by decide) ?_
              refine lv_goto (tgt := 159) hx hb d_S_keepsRules_155 (by decide) ?_
              have hfin : krS S p1 d sf = up2 (up2 S 5 (d * 6 + p1) (S 5 ((d - 1) * 6 + p1))) 6 (d * 6 + p1) ((S 6 ((d - 1) * 6 + p1)) + 1) := by unfold krS; rw [hh5, hh6, if_pos c_74, if_pos c_95]
              rw [← hfin] at hP hD
              exact W.zret (v := (nI 1)) hx hb hr rfl (fun t ht hW => ⟨⟨_, (), rfl, by rw [krB, hh5, hh6, hh2, if_pos c_74, if_pos c_95, decide_eq_true (⟨c_121, c_138, b01_f c_151⟩)]; rfl, by rw [ht]; exact hP, hD⟩, hS.F ht⟩) hS.2.2 d_S_keepsRules_159
set_option maxHeartbeats 4000000 in
set_option maxRecDepth 100000 in
theorem c_S_unmetBefore (l : Launch) (D : va_G) (ad : Nat → Nat) (ca : Nat → ClassId) (P S : Nat → Nat → Nat) (a : Nat) (cS : ClassId) (ro : Nat → Nat) (hP0 : okP P) (hS0 : okS S) (hro : ∀ k, ro k ≤ 3) (p1 d : Nat) (hp : p1 < P 0 0) (hd : d < 7) : Met l y_S_unmetBefore w_S_unmetBefore { frames := 1, cells := 0, slots := 0, locals := 21 } (ro_P [.ref (ad 2), .int (nI p1), .int (nI d)] D (wSP ad ca P S a cS ro) (tSP ca cS)) (vp_Si (fun r => r = nI (ubef P S p1 d))) 0 0 (fun _ => False) := by
  refine Met.ofW (cc := b_S_unmetBefore) (maxL := 3) (ret := (some .int)) (by decide) rfl ?_
  intro p e s m args below meth c s₁ B hml hv
  obtain ⟨rfl, hN, hP, hK⟩ := hv
  have hx := B.exec
  have hb := B.bytes
  have hr := B.returns
  have hts := atoms_spec (ws := w_S_unmetBefore) B.pre
  have htb : ∀ w ∈ TBG, w.before [.ref (ad 2), .int (nI p1), .int (nI d)].toArray s = true := fun w h => hts w (List.mem_cons_of_mem _ h)
  have hown : s.vm.findClass R_S = some m.cls := findClass_of_methodNamed B.named
  have hlocks := B.notSynchronized
  have hl := lv_entry ([.ref (ad 2), .int (nI p1), .int (nI d)]) (n := 3) (Nat.le_of_ble_eq_true rfl)
  rw [lg_entry_eq]
  generalize (lg_sl ([.ref (ad 2), .int (nI p1), .int (nI d)]) ++ List.replicate (3 - (lg_sl ([.ref (ad 2), .int (nI p1), .int (nI d)])).length) Slot.unset).toArray = ls at hl ⊢
  have hl : lv_has ls 3 [(0, .ref (ad 2)), (1, .int (nI p1)), (2, .int (nI d))] := hl
  obtain ⟨h00, h01, h02, h03, h04, h05, hp1, hp2, hp3, hp4, hp5, hp6⟩ := id hP0
  obtain ⟨g00, g01, g02, g03, g04, g05, g06, hs1, hs2, hs3, hs4, hs5, hs6, hs7⟩ := id hS0
  refine lv_iload_n hx hb d_S_unmetBefore_0 rfl (lv_at hl 1 rfl) ?_
  refine nr_if_le (tgt := 17) hx hb (by omega) d_S_unmetBefore_1 (by decide) (fun c_1 => ?_) (fun c_1 => ?_)
  · refine lv_iload_n hx hb d_S_unmetBefore_17 rfl (lv_at hl 2 rfl) ?_
    refine nr_if_ne (tgt := 25) hx hb (by omega) d_S_unmetBefore_18 (by decide) (fun c_18 => ?_) (fun c_18 => ?_)
    · refine lv_aload_n hx hb d_S_unmetBefore_25 rfl (lv_at hl 0 rfl) ?_
      refine va_get (D := D) (ci := 1) (v := .ref (ad 15)) (C := R_S) (T := F_S) (N := 15) hx hb htb u_S hown hK hP 7 rfl rfl 7 (by decide) (htb _ q91) (fun _ h9 => h9) rfl d_S_unmetBefore_26 ?_
      refine lv_aload_n hx hb d_S_unmetBefore_29 rfl (lv_at hl 0 rfl) ?_
      refine va_get (D := D) (ci := 1) (v := .ref (ad 1)) (C := R_S) (T := F_S) (N := 15) hx hb htb u_S hown hK hP 7 rfl rfl 0 (by decide) (htb _ q83) (fun _ h9 => h9) rfl d_S_unmetBefore_30 ?_
      refine va_getN (D := D) (ci := 0) (v := .int (nI (P 0 0))) (C := R_P) (T := F_P) (N := 12) hx hb htb u_P hown hK hP 0 rfl rfl 0 (by decide) (hN.at q29 rfl rfl) (fun _ h9 => h9) rfl d_S_unmetBefore_33 ?_
      refine nr_iconst hx hb 1 d_S_unmetBefore_36 (by decide) ?_
      refine nr_isub hx hb (by omega) d_S_unmetBefore_37 ?_
      refine lv_iload_n hx hb d_S_unmetBefore_38 rfl (lv_at hl 2 rfl) ?_
      refine nr_iconst hx hb 1 d_S_unmetBefore_39 (by decide) ?_
      refine nr_isub hx hb (by omega) d_S_unmetBefore_40 ?_
      refine nr_calli (va_runSN (As := [.int (nI ((P 0 0) - 1)), .int (nI (d - 1))]) (rest := [.ref (ad 15)]) ⟨hx, hb, hml, hown, hts⟩ (c_R_cell l D ((P 0 0) - 1) (d - 1)) ⟨va_cnB 2 hts (gTB q_R_cell) rfl rfl rfl (hN.nw q489 rfl) (htb _ q1) hd_R_cell ⟨Nat.le_of_ble_eq_true rfl, Nat.le_of_ble_eq_true rfl⟩, (htb _ q174), trivial⟩ ⟨ro_blind, ro_pre hN (hP.sub (ws' := []) [] rfl) (hK.sub (tys' := []) [] rfl)⟩ rfl rfl hl.1 rfl (lv_room (Nat.le_of_ble_eq_true rfl)) d_S_unmetBefore_41 ⟨Nat.le_of_ble_eq_true rfl, Nat.le_of_ble_eq_true rfl⟩) (fun r_1 hr_1 => ?_)
      subst hr_1
      refine nr_iald hx hb hK hP 14 12 rfl rfl (by omega) (by decide) d_S_unmetBefore_44 ?_
      exact W.iret (v := (nI (S 7 ((d - 1) * 6 + ((P 0 0) - 1))))) hx hb hr (fun t ht hW => ⟨_, rfl, by unfold ubef; rw [if_neg (by omega), if_neg c_18], ht⟩) (fun q h => by cases h) d_S_unmetBefore_45
    · refine nr_iconst hx hb 0 d_S_unmetBefore_21 (by decide) ?_
      refine lv_goto (tgt := 45) hx hb d_S_unmetBefore_22 (by decide) ?_
      exact W.iret (v := (nI 0)) hx hb hr (fun t ht hW => ⟨_, rfl, by unfold ubef; rw [if_neg (by omega), if_pos c_18], ht⟩) (fun q h => by cases h) d_S_unmetBefore_45
  · refine lv_aload_n hx hb d_S_unmetBefore_4 rfl (lv_at hl 0 rfl) ?_
    refine va_get (D := D) (ci := 1) (v := .ref (ad 15)) (C := R_S) (T := F_S) (N := 15) hx hb htb u_S hown hK hP 7 rfl rfl 7 (by decide) (htb _ q91) (fun _ h9 => h9) rfl d_S_unmetBefore_5 ?_
    refine lv_iload_n hx hb d_S_unmetBefore_8 rfl (lv_at hl 1 rfl) ?_
    refine nr_iconst hx hb 1 d_S_unmetBefore_9 (by decide) ?_
    refine nr_isub hx hb (by omega) d_S_unmetBefore_10 ?_
    refine lv_iload_n hx hb d_S_unmetBefore_11 rfl (lv_at hl 2 rfl) ?_
    refine nr_calli (va_runSN (As := [.int (nI (p1 - 1)), .int (nI d)]) (rest := [.ref (ad 15)]) ⟨hx, hb, hml, hown, hts⟩ (c_R_cell l D (p1 - 1) d) ⟨va_cnB 2 hts (gTB q_R_cell) rfl rfl rfl (hN.nw q489 rfl) (htb _ q1) hd_R_cell ⟨Nat.le_of_ble_eq_true rfl, Nat.le_of_ble_eq_true rfl⟩, (htb _ q174), trivial⟩ ⟨ro_blind, ro_pre hN (hP.sub (ws' := []) [] rfl) (hK.sub (tys' := []) [] rfl)⟩ rfl rfl hl.1 rfl (lv_room (Nat.le_of_ble_eq_true rfl)) d_S_unmetBefore_12 ⟨Nat.le_of_ble_eq_true rfl, Nat.le_of_ble_eq_true rfl⟩) (fun r_2 hr_2 => ?_)
    subst hr_2
    refine nr_iald hx hb hK hP 14 12 rfl rfl (by omega) (by decide) d_S_unmetBefore_15 ?_
    exact W.iret (v := (nI (S 7 (d * 6 + (p1 - 1))))) hx hb hr (fun t ht hW => ⟨_, rfl, by unfold ubef; rw [if_pos c_1], ht⟩) (fun q h => by cases h) d_S_unmetBefore_16
set_option maxHeartbeats 4000000 in
set_option maxRecDepth 100000 in
theorem c_S_staysBelowBest (l : Launch) (D : va_G) (ad : Nat → Nat) (ca : Nat → ClassId) (P S : Nat → Nat → Nat) (a : Nat) (cS : ClassId) (ro : Nat → Nat) (hP0 : okP P) (hS0 : okS S) (hro : ∀ k, ro k ≤ 3) (p1 d sf : Nat) (hp : p1 < P 0 0) (hd : d < 7) (hsf : sf ≤ 3) (sz : Nat) : Met l y_S_staysBelowBest w_S_staysBelowBest { frames := 2, cells := 0, slots := 0, locals := 43 } (rw_P [.ref (ad 2), .int (nI p1), .int (nI d), .int (nI sf)] D (wSP ad ca P S a cS ro) (tSP ca cS) sz) (rw_Qi (fun (r : Int32) (u : Unit) => r = nI (if sbB P S p1 d sf = true then 1 else 0)) D (wSP ad ca P S a cS ro) (fun u => wSP ad ca P (sbS P S p1 d sf) a cS ro) sz) 0 0 (va_A (wSP ad ca P S a cS ro) sz) := by
  refine Met.ofW (cc := b_S_staysBelowBest) (maxL := 5) (ret := (some .boolean)) (by decide) rfl ?_
  intro p e s m args below meth c s₁ B hml hv
  obtain ⟨rfl, hsz, hN, hP, hK, hD0⟩ := hv
  have hx := B.exec
  have hb := B.bytes
  have hr := B.returns
  have hts := atoms_spec (ws := w_S_staysBelowBest) B.pre
  have htb : ∀ w ∈ TBG, w.before [.ref (ad 2), .int (nI p1), .int (nI d), .int (nI sf)].toArray s = true := fun w h => hts w (List.mem_cons_of_mem _ h)
  have hown : s.vm.findClass R_S = some m.cls := findClass_of_methodNamed B.named
  have hlocks := B.notSynchronized
  subst hsz
  have hD := hD0.self (sz := s.heap.size)
  unfold rw_Qi
  generalize hAe : va_A (wSP ad ca P S a cS ro) s.heap.size = A at hD ⊢
  have hA : ∀ q : Nat, s.heap.size ≤ q → A q := fun q h => by rw [← hAe]; exact Or.inr h
  have hS : va_S A s.heap s.heap [] := va_S.rf
  have hl := lv_entry ([.ref (ad 2), .int (nI p1), .int (nI d), .int (nI sf)]) (n := 5) (Nat.le_of_ble_eq_true rfl)
  rw [lg_entry_eq]
  generalize (lg_sl ([.ref (ad 2), .int (nI p1), .int (nI d), .int (nI sf)]) ++ List.replicate (5 - (lg_sl ([.ref (ad 2), .int (nI p1), .int (nI d), .int (nI sf)])).length) Slot.unset).toArray = ls at hl ⊢
  have hl : lv_has ls 5 [(0, .ref (ad 2)), (1, .int (nI p1)), (2, .int (nI d)), (3, .int (nI sf))] := hl
  refine nr_start hP hS (fun H locs hP hS => ?_)
  obtain ⟨h00, h01, h02, h03, h04, h05, hp1, hp2, hp3, hp4, hp5, hp6⟩ := id hP0
  obtain ⟨g00, g01, g02, g03, g04, g05, g06, hs1, hs2, hs3, hs4, hs5, hs6, hs7⟩ := id hS0
  have hub := ubef_le (P := P) hS0 h00 p1 d hp hd
  refine lv_iload_n hx hb d_S_staysBelowBest_0 rfl (lv_at hl 1 rfl) ?_
  refine lv_iload_n hx hb d_S_staysBelowBest_1 rfl (lv_at hl 2 rfl) ?_
  refine nr_calli (va_runSN (As := [.int (nI p1), .int (nI d)]) (rest := []) ⟨hx, hb, hml, hown, hts⟩ (c_R_cell l D p1 d) ⟨va_cnB 2 hts (gTB q_R_cell) rfl rfl rfl (hN.nw q489 rfl) (htb _ q1) hd_R_cell ⟨Nat.le_of_ble_eq_true rfl, Nat.le_of_ble_eq_true rfl⟩, (htb _ q174), trivial⟩ ⟨ro_blind, ro_pre hN (hP.sub (ws' := []) [] rfl) (hK.sub (tys' := []) [] rfl)⟩ rfl rfl hl.1 rfl (lv_room (Nat.le_of_ble_eq_true rfl)) d_S_staysBelowBest_2 ⟨Nat.le_of_ble_eq_true rfl, Nat.le_of_ble_eq_true rfl⟩) (fun r_1 hr_1 => ?_)
  subst hr_1
  refine lv_istore (lv' := [(4, .int (nI (d * 6 + p1))), (0, .ref (ad 2)), (1, .int (nI p1)), (2, .int (nI d)), (3, .int (nI sf))]) hx hb d_S_staysBelowBest_5 hl (by decide) rfl (fun ls hl => ?_)
  refine lv_aload_n hx hb d_S_staysBelowBest_7 rfl (lv_at hl 1 rfl) ?_
  refine va_get (D := D) (ci := 1) (v := .ref (ad 15)) (C := R_S) (T := F_S) (N := 15) hx hb htb u_S hown hK hP 7 rfl rfl 7 (by decide) (htb _ q91) (fun _ h9 => h9) rfl d_S_staysBelowBest_8 ?_
  refine lv_iload hx hb d_S_staysBelowBest_11 (lv_at hl 0 rfl) ?_
  refine lv_aload_n hx hb d_S_staysBelowBest_13 rfl (lv_at hl 1 rfl) ?_
  refine lv_iload_n hx hb d_S_staysBelowBest_14 rfl (lv_at hl 2 rfl) ?_
  refine lv_iload_n hx hb d_S_staysBelowBest_15 rfl (lv_at hl 3 rfl) ?_
  refine nr_calli (va_runV (As := [.int (nI p1), .int (nI d)]) (rest := [.int (nI (d * 6 + p1)), .ref (ad 15)]) ⟨hx, hb, hml, hown, hts⟩ (c_S_unmetBefore l D ad ca P S a cS ro hP0 hS0 hro p1 d (by omega) (by omega)) ⟨callB_of 2 hts (gTB q_S_unmetBefore) rfl rfl rfl (htb _ q3) (htb _ q505) hd_S_unmetBefore ⟨Nat.le_of_ble_eq_true rfl, Nat.le_of_ble_eq_true rfl⟩, (htb _ q507), (htb _ sel_S_unmetBefore)⟩ ⟨ro_blind, va_recv (hK.sub (tys' := []) [] rfl) hP (ci := 1) (q0 := 7) rfl rfl, ro_pre hN (hP.sub (ws' := (wSP ad ca P S a cS ro)) [0, 1, 2, 3, 4, 5, 6, 7, 8, 9, 10, 11, 12, 13, 14, 15] rfl) (hK.sub (tys' := (tSP ca cS)) [0, 1, 2, 3, 4, 5, 6, 7, 8, 9, 10, 11, 12, 13] rfl)⟩ rfl rfl hl.1 rfl (lv_room (Nat.le_of_ble_eq_true rfl)) d_S_staysBelowBest_16 ⟨Nat.le_of_ble_eq_true rfl, Nat.le_of_ble_eq_true rfl⟩) (fun r_2 hr_2 => ?_)
  subst hr_2
  refine lv_aload_n hx hb d_S_staysBelowBest_19 rfl (lv_at hl 1 rfl) ?_
  refine va_get (D := D) (ci := 1) (v := .ref (ad 1)) (C := R_S) (T := F_S) (N := 15) hx hb htb u_S hown hK hP 7 rfl rfl 0 (by decide) (htb _ q83) (fun _ h9 => h9) rfl d_S_staysBelowBest_20 ?_
  refine va_getN (D := D) (ci := 0) (v := .ref (ad 8)) (C := R_P) (T := F_P) (N := 12) hx hb htb u_P hown hK hP 0 rfl rfl 11 (by decide) (hN.at q49 rfl rfl) (fun _ h9 => h9) rfl d_S_staysBelowBest_23 ?_
  refine lv_iload_n hx hb d_S_staysBelowBest_26 rfl (lv_at hl 2 rfl) ?_
  refine lv_iload_n hx hb d_S_staysBelowBest_27 rfl (lv_at hl 3 rfl) ?_
  refine lv_iload_n hx hb d_S_staysBelowBest_28 rfl (lv_at hl 4 rfl) ?_
  refine nr_calli (va_runSN (As := [.int (nI p1), .int (nI d), .int (nI sf)]) (rest := [.ref (ad 8), .int (nI (ubef P S p1 d)), .int (nI (d * 6 + p1)), .ref (ad 15)]) ⟨hx, hb, hml, hown, hts⟩ (c_R_choice l D p1 d sf) ⟨va_cnB 3 hts (gTB q_R_choice) rfl rfl rfl (hN.nw q500 rfl) (htb _ q1) hd_R_choice ⟨Nat.le_of_ble_eq_true rfl, Nat.le_of_ble_eq_true rfl⟩, (htb _ q206), trivial⟩ ⟨ro_blind, ro_pre hN (hP.sub (ws' := []) [] rfl) (hK.sub (tys' := []) [] rfl)⟩ rfl rfl hl.1 rfl (lv_room (Nat.le_of_ble_eq_true rfl)) d_S_staysBelowBest_29 ⟨Nat.le_of_ble_eq_true rfl, Nat.le_of_ble_eq_true rfl⟩) (fun r_3 hr_3 => ?_)
  subst hr_3
  refine nr_iald hx hb hK hP 6 5 rfl rfl (by omega) (by decide) d_S_staysBelowBest_32 ?_
  have hv_4 := hp6 ((d * 6 + p1) * 4 + sf)
  refine nr_iadd hx hb d_S_staysBelowBest_33 ?_
  refine nr_iast hx hb hK hP hD hS 14 12 rfl rfl (by omega) (by decide) d_S_staysBelowBest_34 (fun H locs hP hD hS => ?_)
  have hP : va_P D cls (wSP ad ca P (up2 S 7 (d * 6 + p1) ((ubef P S p1 d) + (P 6 ((d * 6 + p1) * 4 + sf)))) a cS ro) H := hP
  have hD : va_D A (wSP ad ca P (up2 S 7 (d * 6 + p1) ((ubef P S p1 d) + (P 6 ((d * 6 + p1) * 4 + sf)))) a cS ro) := hD
  refine lv_aload_n hx hb d_S_staysBelowBest_35 rfl (lv_at hl 1 rfl) ?_
  refine va_get (D := D) (ci := 1) (v := .ref (ad 15)) (C := R_S) (T := F_S) (N := 15) hx hb htb u_S hown hK hP 7 rfl rfl 7 (by decide) (htb _ q91) (fun _ h9 => h9) rfl d_S_staysBelowBest_36 ?_
  refine lv_iload hx hb d_S_staysBelowBest_39 (lv_at hl 0 rfl) ?_
  refine nr_iald hx hb hK hP 14 12 rfl rfl (by omega) (by decide) d_S_staysBelowBest_41 ?_
  refine nr_top (y := nI ((ubef P S p1 d) + (P 6 ((d * 6 + p1) * 4 + sf)))) (by simp [up2, upr]) ?_
  refine lv_aload_n hx hb d_S_staysBelowBest_42 rfl (lv_at hl 1 rfl) ?_
  refine va_get (D := D) (ci := 1) (v := .int (nI (S 0 4))) (C := R_S) (T := F_S) (N := 15) hx hb htb u_S hown hK hP 7 rfl rfl 12 (by decide) (htb _ q98) (fun _ h9 => h9) rfl d_S_staysBelowBest_43 ?_
  refine nr_icmp_ge (tgt := 53) hx hb (by omega) (by omega) d_S_staysBelowBest_46 (by decide) (fun c_46 => ?_) (fun c_46 => ?_)
  · refine nr_iconst hx hb 0 d_S_staysBelowBest_53 (by decide) ?_
    have hfin : sbS P S p1 d sf = up2 S 7 (d * 6 + p1) ((ubef P S p1 d) + (P 6 ((d * 6 + p1) * 4 + sf))) := rfl
    rw [← hfin] at hP hD
    exact W.zret (v := (nI 0)) hx hb hr rfl (fun t ht hW => ⟨⟨_, (), rfl, by rw [sbB, decide_eq_false (by omega)]; rfl, by rw [ht]; exact hP, hD⟩, hS.F ht⟩) hS.2.2 d_S_staysBelowBest_54
  · refine nr_iconst hx hb 1 d_S_staysBelowBest_49 (by decide) ?_
    refine lv_goto (tgt := 54) hx hb d_S_staysBelowBest_50 (by decide) ?_
    have hfin : sbS P S p1 d sf = up2 S 7 (d * 6 + p1) ((ubef P S p1 d) + (P 6 ((d * 6 + p1) * 4 + sf))) := rfl
    rw [← hfin] at hP hD
    exact W.zret (v := (nI 1)) hx hb hr rfl (fun t ht hW => ⟨⟨_, (), rfl, by rw [sbB, decide_eq_true c_46]; rfl, by rw [ht]; exact hP, hD⟩, hS.F ht⟩) hS.2.2 d_S_staysBelowBest_54
end
section
def snT (S : Nat → Nat → Nat) (p d : Nat) : Nat → Nat → Nat := up2 (up2 (up2 S 3 (d * 6 + p) (S 3 (d * 6 + p) + 1)) 0 2 (S 0 2 + 1)) 2 (d * 6 + p) (S 3 (d * 6 + p))
def snG (P S : Nat → Nat → Nat) (p d : Nat) : Bool := krB P (snT S p d) p d (S 3 (d * 6 + p)) && decide (P 5 ((d * 6 + p) * 4 + S 3 (d * 6 + p)) = 0)
def snS (P S : Nat → Nat → Nat) (p d : Nat) : Nat → Nat → Nat := if snG P S p d = true then sbS P (krS (snT S p d) p d (S 3 (d * 6 + p))) p d (S 3 (d * 6 + p)) else krS (snT S p d) p d (S 3 (d * 6 + p))
def snB (P S : Nat → Nat → Nat) (p d : Nat) : Bool := snG P S p d && (sbB P (krS (snT S p d) p d (S 3 (d * 6 + p))) p d (S 3 (d * 6 + p)) && (decide (p < P 0 0 - 1) || decide (needUnmet P (sbS P (krS (snT S p d) p d (S 3 (d * 6 + p))) p d (S 3 (d * 6 + p)) 2) d = 0)))
def ktS (S : Nat → Nat → Nat) (x : Nat) : Nat → Nat → Nat := up2 (up2 (upr S 1 (S 2)) 0 4 x) 0 3 (S 0 3 + 1)
def toS (P S : Nat → Nat → Nat) : Nat → Nat → Nat := if needFault P (S 2) = 0 then ktS S 0 else S
theorem okS_2 {S : Nat → Nat → Nat} (h : okS S) : ∀ k, S 2 k ≤ 3 := h.2.2.2.2.2.2.2.2.1
theorem up2_le {S : Nat → Nat → Nat} {a i x r : Nat} {b : Nat → Nat} (h : ∀ k, S r k ≤ b k) (hx : r = a → x ≤ b i) : ∀ k, up2 S a i x r k ≤ b k := by
  intro k
  unfold up2
  split
  · split
    · rename_i h1 h2; rw [h2]; exact hx h1
    · exact h k
  · exact h k
theorem ok_snT {S : Nat → Nat → Nat} {p d : Nat} (h : okS S) (h3 : S 3 (d * 6 + p) ≤ 3) (hst : S 0 2 < 20000) : okS (snT S p d) := by
  obtain ⟨g00, g01, g02, g03, g04, g05, g06, hs1, hs2, hs3, hs4, hs5, hs6, hs7⟩ := h
  refine ⟨g00, g01, ?_, g03, g04, g05, g06, hs1, ?_, ?_, hs4, hs5, hs6, hs7⟩
  · show S 0 2 + 1 ≤ 40000
    omega
  · exact up2_le (b := fun _ => 3) (fun k => hs2 k) (fun _ => h3)
  · intro k
    show (if k = d * 6 + p then S 3 (d * 6 + p) + 1 else S 3 k) ≤ 4
    have := hs3 k
    split <;> omega
theorem ok_krS {S : Nat → Nat → Nat} {p d s : Nat} (h : okS S) (hp : p < 6) (hd : d < 7) : okS (krS S p d s) := by
  obtain ⟨g00, g01, g02, g03, g04, g05, g06, hs1, hs2, hs3, hs4, hs5, hs6, hs7⟩ := h
  refine ⟨g00, g01, g02, g03, g04, g05, g06, hs1, hs2, hs3, hs4, ?_, ?_, hs7⟩
  · intro k
    show (if k = d * 6 + p then (if s = 0 then hadB S 5 p d else hadB S 5 p d + 1) else S 5 k) ≤ k + 1
    have := hs5 ((d - 1) * 6 + p)
    have := hs5 k
    have hh : hadB S 5 p d ≤ d * 6 + p := by unfold hadB; split <;> omega
    split
    · split <;> omega
    · omega
  · intro k
    show (if k = d * 6 + p then (if s = 3 then hadB S 6 p d + 1 else 0) else S 6 k) ≤ k + 1
    have := hs6 ((d - 1) * 6 + p)
    have := hs6 k
    have hh : hadB S 6 p d ≤ d * 6 + p := by unfold hadB; split <;> omega
    split
    · split <;> omega
    · omega
theorem ok_sbS {P S : Nat → Nat → Nat} {p d s : Nat} (hP : okP P) (h : okS S) (hp : p < P 0 0) (hd : d < 7) : okS (sbS P S p d s) := by
  have hu := ubef_le (P := P) h hP.1 p d hp hd
  have h6 := hP.2.2.2.2.2.2.2.2.2.2.2 ((d * 6 + p) * 4 + s)
  obtain ⟨g00, g01, g02, g03, g04, g05, g06, hs1, hs2, hs3, hs4, hs5, hs6, hs7⟩ := h
  refine ⟨g00, g01, g02, g03, g04, g05, g06, hs1, hs2, hs3, hs4, hs5, hs6, ?_⟩
  exact up2_le (S := S) (b := fun k => 2000 * (k + 1)) hs7 (fun _ => by omega)
set_option maxHeartbeats 4000000 in
set_option maxRecDepth 100000 in
theorem c_S_standsNext (l : Launch) (D : va_G) (ad : Nat → Nat) (ca : Nat → ClassId) (P S : Nat → Nat → Nat) (a : Nat) (cS : ClassId) (ro : Nat → Nat) (hP0 : okP P) (hS0 : okS S) (hro : ∀ k, ro k ≤ 3) (p1 d : Nat) (hp : p1 < P 0 0) (hd : d < 7) (h3 : S 3 (d * 6 + p1) ≤ 3) (hst : S 0 2 < 20000) (sz : Nat) : Met l y_S_standsNext w_S_standsNext { frames := 3, cells := 0, slots := 0, locals := 71 } (rw_P [.ref (ad 2), .int (nI p1), .int (nI d)] D (wSP ad ca P S a cS ro) (tSP ca cS) sz) (rw_Qi (fun (r : Int32) (u : Unit) => r = nI (if snB P S p1 d = true then 1 else 0)) D (wSP ad ca P S a cS ro) (fun u => wSP ad ca P (snS P S p1 d) a cS ro) sz) 0 0 (va_A (wSP ad ca P S a cS ro) sz) := by
  refine Met.ofW (cc := b_S_standsNext) (maxL := 5) (ret := (some .boolean)) (by decide) rfl ?_
  intro p e s m args below meth c s₁ B hml hv
  obtain ⟨rfl, hsz, hN, hP, hK, hD0⟩ := hv
  have hx := B.exec
  have hb := B.bytes
  have hr := B.returns
  have hts := atoms_spec (ws := w_S_standsNext) B.pre
  have htb : ∀ w ∈ TBG, w.before [.ref (ad 2), .int (nI p1), .int (nI d)].toArray s = true := fun w h => hts w (List.mem_cons_of_mem _ h)
  have hown : s.vm.findClass R_S = some m.cls := findClass_of_methodNamed B.named
  have hlocks := B.notSynchronized
  subst hsz
  have hD := hD0.self (sz := s.heap.size)
  unfold rw_Qi
  generalize hAe : va_A (wSP ad ca P S a cS ro) s.heap.size = A at hD ⊢
  have hA : ∀ q : Nat, s.heap.size ≤ q → A q := fun q h => by rw [← hAe]; exact Or.inr h
  have hS : va_S A s.heap s.heap [] := va_S.rf
  have hl := lv_entry ([.ref (ad 2), .int (nI p1), .int (nI d)]) (n := 5) (Nat.le_of_ble_eq_true rfl)
  rw [lg_entry_eq]
  generalize (lg_sl ([.ref (ad 2), .int (nI p1), .int (nI d)]) ++ List.replicate (5 - (lg_sl ([.ref (ad 2), .int (nI p1), .int (nI d)])).length) Slot.unset).toArray = ls at hl ⊢
  have hl : lv_has ls 5 [(0, .ref (ad 2)), (1, .int (nI p1)), (2, .int (nI d))] := hl
  refine nr_start hP hS (fun H locs hP hS => ?_)
  obtain ⟨h00, h01, h02, h03, h04, h05, hp1, hp2, hp3, hp4, hp5, hp6⟩ := id hP0
  obtain ⟨g00, g01, g02, g03, g04, g05, g06, hs1, hs2, hs3, hs4, hs5, hs6, hs7⟩ := id hS0
  have hp6 : p1 < 6 := by omega
  refine lv_iload_n hx hb d_S_standsNext_0 rfl (lv_at hl 1 rfl) ?_
  refine lv_iload_n hx hb d_S_standsNext_1 rfl (lv_at hl 2 rfl) ?_
  refine nr_calli (va_runSN (As := [.int (nI p1), .int (nI d)]) (rest := []) ⟨hx, hb, hml, hown, hts⟩ (c_R_cell l D p1 d) ⟨va_cnB 2 hts (gTB q_R_cell) rfl rfl rfl (hN.nw q489 rfl) (htb _ q1) hd_R_cell ⟨Nat.le_of_ble_eq_true rfl, Nat.le_of_ble_eq_true rfl⟩, (htb _ q174), trivial⟩ ⟨ro_blind, ro_pre hN (hP.sub (ws' := []) [] rfl) (hK.sub (tys' := []) [] rfl)⟩ rfl rfl hl.1 rfl (lv_room (Nat.le_of_ble_eq_true rfl)) d_S_standsNext_2 ⟨Nat.le_of_ble_eq_true rfl, Nat.le_of_ble_eq_true rfl⟩) (fun r_1 hr_1 => ?_)
  subst hr_1
  refine lv_istore_n (lv' := [(3, .int (nI (d * 6 + p1))), (0, .ref (ad 2)), (1, .int (nI p1)), (2, .int (nI d))]) hx hb d_S_standsNext_5 rfl hl (by decide) rfl (fun ls hl => ?_)
  refine lv_aload_n hx hb d_S_standsNext_6 rfl (lv_at hl 1 rfl) ?_
  refine va_get (D := D) (ci := 1) (v := .ref (ad 11)) (C := R_S) (T := F_S) (N := 15) hx hb htb u_S hown hK hP 7 rfl rfl 3 (by decide) (htb _ q87) (fun _ h9 => h9) rfl d_S_standsNext_7 ?_
  refine lv_iload_n hx hb d_S_standsNext_10 rfl (lv_at hl 0 rfl) ?_
  refine nr_iald hx hb hK hP 10 8 rfl rfl (by omega) (by decide) d_S_standsNext_11 ?_
  refine lv_istore (lv' := [(4, .int (nI (S 3 (d * 6 + p1)))), (3, .int (nI (d * 6 + p1))), (0, .ref (ad 2)), (1, .int (nI p1)), (2, .int (nI d))]) hx hb d_S_standsNext_12 hl (by decide) rfl (fun ls hl => ?_)
  refine lv_aload_n hx hb d_S_standsNext_14 rfl (lv_at hl 2 rfl) ?_
  refine va_get (D := D) (ci := 1) (v := .ref (ad 11)) (C := R_S) (T := F_S) (N := 15) hx hb htb u_S hown hK hP 7 rfl rfl 3 (by decide) (htb _ q87) (fun _ h9 => h9) rfl d_S_standsNext_15 ?_
  refine lv_iload_n hx hb d_S_standsNext_18 rfl (lv_at hl 1 rfl) ?_
  refine lv_dup2_11 hx hb d_S_standsNext_19 rfl rfl ?_
  refine nr_iald hx hb hK hP 10 8 rfl rfl (by omega) (by decide) d_S_standsNext_20 ?_
  refine nr_iconst hx hb 1 d_S_standsNext_21 (by decide) ?_
  refine nr_iadd hx hb d_S_standsNext_22 ?_
  refine nr_iast hx hb hK hP hD hS 10 8 rfl rfl (by omega) (by decide) d_S_standsNext_23 (fun H locs hP hD hS => ?_)
  have hP : va_P D cls (wSP ad ca P (up2 S 3 (d * 6 + p1) ((S 3 (d * 6 + p1)) + 1)) a cS ro) H := hP
  have hD : va_D A (wSP ad ca P (up2 S 3 (d * 6 + p1) ((S 3 (d * 6 + p1)) + 1)) a cS ro) := hD
  refine lv_aload_n hx hb d_S_standsNext_24 rfl (lv_at hl 2 rfl) ?_
  refine lv_dup hx hb d_S_standsNext_25 rfl ?_
  refine va_get (D := D) (ci := 1) (v := .int (nI (S 0 2))) (C := R_S) (T := F_S) (N := 15) hx hb htb u_S hown hK hP 7 rfl rfl 10 (by decide) (htb _ q94) (fun _ h9 => h9) rfl d_S_standsNext_26 ?_
  refine nr_iconst hx hb 1 d_S_standsNext_29 (by decide) ?_
  refine nr_iadd hx hb d_S_standsNext_30 ?_
  refine va_put (D := D) (ci := 1) (v := .int (nI ((S 0 2) + 1))) (ty := .int) (C := R_S) (T := F_S) (N := 15) hx hb htb u_S t_S t_S_ok n_S hown hK hP hD hS 7 rfl rfl 10 (by decide) (htb _ q94) (fun _ h9 => h9) rfl (by decide +kernel) rfl rfl (Nat.le_of_ble_eq_true rfl) d_S_standsNext_31 (fun H locs hP hD hS => ?_)
  have hP : va_P D cls (wSP ad ca P (up2 (up2 S 3 (d * 6 + p1) ((S 3 (d * 6 + p1)) + 1)) 0 2 ((S 0 2) + 1)) a cS ro) H := hP
  have hD : va_D A (wSP ad ca P (up2 (up2 S 3 (d * 6 + p1) ((S 3 (d * 6 + p1)) + 1)) 0 2 ((S 0 2) + 1)) a cS ro) := hD
  refine lv_aload_n hx hb d_S_standsNext_34 rfl (lv_at hl 2 rfl) ?_
  refine va_get (D := D) (ci := 1) (v := .ref (ad 10)) (C := R_S) (T := F_S) (N := 15) hx hb htb u_S hown hK hP 7 rfl rfl 2 (by decide) (htb _ q86) (fun _ h9 => h9) rfl d_S_standsNext_35 ?_
  refine lv_iload_n hx hb d_S_standsNext_38 rfl (lv_at hl 1 rfl) ?_
  refine lv_iload hx hb d_S_standsNext_39 (lv_at hl 0 rfl) ?_
  refine nr_iast hx hb hK hP hD hS 9 7 rfl rfl (by omega) (by decide) d_S_standsNext_41 (fun H locs hP hD hS => ?_)
  have hP : va_P D cls (wSP ad ca P (up2 (up2 (up2 S 3 (d * 6 + p1) ((S 3 (d * 6 + p1)) + 1)) 0 2 ((S 0 2) + 1)) 2 (d * 6 + p1) (S 3 (d * 6 + p1))) a cS ro) H := hP
  have hD : va_D A (wSP ad ca P (up2 (up2 (up2 S 3 (d * 6 + p1) ((S 3 (d * 6 + p1)) + 1)) 0 2 ((S 0 2) + 1)) 2 (d * 6 + p1) (S 3 (d * 6 + p1))) a cS ro) := hD
  have hfold : up2 (up2 (up2 S 3 (d * 6 + p1) ((S 3 (d * 6 + p1)) + 1)) 0 2 ((S 0 2) + 1)) 2 (d * 6 + p1) (S 3 (d * 6 + p1)) = snT S p1 d := rfl
  rw [hfold] at hP hD
  refine lv_aload_n hx hb d_S_standsNext_42 rfl (lv_at hl 2 rfl) ?_
  refine lv_iload_n hx hb d_S_standsNext_43 rfl (lv_at hl 3 rfl) ?_
  refine lv_iload_n hx hb d_S_standsNext_44 rfl (lv_at hl 4 rfl) ?_
  refine lv_iload hx hb d_S_standsNext_45 (lv_at hl 0 rfl) ?_
  have hcurS : okS (snT S p1 d) := (ok_snT hS0 h3 hst)
  refine nr_callwi (wr := ([] : va_W)) (va_runV (As := [.int (nI p1), .int (nI d), .int (nI (S 3 (d * 6 + p1)))]) (rest := []) ⟨hx, hb, hml, hown, hts⟩ (c_S_keepsRules l D ad ca P (snT S p1 d) a cS ro hP0 hcurS hro p1 d (S 3 (d * 6 + p1)) (by omega) (by omega) (by omega) H.size) ⟨callB_of 3 hts (gTB q_S_keepsRules) rfl rfl rfl (htb _ q3) (htb _ q495) hd_S_keepsRules ⟨Nat.le_of_ble_eq_true rfl, Nat.le_of_ble_eq_true rfl⟩, (htb _ q497), (htb _ sel_S_keepsRules)⟩ ⟨rw_blind, va_recv (hK.sub (tys' := []) [] rfl) hP (ci := 1) (q0 := 7) rfl rfl, rw_pre hN (hP.sub (ws' := (wSP ad ca P (snT S p1 d) a cS ro)) [0, 1, 2, 3, 4, 5, 6, 7, 8, 9, 10, 11, 12, 13, 14, 15] rfl) (hK.sub (tys' := (tSP ca cS)) [0, 1, 2, 3, 4, 5, 6, 7, 8, 9, 10, 11, 12, 13] rfl) (hD.sub (ws' := (wSP ad ca P (snT S p1 d) a cS ro)) [0, 1, 2, 3, 4, 5, 6, 7, 8, 9, 10, 11, 12, 13, 14, 15] (by decide) rfl)⟩ rfl rfl hl.1 rfl (lv_room (Nat.le_of_ble_eq_true rfl)) d_S_standsNext_47 ⟨Nat.le_of_ble_eq_true rfl, Nat.le_of_ble_eq_true rfl⟩) hP hD hS hA [0, 1, 2, 3, 4, 5, 6, 7, 8, 9, 10, 11, 12, 13, 14, 15] [] rfl rfl (by decide) (by decide) (fun r_2 u_2 H locs hr_2 hP hD hS => ?_)
  subst hr_2
  replace hP := hP.sub (ws' := wSP ad ca P (krS (snT S p1 d) p1 d (S 3 (d * 6 + p1))) a cS ro) [0, 1, 2, 3, 4, 5, 6, 7, 8, 9, 10, 11, 12, 13, 14, 15] rfl
  replace hD := hD.sub (ws' := wSP ad ca P (krS (snT S p1 d) p1 d (S 3 (d * 6 + p1))) a cS ro) [0, 1, 2, 3, 4, 5, 6, 7, 8, 9, 10, 11, 12, 13, 14, 15] (by decide) rfl
  refine nr_if_eq (tgt := 114) hx hb b01_lt d_S_standsNext_50 (by decide) (fun c_50 => ?_) (fun c_50 => ?_)
  · refine nr_iconst hx hb 0 d_S_standsNext_114 (by decide) ?_
    have hG : snG P S p1 d = false := by unfold snG; rw [b01_f c_50]; rfl
    have hfin : snS P S p1 d = krS (snT S p1 d) p1 d (S 3 (d * 6 + p1)) := by unfold snS; rw [hG]; rfl
    rw [← hfin] at hP hD
    exact W.zret (v := (nI 0)) hx hb hr rfl (fun t ht hW => ⟨⟨_, (), rfl, by unfold snB; rw [hG]; rfl, by rw [ht]; exact hP, hD⟩, hS.F ht⟩) hS.2.2 d_S_standsNext_115
  · refine lv_aload_n hx hb d_S_standsNext_53 rfl (lv_at hl 2 rfl) ?_
    refine va_get (D := D) (ci := 1) (v := .ref (ad 1)) (C := R_S) (T := F_S) (N := 15) hx hb htb u_S hown hK hP 7 rfl rfl 0 (by decide) (htb _ q83) (fun _ h9 => h9) rfl d_S_standsNext_54 ?_
    refine va_getN (D := D) (ci := 0) (v := .ref (ad 7)) (C := R_P) (T := F_P) (N := 12) hx hb htb u_P hown hK hP 0 rfl rfl 10 (by decide) (hN.at q47 rfl rfl) (fun _ h9 => h9) rfl d_S_standsNext_57 ?_
    refine lv_iload_n hx hb d_S_standsNext_60 rfl (lv_at hl 3 rfl) ?_
    refine lv_iload_n hx hb d_S_standsNext_61 rfl (lv_at hl 4 rfl) ?_
    refine lv_iload hx hb d_S_standsNext_62 (lv_at hl 0 rfl) ?_
    refine nr_calli (va_runSN (As := [.int (nI p1), .int (nI d), .int (nI (S 3 (d * 6 + p1)))]) (rest := [.ref (ad 7)]) ⟨hx, hb, hml, hown, hts⟩ (c_R_choice l D p1 d (S 3 (d * 6 + p1))) ⟨va_cnB 3 hts (gTB q_R_choice) rfl rfl rfl (hN.nw q500 rfl) (htb _ q1) hd_R_choice ⟨Nat.le_of_ble_eq_true rfl, Nat.le_of_ble_eq_true rfl⟩, (htb _ q206), trivial⟩ ⟨ro_blind, ro_pre hN (hP.sub (ws' := []) [] rfl) (hK.sub (tys' := []) [] rfl)⟩ rfl rfl hl.1 rfl (lv_room (Nat.le_of_ble_eq_true rfl)) d_S_standsNext_64 ⟨Nat.le_of_ble_eq_true rfl, Nat.le_of_ble_eq_true rfl⟩) (fun r_3 hr_3 => ?_)
    subst hr_3
    refine nr_zald hx hb hK hP 5 4 rfl rfl (by omega) (by decide) d_S_standsNext_67 ?_
    have hv_4 := hp5 ((d * 6 + p1) * 4 + (S 3 (d * 6 + p1)))
    refine nr_if_ne (tgt := 114) hx hb (by omega) d_S_standsNext_68 (by decide) (fun c_68 => ?_) (fun c_68 => ?_)
    · refine nr_iconst hx hb 0 d_S_standsNext_114 (by decide) ?_
      have hG : snG P S p1 d = false := by unfold snG; rw [b01_nz c_50, decide_eq_false c_68]; rfl
      have hfin : snS P S p1 d = krS (snT S p1 d) p1 d (S 3 (d * 6 + p1)) := by unfold snS; rw [hG]; rfl
      rw [← hfin] at hP hD
      exact W.zret (v := (nI 0)) hx hb hr rfl (fun t ht hW => ⟨⟨_, (), rfl, by unfold snB; rw [hG]; rfl, by rw [ht]; exact hP, hD⟩, hS.F ht⟩) hS.2.2 d_S_standsNext_115
    · refine lv_aload_n hx hb d_S_standsNext_71 rfl (lv_at hl 2 rfl) ?_
      refine lv_iload_n hx hb d_S_standsNext_72 rfl (lv_at hl 3 rfl) ?_
      refine lv_iload_n hx hb d_S_standsNext_73 rfl (lv_at hl 4 rfl) ?_
      refine lv_iload hx hb d_S_standsNext_74 (lv_at hl 0 rfl) ?_
      have hcurS : okS (krS (snT S p1 d) p1 d (S 3 (d * 6 + p1))) := (ok_krS (ok_snT hS0 h3 hst) hp6 hd)
      refine nr_callwi (wr := ([] : va_W)) (va_runV (As := [.int (nI p1), .int (nI d), .int (nI (S 3 (d * 6 + p1)))]) (rest := []) ⟨hx, hb, hml, hown, hts⟩ (c_S_staysBelowBest l D ad ca P (krS (snT S p1 d) p1 d (S 3 (d * 6 + p1))) a cS ro hP0 hcurS hro p1 d (S 3 (d * 6 + p1)) (by omega) (by omega) (by omega) H.size) ⟨callB_of 3 hts (gTB q_S_staysBelowBest) rfl rfl rfl (htb _ q3) (htb _ q501) hd_S_staysBelowBest ⟨Nat.le_of_ble_eq_true rfl, Nat.le_of_ble_eq_true rfl⟩, (htb _ q503), (htb _ sel_S_staysBelowBest)⟩ ⟨rw_blind, va_recv (hK.sub (tys' := []) [] rfl) hP (ci := 1) (q0 := 7) rfl rfl, rw_pre hN (hP.sub (ws' := (wSP ad ca P (krS (snT S p1 d) p1 d (S 3 (d * 6 + p1))) a cS ro)) [0, 1, 2, 3, 4, 5, 6, 7, 8, 9, 10, 11, 12, 13, 14, 15] rfl) (hK.sub (tys' := (tSP ca cS)) [0, 1, 2, 3, 4, 5, 6, 7, 8, 9, 10, 11, 12, 13] rfl) (hD.sub (ws' := (wSP ad ca P (krS (snT S p1 d) p1 d (S 3 (d * 6 + p1))) a cS ro)) [0, 1, 2, 3, 4, 5, 6, 7, 8, 9, 10, 11, 12, 13, 14, 15] (by decide) rfl)⟩ rfl rfl hl.1 rfl (lv_room (Nat.le_of_ble_eq_true rfl)) d_S_standsNext_76 ⟨Nat.le_of_ble_eq_true rfl, Nat.le_of_ble_eq_true rfl⟩) hP hD hS hA [0, 1, 2, 3, 4, 5, 6, 7, 8, 9, 10, 11, 12, 13, 14, 15] [] rfl rfl (by decide) (by decide) (fun r_5 u_5 H locs hr_5 hP hD hS => ?_)
      subst hr_5
      replace hP := hP.sub (ws' := wSP ad ca P (sbS P (krS (snT S p1 d) p1 d (S 3 (d * 6 + p1))) p1 d (S 3 (d * 6 + p1))) a cS ro) [0, 1, 2, 3, 4, 5, 6, 7, 8, 9, 10, 11, 12, 13, 14, 15] rfl
      replace hD := hD.sub (ws' := wSP ad ca P (sbS P (krS (snT S p1 d) p1 d (S 3 (d * 6 + p1))) p1 d (S 3 (d * 6 + p1))) a cS ro) [0, 1, 2, 3, 4, 5, 6, 7, 8, 9, 10, 11, 12, 13, 14, 15] (by decide) rfl
      refine nr_if_eq (tgt := 114) hx hb b01_lt d_S_standsNext_79 (by decide) (fun c_79 => ?_) (fun c_79 => ?_)
      · refine nr_iconst hx hb 0 d_S_standsNext_114 (by decide) ?_
        have hG : snG P S p1 d = true := by unfold snG; rw [b01_nz c_50, decide_eq_true c_68]; rfl
        have hfin : snS P S p1 d = sbS P (krS (snT S p1 d) p1 d (S 3 (d * 6 + p1))) p1 d (S 3 (d * 6 + p1)) := by unfold snS; rw [hG]; rfl
        rw [← hfin] at hP hD
        exact W.zret (v := (nI 0)) hx hb hr rfl (fun t ht hW => ⟨⟨_, (), rfl, by unfold snB; rw [hG, b01_f c_79]; rfl, by rw [ht]; exact hP, hD⟩, hS.F ht⟩) hS.2.2 d_S_standsNext_115
      · refine lv_iload_n hx hb d_S_standsNext_82 rfl (lv_at hl 3 rfl) ?_
        refine lv_aload_n hx hb d_S_standsNext_83 rfl (lv_at hl 2 rfl) ?_
        refine va_get (D := D) (ci := 1) (v := .ref (ad 1)) (C := R_S) (T := F_S) (N := 15) hx hb htb u_S hown hK hP 7 rfl rfl 0 (by decide) (htb _ q83) (fun _ h9 => h9) rfl d_S_standsNext_84 ?_
        refine va_getN (D := D) (ci := 0) (v := .int (nI (P 0 0))) (C := R_P) (T := F_P) (N := 12) hx hb htb u_P hown hK hP 0 rfl rfl 0 (by decide) (hN.at q29 rfl rfl) (fun _ h9 => h9) rfl d_S_standsNext_87 ?_
        refine nr_iconst hx hb 1 d_S_standsNext_90 (by decide) ?_
        refine nr_isub hx hb (by omega) d_S_standsNext_91 ?_
        refine nr_icmp_lt (tgt := 110) hx hb (by omega) (by omega) d_S_standsNext_92 (by decide) (fun c_92 => ?_) (fun c_92 => ?_)
        · refine nr_iconst hx hb 1 d_S_standsNext_110 (by decide) ?_
          refine lv_goto (tgt := 115) hx hb d_S_standsNext_111 (by decide) ?_
          have hG : snG P S p1 d = true := by unfold snG; rw [b01_nz c_50, decide_eq_true c_68]; rfl
          have hfin : snS P S p1 d = sbS P (krS (snT S p1 d) p1 d (S 3 (d * 6 + p1))) p1 d (S 3 (d * 6 + p1)) := by unfold snS; rw [hG]; rfl
          rw [← hfin] at hP hD
          exact W.zret (v := (nI 1)) hx hb hr rfl (fun t ht hW => ⟨⟨_, (), rfl, by unfold snB; rw [hG, b01_nz c_79, decide_eq_true c_92]; rfl, by rw [ht]; exact hP, hD⟩, hS.F ht⟩) hS.2.2 d_S_standsNext_115
        · refine lv_aload_n hx hb d_S_standsNext_95 rfl (lv_at hl 2 rfl) ?_
          refine va_get (D := D) (ci := 1) (v := .ref (ad 1)) (C := R_S) (T := F_S) (N := 15) hx hb htb u_S hown hK hP 7 rfl rfl 0 (by decide) (htb _ q83) (fun _ h9 => h9) rfl d_S_standsNext_96 ?_
          refine lv_aload_n hx hb d_S_standsNext_99 rfl (lv_at hl 2 rfl) ?_
          refine va_get (D := D) (ci := 1) (v := .ref (ad 10)) (C := R_S) (T := F_S) (N := 15) hx hb htb u_S hown hK hP 7 rfl rfl 2 (by decide) (htb _ q86) (fun _ h9 => h9) rfl d_S_standsNext_100 ?_
          refine lv_iload_n hx hb d_S_standsNext_103 rfl (lv_at hl 4 rfl) ?_
          have hcur2 : ∀ k, (sbS P (krS (snT S p1 d) p1 d (S 3 (d * 6 + p1))) p1 d (S 3 (d * 6 + p1))) 2 k ≤ 3 := okS_2 (ok_sbS hP0 (ok_krS (ok_snT hS0 h3 hst) hp6 hd) hp hd)
          refine nr_calli (va_runVN (As := [.ref (ad 10), .int (nI d)]) (rest := []) ⟨hx, hb, hml, hown, hts⟩ (c_P_firstNeedUnmet l D ad ca P (ad 10) (ca 7) ((sbS P (krS (snT S p1 d) p1 d (S 3 (d * 6 + p1))) p1 d (S 3 (d * 6 + p1))) 2) hP0 hcur2 d (by omega)) ⟨va_cnB 2 hts (gTB q_P_firstNeedUnmet) rfl rfl rfl (hN.nw q509 rfl) (htb _ q2) hd_P_firstNeedUnmet ⟨Nat.le_of_ble_eq_true rfl, Nat.le_of_ble_eq_true rfl⟩, (htb _ q167), (htb _ sel_P_firstNeedUnmet)⟩ ⟨ro_blind, va_recv (hK.sub (tys' := []) [] rfl) hP (ci := 0) (q0 := 0) rfl rfl, ro_pre hN (hP.sub (ws' := (wPS ad ca P (ad 10) (ca 7) ((sbS P (krS (snT S p1 d) p1 d (S 3 (d * 6 + p1))) p1 d (S 3 (d * 6 + p1))) 2))) [0, 1, 2, 3, 4, 5, 6, 9] rfl) (hK.sub (tys' := (tPS ca (ca 7))) [0, 1, 2, 3, 4, 5, 7] rfl)⟩ rfl rfl hl.1 rfl (lv_room (Nat.le_of_ble_eq_true rfl)) d_S_standsNext_104 ⟨Nat.le_of_ble_eq_true rfl, Nat.le_of_ble_eq_true rfl⟩) (fun r_6 hr_6 => ?_)
          subst hr_6
          refine nr_if_ne (tgt := 114) hx hb (Nat.lt_of_le_of_lt (needUnmet_le _ _ _) (by decide)) d_S_standsNext_107 (by decide) (fun c_107 => ?_) (fun c_107 => ?_)
          · refine nr_iconst hx hb 0 d_S_standsNext_114 (by decide) ?_
            have hG : snG P S p1 d = true := by unfold snG; rw [b01_nz c_50, decide_eq_true c_68]; rfl
            have hfin : snS P S p1 d = sbS P (krS (snT S p1 d) p1 d (S 3 (d * 6 + p1))) p1 d (S 3 (d * 6 + p1)) := by unfold snS; rw [hG]; rfl
            rw [← hfin] at hP hD
            exact W.zret (v := (nI 0)) hx hb hr rfl (fun t ht hW => ⟨⟨_, (), rfl, by unfold snB; rw [hG, b01_nz c_79, decide_eq_false (show ¬ p1 < P 0 0 - 1 by omega), decide_eq_false c_107]; rfl, by rw [ht]; exact hP, hD⟩, hS.F ht⟩) hS.2.2 d_S_standsNext_115
          · refine nr_iconst hx hb 1 d_S_standsNext_110 (by decide) ?_
            refine lv_goto (tgt := 115) hx hb d_S_standsNext_111 (by decide) ?_
            have hG : snG P S p1 d = true := by unfold snG; rw [b01_nz c_50, decide_eq_true c_68]; rfl
            have hfin : snS P S p1 d = sbS P (krS (snT S p1 d) p1 d (S 3 (d * 6 + p1))) p1 d (S 3 (d * 6 + p1)) := by unfold snS; rw [hG]; rfl
            rw [← hfin] at hP hD
            exact W.zret (v := (nI 1)) hx hb hr rfl (fun t ht hW => ⟨⟨_, (), rfl, by unfold snB; rw [hG, b01_nz c_79, decide_eq_true c_107]; simp, by rw [ht]; exact hP, hD⟩, hS.F ht⟩) hS.2.2 d_S_standsNext_115
set_option maxHeartbeats 4000000 in
set_option maxRecDepth 100000 in
theorem c_S_keepTrial (l : Launch) (D : va_G) (ad : Nat → Nat) (ca : Nat → ClassId) (P S : Nat → Nat → Nat) (a : Nat) (cS : ClassId) (ro : Nat → Nat) (hP0 : okP P) (hS0 : okS S) (hro : ∀ k, ro k ≤ 3) (x : Nat) (sz : Nat) : Met l y_S_keepTrial w_S_keepTrial { frames := 1, cells := 0, slots := 0, locals := 18 } (rw_P [.ref (ad 2), .int (nI x)] D (wSP ad ca P S a cS ro) (tSP ca cS) sz) (rw_Qv (fun u : Unit => True) D (wSP ad ca P S a cS ro) (fun u => wSP ad ca P (ktS S x) a cS ro) sz) 0 0 (va_A (wSP ad ca P S a cS ro) sz) := by
  refine Met.ofW (cc := b_S_keepTrial) (maxL := 2) (ret := none) (by decide) rfl ?_
  intro p e s m args below meth c s₁ B hml hv
  obtain ⟨rfl, hsz, hN, hP, hK, hD0⟩ := hv
  have hx := B.exec
  have hb := B.bytes
  have hr := B.returns
  have hts := atoms_spec (ws := w_S_keepTrial) B.pre
  have htb : ∀ w ∈ TBG, w.before [.ref (ad 2), .int (nI x)].toArray s = true := fun w h => hts w (List.mem_cons_of_mem _ h)
  have hown : s.vm.findClass R_S = some m.cls := findClass_of_methodNamed B.named
  have hlocks := B.notSynchronized
  subst hsz
  have hD := hD0.self (sz := s.heap.size)
  unfold rw_Qv
  generalize hAe : va_A (wSP ad ca P S a cS ro) s.heap.size = A at hD ⊢
  have hA : ∀ q : Nat, s.heap.size ≤ q → A q := fun q h => by rw [← hAe]; exact Or.inr h
  have hS : va_S A s.heap s.heap [] := va_S.rf
  have hl := lv_entry ([.ref (ad 2), .int (nI x)]) (n := 2) (Nat.le_of_ble_eq_true rfl)
  rw [lg_entry_eq]
  generalize (lg_sl ([.ref (ad 2), .int (nI x)]) ++ List.replicate (2 - (lg_sl ([.ref (ad 2), .int (nI x)])).length) Slot.unset).toArray = ls at hl ⊢
  have hl : lv_has ls 2 [(0, .ref (ad 2)), (1, .int (nI x))] := hl
  refine nr_start hP hS (fun H locs hP hS => ?_)
  obtain ⟨h00, h01, h02, h03, h04, h05, hp1, hp2, hp3, hp4, hp5, hp6⟩ := id hP0
  obtain ⟨g00, g01, g02, g03, g04, g05, g06, hs1, hs2, hs3, hs4, hs5, hs6, hs7⟩ := id hS0
  refine lv_aload_n hx hb d_S_keepTrial_0 rfl (lv_at hl 0 rfl) ?_
  refine va_get (D := D) (ci := 1) (v := .ref (ad 10)) (C := R_S) (T := F_S) (N := 15) hx hb htb u_S hown hK hP 7 rfl rfl 2 (by decide) (htb _ q86) (fun _ h9 => h9) rfl d_S_keepTrial_1 ?_
  refine nr_iconst hx hb 0 d_S_keepTrial_4 (by decide) ?_
  refine lv_aload_n hx hb d_S_keepTrial_5 rfl (lv_at hl 0 rfl) ?_
  refine va_get (D := D) (ci := 1) (v := .ref (ad 9)) (C := R_S) (T := F_S) (N := 15) hx hb htb u_S hown hK hP 7 rfl rfl 1 (by decide) (htb _ q84) (fun _ h9 => h9) rfl d_S_keepTrial_6 ?_
  refine nr_iconst hx hb 0 d_S_keepTrial_9 (by decide) ?_
  refine nr_bipush hx hb 42 d_S_keepTrial_10 (by decide) ?_
  refine nr_copy hx hb (hml.trans hl.1.symm) hown (htb _ q471) (htb _ q235) (htb _ q234) (htb _ q12) hK hP hD hS 9 8 7 6 rfl rfl rfl rfl (Nat.le_of_ble_eq_true rfl) (Nat.le_of_ble_eq_true rfl) d_S_keepTrial_12 (fun H locs hP hD hS => ?_)
  have hP : va_P D cls (wSP ad ca P (upr S 1 (S 2)) a cS ro) H := hP
  have hD : va_D A (wSP ad ca P (upr S 1 (S 2)) a cS ro) := hD
  refine lv_aload_n hx hb d_S_keepTrial_15 rfl (lv_at hl 0 rfl) ?_
  refine lv_iload_n hx hb d_S_keepTrial_16 rfl (lv_at hl 1 rfl) ?_
  refine va_put (D := D) (ci := 1) (v := .int (nI x)) (ty := .int) (C := R_S) (T := F_S) (N := 15) hx hb htb u_S t_S t_S_ok n_S hown hK hP hD hS 7 rfl rfl 12 (by decide) (htb _ q98) (fun _ h9 => h9) rfl (by decide +kernel) rfl rfl (Nat.le_of_ble_eq_true rfl) d_S_keepTrial_17 (fun H locs hP hD hS => ?_)
  have hP : va_P D cls (wSP ad ca P (up2 (upr S 1 (S 2)) 0 4 x) a cS ro) H := hP
  have hD : va_D A (wSP ad ca P (up2 (upr S 1 (S 2)) 0 4 x) a cS ro) := hD
  refine lv_aload_n hx hb d_S_keepTrial_20 rfl (lv_at hl 0 rfl) ?_
  refine lv_dup hx hb d_S_keepTrial_21 rfl ?_
  refine va_get (D := D) (ci := 1) (v := .int (nI (S 0 3))) (C := R_S) (T := F_S) (N := 15) hx hb htb u_S hown hK hP 7 rfl rfl 11 (by decide) (htb _ q96) (fun _ h9 => h9) rfl d_S_keepTrial_22 ?_
  refine nr_iconst hx hb 1 d_S_keepTrial_25 (by decide) ?_
  refine nr_iadd hx hb d_S_keepTrial_26 ?_
  refine va_put (D := D) (ci := 1) (v := .int (nI ((S 0 3) + 1))) (ty := .int) (C := R_S) (T := F_S) (N := 15) hx hb htb u_S t_S t_S_ok n_S hown hK hP hD hS 7 rfl rfl 11 (by decide) (htb _ q96) (fun _ h9 => h9) rfl (by decide +kernel) rfl rfl (Nat.le_of_ble_eq_true rfl) d_S_keepTrial_27 (fun H locs hP hD hS => ?_)
  have hP : va_P D cls (wSP ad ca P (up2 (up2 (upr S 1 (S 2)) 0 4 x) 0 3 ((S 0 3) + 1)) a cS ro) H := hP
  have hD : va_D A (wSP ad ca P (up2 (up2 (upr S 1 (S 2)) 0 4 x) 0 3 ((S 0 3) + 1)) a cS ro) := hD
  have hfin : ktS S x = up2 (up2 (upr S 1 (S 2)) 0 4 x) 0 3 ((S 0 3) + 1) := rfl
  rw [← hfin] at hP hD
  exact W.vret hx hb hr (fun t ht hW => ⟨⟨(), rfl, trivial, by rw [ht]; exact hP, hD⟩, hS.F ht⟩) hS.2.2 d_S_keepTrial_30
set_option maxHeartbeats 4000000 in
set_option maxRecDepth 100000 in
theorem c_S_takeOnlyRoster (l : Launch) (D : va_G) (ad : Nat → Nat) (ca : Nat → ClassId) (P S : Nat → Nat → Nat) (a : Nat) (cS : ClassId) (ro : Nat → Nat) (hP0 : okP P) (hS0 : okS S) (hro : ∀ k, ro k ≤ 3) (sz : Nat) : Met l y_S_takeOnlyRoster w_S_takeOnlyRoster { frames := 4, cells := 0, slots := 0, locals := 93 } (rw_P [.ref (ad 2)] D (wSP ad ca P S a cS ro) (tSP ca cS) sz) (rw_Qv (fun u : Unit => True) D (wSP ad ca P S a cS ro) (fun u => wSP ad ca P (toS P S) a cS ro) sz) 0 0 (va_A (wSP ad ca P S a cS ro) sz) := by
  refine Met.ofW (cc := b_S_takeOnlyRoster) (maxL := 1) (ret := none) (by decide) rfl ?_
  intro p e s m args below meth c s₁ B hml hv
  obtain ⟨rfl, hsz, hN, hP, hK, hD0⟩ := hv
  have hx := B.exec
  have hb := B.bytes
  have hr := B.returns
  have hts := atoms_spec (ws := w_S_takeOnlyRoster) B.pre
  have htb : ∀ w ∈ TBG, w.before [.ref (ad 2)].toArray s = true := fun w h => hts w (List.mem_cons_of_mem _ h)
  have hown : s.vm.findClass R_S = some m.cls := findClass_of_methodNamed B.named
  have hlocks := B.notSynchronized
  subst hsz
  have hD := hD0.self (sz := s.heap.size)
  unfold rw_Qv
  generalize hAe : va_A (wSP ad ca P S a cS ro) s.heap.size = A at hD ⊢
  have hA : ∀ q : Nat, s.heap.size ≤ q → A q := fun q h => by rw [← hAe]; exact Or.inr h
  have hS : va_S A s.heap s.heap [] := va_S.rf
  have hl := lv_entry ([.ref (ad 2)]) (n := 1) (Nat.le_of_ble_eq_true rfl)
  rw [lg_entry_eq]
  generalize (lg_sl ([.ref (ad 2)]) ++ List.replicate (1 - (lg_sl ([.ref (ad 2)])).length) Slot.unset).toArray = ls at hl ⊢
  have hl : lv_has ls 1 [(0, .ref (ad 2))] := hl
  refine nr_start hP hS (fun H locs hP hS => ?_)
  obtain ⟨h00, h01, h02, h03, h04, h05, hp1, hp2, hp3, hp4, hp5, hp6⟩ := id hP0
  obtain ⟨g00, g01, g02, g03, g04, g05, g06, hs1, hs2, hs3, hs4, hs5, hs6, hs7⟩ := id hS0
  refine lv_aload_n hx hb d_S_takeOnlyRoster_0 rfl (lv_at hl 0 rfl) ?_
  refine va_get (D := D) (ci := 1) (v := .ref (ad 1)) (C := R_S) (T := F_S) (N := 15) hx hb htb u_S hown hK hP 7 rfl rfl 0 (by decide) (htb _ q83) (fun _ h9 => h9) rfl d_S_takeOnlyRoster_1 ?_
  refine lv_aload_n hx hb d_S_takeOnlyRoster_4 rfl (lv_at hl 0 rfl) ?_
  refine va_get (D := D) (ci := 1) (v := .ref (ad 10)) (C := R_S) (T := F_S) (N := 15) hx hb htb u_S hown hK hP 7 rfl rfl 2 (by decide) (htb _ q86) (fun _ h9 => h9) rfl d_S_takeOnlyRoster_5 ?_
  have hcur2 : ∀ k, S 2 k ≤ 3 := okS_2 hS0
  refine nr_calli (va_runVN (As := [.ref (ad 10)]) (rest := []) ⟨hx, hb, hml, hown, hts⟩ (c_P_firstNeedFault l D ad ca P (ad 10) (ca 7) (S 2) hP0 hcur2 ) ⟨va_cnB 1 hts (gTB q_P_firstNeedFault) rfl rfl rfl (hN.nw q476 rfl) (htb _ q2) hd_P_firstNeedFault ⟨Nat.le_of_ble_eq_true rfl, Nat.le_of_ble_eq_true rfl⟩, (htb _ q163), (htb _ sel_P_firstNeedFault)⟩ ⟨ro_blind, va_recv (hK.sub (tys' := []) [] rfl) hP (ci := 0) (q0 := 0) rfl rfl, ro_pre hN (hP.sub (ws' := (wPS ad ca P (ad 10) (ca 7) (S 2))) [0, 1, 2, 3, 4, 5, 6, 9] rfl) (hK.sub (tys' := (tPS ca (ca 7))) [0, 1, 2, 3, 4, 5, 7] rfl)⟩ rfl rfl hl.1 rfl (lv_room (Nat.le_of_ble_eq_true rfl)) d_S_takeOnlyRoster_8 ⟨Nat.le_of_ble_eq_true rfl, Nat.le_of_ble_eq_true rfl⟩) (fun r_1 hr_1 => ?_)
  subst hr_1
  refine nr_if_ne (tgt := 19) hx hb (Nat.lt_of_le_of_lt (needFault_le _ h01) (by decide)) d_S_takeOnlyRoster_11 (by decide) (fun c_11 => ?_) (fun c_11 => ?_)
  · have hfin : toS P S = S := by unfold toS; rw [if_neg c_11]
    rw [← hfin] at hP hD
    exact W.vret hx hb hr (fun t ht hW => ⟨⟨(), rfl, trivial, by rw [ht]; exact hP, hD⟩, hS.F ht⟩) hS.2.2 d_S_takeOnlyRoster_19
  · refine lv_aload_n hx hb d_S_takeOnlyRoster_14 rfl (lv_at hl 0 rfl) ?_
    refine nr_iconst hx hb 0 d_S_takeOnlyRoster_15 (by decide) ?_
    refine nr_callv (wr := ([] : va_W)) (va_runV (As := [.int (nI 0)]) (rest := []) ⟨hx, hb, hml, hown, hts⟩ (c_S_keepTrial l D ad ca P S a cS ro hP0 hS0 hro 0 H.size) ⟨callB_of 1 hts (gTB q_S_keepTrial) rfl rfl rfl (htb _ q3) (htb _ q477) hd_S_keepTrial ⟨Nat.le_of_ble_eq_true rfl, Nat.le_of_ble_eq_true rfl⟩, (htb _ q479), (htb _ sel_S_keepTrial)⟩ ⟨rw_blind, va_recv (hK.sub (tys' := []) [] rfl) hP (ci := 1) (q0 := 7) rfl rfl, rw_pre hN (hP.sub (ws' := (wSP ad ca P S a cS ro)) [0, 1, 2, 3, 4, 5, 6, 7, 8, 9, 10, 11, 12, 13, 14, 15] rfl) (hK.sub (tys' := (tSP ca cS)) [0, 1, 2, 3, 4, 5, 6, 7, 8, 9, 10, 11, 12, 13] rfl) (hD.sub (ws' := (wSP ad ca P S a cS ro)) [0, 1, 2, 3, 4, 5, 6, 7, 8, 9, 10, 11, 12, 13, 14, 15] (by decide) rfl)⟩ rfl rfl hl.1 rfl (lv_room (Nat.le_of_ble_eq_true rfl)) d_S_takeOnlyRoster_16 ⟨Nat.le_of_ble_eq_true rfl, Nat.le_of_ble_eq_true rfl⟩) hP hD hS hA [0, 1, 2, 3, 4, 5, 6, 7, 8, 9, 10, 11, 12, 13, 14, 15] [] rfl rfl (by decide) (by decide) (fun u_2 H locs hu_2 hP hD hS => ?_)
    replace hP := hP.sub (ws' := wSP ad ca P (ktS S 0) a cS ro) [0, 1, 2, 3, 4, 5, 6, 7, 8, 9, 10, 11, 12, 13, 14, 15] rfl
    replace hD := hD.sub (ws' := wSP ad ca P (ktS S 0) a cS ro) [0, 1, 2, 3, 4, 5, 6, 7, 8, 9, 10, 11, 12, 13, 14, 15] (by decide) rfl
    have hfin : toS P S = ktS S 0 := by unfold toS; rw [if_pos c_11]
    rw [← hfin] at hP hD
    exact W.vret hx hb hr (fun t ht hW => ⟨⟨(), rfl, trivial, by rw [ht]; exact hP, hD⟩, hS.F ht⟩) hS.2.2 d_S_takeOnlyRoster_19
end
section
/-! The search over naturals, a turn a step: day d, person p, the next shift nx (of a frozen day: 0 before its one try, then 1), steps st, right ones rt, the least unmet sum le, the tried shifts tr, the best be. -/
def cnt (tr : Nat → Nat) (p : Nat) : Nat → Nat
  | 0 => 0
  | k + 1 => cnt tr p k + (if tr (k * 6 + p) = 0 then 0 else 1)
def run (tr : Nat → Nat) (p : Nat) : Nat → Nat
  | 0 => 0
  | k + 1 => if tr (k * 6 + p) = 3 then run tr p k + 1 else 0
def hadT (tr : Nat → Nat) (p d : Nat) : Nat := if d = 0 then 0 else tr ((d - 1) * 6 + p)
def rowS (P : Nat → Nat → Nat) (tr : Nat → Nat) (d : Nat) : Nat → Nat
  | 0 => 0
  | k + 1 => rowS P tr d k + P 6 ((d * 6 + k) * 4 + tr (d * 6 + k))
def daysS (P : Nat → Nat → Nat) (tr : Nat → Nat) : Nat → Nat
  | 0 => 0
  | k + 1 => daysS P tr k + rowS P tr k (P 0 0)
def unm (P : Nat → Nat → Nat) (tr : Nat → Nat) (d p : Nat) : Nat := daysS P tr d + rowS P tr d (p + 1)
def gu (P : Nat → Nat → Nat) (tr : Nat → Nat) (d p rt le : Nat) : Bool :=
  decide (breaks P (hadT tr p d) (tr (d * 6 + p)) = true ∨ P 0 3 < cnt tr p (d + 1) ∨ P 0 4 < run tr p (d + 1) ∨ P 5 ((d * 6 + p) * 4 + tr (d * 6 + p)) ≠ 0 ∨ (p = P 0 0 - 1 ∧ needUnmet P tr d ≠ 0) ∨ (0 < rt ∧ le ≤ unm P tr d p))
def nxt (fz : Nat) (tr : Nat → Nat) (d p : Nat) : Nat := if d < fz then 1 else tr (d * 6 + p) + 1
def srch (P : Nat → Nat → Nat) (ro : Nat → Nat) (fz lim : Nat) : Nat → Nat → Nat → Nat → Nat → Nat → Nat → (Nat → Nat) → (Nat → Nat) → Nat × Nat × Nat × Nat × (Nat → Nat)
  | 0, _, _, _, st, rt, le, _, be => (0, st, rt, le, be)
  | k + 1, d, p, nx, st, rt, le, tr, be =>
    if (if d < fz then 0 < nx else 3 < nx) then
      if p = 0 then (if d = 0 then (0, st, rt, le, be) else srch P ro fz lim k (d - 1) (P 0 0 - 1) (nxt fz tr (d - 1) (P 0 0 - 1)) st rt le tr be)
      else srch P ro fz lim k d (p - 1) (nxt fz tr d (p - 1)) st rt le tr be
    else if st = lim then (1, st, rt, le, be)
    else if gu P (up1 tr (d * 6 + p) (if d < fz then ro (d * 6 + p) else nx)) d p rt le = true then
      srch P ro fz lim k d p (if d < fz then 1 else nx + 1) (st + 1) rt le (up1 tr (d * 6 + p) (if d < fz then ro (d * 6 + p) else nx)) be
    else if p = P 0 0 - 1 then
      (if d = P 0 1 - 1 then srch P ro fz lim k d p (if d < fz then 1 else nx + 1) (st + 1) (rt + 1) (unm P (up1 tr (d * 6 + p) (if d < fz then ro (d * 6 + p) else nx)) d p) (up1 tr (d * 6 + p) (if d < fz then ro (d * 6 + p) else nx)) (up1 tr (d * 6 + p) (if d < fz then ro (d * 6 + p) else nx))
      else srch P ro fz lim k (d + 1) 0 0 (st + 1) rt le (up1 tr (d * 6 + p) (if d < fz then ro (d * 6 + p) else nx)) be)
    else srch P ro fz lim k d (p + 1) 0 (st + 1) rt le (up1 tr (d * 6 + p) (if d < fz then ro (d * 6 + p) else nx)) be
/-- the search's memory S and the search over naturals go together -/
def Sim (P : Nat → Nat → Nat) (ro : Nat → Nat) (fz lim : Nat) (S : Nat → Nat → Nat) (d p nx st rt le : Nat) (tr be : Nat → Nat) : Prop :=
  okS S ∧ S 0 0 = lim ∧ S 0 1 = fz ∧ S 0 2 = st ∧ S 0 3 = rt ∧ S 0 5 = 0 ∧ (rt = 0 → S 0 4 = 2001) ∧ (0 < rt → S 0 4 = le ∧ S 1 = be) ∧ p < P 0 0 ∧ d < P 0 1 ∧ st ≤ lim ∧ rt ≤ st ∧
  (∀ k, ¬ (k % 6 < P 0 0 ∧ k / 6 < P 0 1) → S 2 k = 0 ∧ tr k = 0) ∧
  (∀ e q, q < P 0 0 → (e < d ∨ (e = d ∧ q < p)) → S 2 (e * 6 + q) = tr (e * 6 + q) ∧ S 3 (e * 6 + q) = tr (e * 6 + q) + 1 ∧ S 4 (e * 6 + q) = (if e < fz then ro (e * 6 + q) else 3) ∧ (e < fz → tr (e * 6 + q) = ro (e * 6 + q)) ∧ S 5 (e * 6 + q) = cnt tr q (e + 1) ∧ S 6 (e * 6 + q) = run tr q (e + 1) ∧ S 7 (e * 6 + q) = unm P tr e q) ∧
  S 4 (d * 6 + p) = (if d < fz then ro (d * 6 + p) else 3) ∧ S 3 (d * 6 + p) = (if d < fz then ro (d * 6 + p) + nx else nx) ∧ nx ≤ 4 ∧ (∀ k, tr k ≤ 3)
theorem mul_pred {d n : Nat} (h : 0 < d) : d * n = (d - 1) * n + n := by
  cases d with
  | zero => omega
  | succ d => simp [Nat.add_mul]
end
section
section SIM
variable {P : Nat → Nat → Nat} {ro : Nat → Nat} {fz lim : Nat} {S : Nat → Nat → Nat} {d p nx st rt le : Nat} {tr be : Nat → Nat}
theorem sim_ex (h : Sim P ro fz lim S d p nx st rt le tr be) : S 4 (d * 6 + p) < S 3 (d * 6 + p) ↔ (if d < fz then 0 < nx else 3 < nx) := by
  obtain ⟨-, -, -, -, -, -, -, -, -, -, -, -, -, -, e4, e3, -, -⟩ := h
  rw [e4, e3]
  split <;> omega
theorem sim_start (h0 : okP P) (hS : okS S) (hp : 0 < P 0 0) (hd : 0 < P 0 1) (h2 : S 2 = ro) (h02 : S 0 2 = 0) (h03 : S 0 3 = 0) (h04 : S 0 4 = 2001) (h05 : S 0 5 = 0) (hro : ∀ k, ro k ≤ 3) (hout : ∀ k, ¬ (k % 6 < P 0 0 ∧ k / 6 < P 0 1) → ro k = 0) : Sim P ro (S 0 1) (S 0 0) (openS S ro 0 0) 0 0 0 0 0 0 (fun _ => 0) (fun _ => 0) := by
  sorry
theorem sim_back (h : Sim P ro fz lim S d p nx st rt le tr be) (hp : p ≠ 0) : Sim P ro fz lim S d (p - 1) (nxt fz tr d (p - 1)) st rt le tr be := by
  sorry
theorem sim_backd (h : Sim P ro fz lim S d p nx st rt le tr be) (hp : p = 0) (hd : 0 < d) : Sim P ro fz lim S (d - 1) (P 0 0 - 1) (nxt fz tr (d - 1) (P 0 0 - 1)) st rt le tr be := by
  sorry
theorem sim_gu (h0 : okP P) (hro : ∀ k, ro k ≤ 3) (h : Sim P ro fz lim S d p nx st rt le tr be) (hx : ¬ (if d < fz then 0 < nx else 3 < nx)) : (snB P S p d = true) ↔ ¬ gu P (up1 tr (d * 6 + p) (if d < fz then ro (d * 6 + p) else nx)) d p rt le = true := by
  sorry
theorem sim_fail (h0 : okP P) (hro : ∀ k, ro k ≤ 3) (h : Sim P ro fz lim S d p nx st rt le tr be) (hx : ¬ (if d < fz then 0 < nx else 3 < nx)) (hst : st < lim) : Sim P ro fz lim (snS P S p d) d p (if d < fz then 1 else nx + 1) (st + 1) rt le (up1 tr (d * 6 + p) (if d < fz then ro (d * 6 + p) else nx)) be := by
  sorry
theorem sim_keep (h0 : okP P) (hro : ∀ k, ro k ≤ 3) (h : Sim P ro fz lim S d p nx st rt le tr be) (hx : ¬ (if d < fz then 0 < nx else 3 < nx)) (hst : st < lim) (hb : snB P S p d = true) (hp : p = P 0 0 - 1) (hd : d = P 0 1 - 1) : Sim P ro fz lim (ktS (snS P S p d) (snS P S p d 7 (d * 6 + p))) d p (if d < fz then 1 else nx + 1) (st + 1) (rt + 1) (unm P (up1 tr (d * 6 + p) (if d < fz then ro (d * 6 + p) else nx)) d p) (up1 tr (d * 6 + p) (if d < fz then ro (d * 6 + p) else nx)) (up1 tr (d * 6 + p) (if d < fz then ro (d * 6 + p) else nx)) := by
  sorry
theorem sim_next (h0 : okP P) (hro : ∀ k, ro k ≤ 3) (h : Sim P ro fz lim S d p nx st rt le tr be) (hx : ¬ (if d < fz then 0 < nx else 3 < nx)) (hst : st < lim) (hb : snB P S p d = true) (hp : p ≠ P 0 0 - 1) : Sim P ro fz lim (openS (snS P S p d) ro (p + 1) d) d (p + 1) 0 (st + 1) rt le (up1 tr (d * 6 + p) (if d < fz then ro (d * 6 + p) else nx)) be := by
  sorry
theorem sim_nextd (h0 : okP P) (hro : ∀ k, ro k ≤ 3) (h : Sim P ro fz lim S d p nx st rt le tr be) (hx : ¬ (if d < fz then 0 < nx else 3 < nx)) (hst : st < lim) (hb : snB P S p d = true) (hp : p = P 0 0 - 1) (hd : d ≠ P 0 1 - 1) : Sim P ro fz lim (openS (snS P S p d) ro 0 (d + 1)) (d + 1) 0 0 (st + 1) rt le (up1 tr (d * 6 + p) (if d < fz then ro (d * 6 + p) else nx)) be := by
  sorry
end SIM
/-- what is known of S behind the search -/
def goneS (S : Nat → Nat → Nat) (F : Nat × Nat × Nat × Nat × (Nat → Nat)) : Prop := okS S ∧ S 0 5 = F.1 ∧ S 0 2 = F.2.1 ∧ S 0 3 = F.2.2.1 ∧ (0 < F.2.2.1 → S 0 4 = F.2.2.2.1 ∧ S 1 = F.2.2.2.2)
theorem ok_openS {S : Nat → Nat → Nat} {ro : Nat → Nat} {p d : Nat} (h : okS S) (hro : ∀ k, ro k ≤ 3) : okS (openS S ro p d) := by
  sorry
theorem ok_ktS {S : Nat → Nat → Nat} {x : Nat} (h : okS S) (h3 : S 0 3 < 40000) (hx : x ≤ 100000) : okS (ktS S x) := by
  sorry
theorem ok_snS {P S : Nat → Nat → Nat} {p d : Nat} (hP : okP P) (h : okS S) (hp : p < P 0 0) (hd : d < 7) (h3 : S 3 (d * 6 + p) ≤ 3) (hst : S 0 2 < 20000) : okS (snS P S p d) := by
  sorry
end
section
set_option maxHeartbeats 4000000 in
set_option maxRecDepth 100000 in
theorem c_S_goThrough (l : Launch) (D : va_G) (ad : Nat → Nat) (ca : Nat → ClassId) (P S : Nat → Nat → Nat) (a : Nat) (cS : ClassId) (ro : Nat → Nat) (hP0 : okP P) (hS0 : okS S) (hro : ∀ k, ro k ≤ 3) (hn : 0 < P 0 0) (hdd : 0 < P 0 1) (h2 : S 2 = ro) (z02 : S 0 2 = 0) (z03 : S 0 3 = 0) (z04 : S 0 4 = 2001) (h05z : S 0 5 = 0) (hout : ∀ k, ¬ (k % 6 < P 0 0 ∧ k / 6 < P 0 1) → ro k = 0) (sz : Nat) : Met l y_S_goThrough w_S_goThrough { frames := 4, cells := 0, slots := 0, locals := 95 } (rw_P [.ref (ad 2), .ref a] D (wSP ad ca P S a cS ro) (tSP ca cS) sz) (rw_Qv (fun u : Nat → Nat → Nat => goneS u (srch P ro (S 0 1) (S 0 0) 40002 0 0 0 0 0 0 (fun _ => 0) (fun _ => 0))) D (wSP ad ca P S a cS ro) (fun u => wSP ad ca P u a cS ro) sz) 0 0 (va_A (wSP ad ca P S a cS ro) sz) := by
  refine Met.ofW (cc := b_S_goThrough) (maxL := 7) (ret := none) (by decide) rfl ?_
  intro p e s m args below meth c s₁ B hml hv
  obtain ⟨rfl, hsz, hN, hP, hK, hD0⟩ := hv
  have hx := B.exec
  have hb := B.bytes
  have hr := B.returns
  have hts := atoms_spec (ws := w_S_goThrough) B.pre
  have htb : ∀ w ∈ TBG, w.before [.ref (ad 2), .ref a].toArray s = true := fun w h => hts w (List.mem_cons_of_mem _ h)
  have hown : s.vm.findClass R_S = some m.cls := findClass_of_methodNamed B.named
  have hlocks := B.notSynchronized
  subst hsz
  have hD := hD0.self (sz := s.heap.size)
  unfold rw_Qv
  generalize hAe : va_A (wSP ad ca P S a cS ro) s.heap.size = A at hD ⊢
  have hA : ∀ q : Nat, s.heap.size ≤ q → A q := fun q h => by rw [← hAe]; exact Or.inr h
  have hS : va_S A s.heap s.heap [] := va_S.rf
  have hl := lv_entry ([.ref (ad 2), .ref a]) (n := 7) (Nat.le_of_ble_eq_true rfl)
  rw [lg_entry_eq]
  generalize (lg_sl ([.ref (ad 2), .ref a]) ++ List.replicate (7 - (lg_sl ([.ref (ad 2), .ref a])).length) Slot.unset).toArray = ls at hl ⊢
  have hl : lv_has ls 7 [(0, .ref (ad 2)), (1, .ref a)] := hl
  refine nr_start hP hS (fun H locs hP hS => ?_)
  obtain ⟨h00, h01, h02, h03, h04, h05, hp1, hp2, hp3, hp4, hp5, hp6⟩ := id hP0
  obtain ⟨g00, g01, g02, g03, g04, g05, g06, hs1, hs2, hs3, hs4, hs5, hs6, hs7⟩ := id hS0
  refine nr_iconst hx hb 0 d_S_goThrough_0 (by decide) ?_
  refine lv_istore_n (lv' := [(2, .int (nI 0)), (0, .ref (ad 2)), (1, .ref a)]) hx hb d_S_goThrough_1 rfl hl (by decide) rfl (fun ls hl => ?_)
  refine nr_iconst hx hb 0 d_S_goThrough_2 (by decide) ?_
  refine lv_istore_n (lv' := [(3, .int (nI 0)), (2, .int (nI 0)), (0, .ref (ad 2)), (1, .ref a)]) hx hb d_S_goThrough_3 rfl hl (by decide) rfl (fun ls hl => ?_)
  refine lv_aload_n hx hb d_S_goThrough_4 rfl (lv_at hl 2 rfl) ?_
  refine lv_aload_n hx hb d_S_goThrough_5 rfl (lv_at hl 3 rfl) ?_
  refine lv_iload_n hx hb d_S_goThrough_6 rfl (lv_at hl 0 rfl) ?_
  refine lv_iload_n hx hb d_S_goThrough_7 rfl (lv_at hl 1 rfl) ?_
  refine nr_callv (wr := ([] : va_W)) (va_runV (As := [.ref a, .int (nI 0), .int (nI 0)]) (rest := []) ⟨hx, hb, hml, hown, hts⟩ (c_S_open l D ad ca P S a cS ro hP0 hS0 hro 0 0 (by omega) (by omega) H.size) ⟨callB_of 3 hts (gTB q_S_open) rfl rfl rfl (htb _ q3) (htb _ q485) hd_S_open ⟨Nat.le_of_ble_eq_true rfl, Nat.le_of_ble_eq_true rfl⟩, (htb _ q487), (htb _ sel_S_open)⟩ ⟨rw_blind, va_recv (hK.sub (tys' := []) [] rfl) hP (ci := 1) (q0 := 7) rfl rfl, rw_pre hN (hP.sub (ws' := (wSP ad ca P S a cS ro)) [0, 1, 2, 3, 4, 5, 6, 7, 8, 9, 10, 11, 12, 13, 14, 15] rfl) (hK.sub (tys' := (tSP ca cS)) [0, 1, 2, 3, 4, 5, 6, 7, 8, 9, 10, 11, 12, 13] rfl) (hD.sub (ws' := (wSP ad ca P S a cS ro)) [0, 1, 2, 3, 4, 5, 6, 7, 8, 9, 10, 11, 12, 13, 14, 15] (by decide) rfl)⟩ rfl rfl hl.1 rfl (lv_room (Nat.le_of_ble_eq_true rfl)) d_S_goThrough_8 ⟨Nat.le_of_ble_eq_true rfl, Nat.le_of_ble_eq_true rfl⟩) hP hD hS hA [0, 1, 2, 3, 4, 5, 6, 7, 8, 9, 10, 11, 12, 13, 14, 15] [] rfl rfl (by decide) (by decide) (fun u_1 H locs hu_1 hP hD hS => ?_)
  replace hP := hP.sub (ws' := wSP ad ca P (openS S ro 0 0) a cS ro) [0, 1, 2, 3, 4, 5, 6, 7, 8, 9, 10, 11, 12, 13, 14, 15] rfl
  replace hD := hD.sub (ws' := wSP ad ca P (openS S ro 0 0) a cS ro) [0, 1, 2, 3, 4, 5, 6, 7, 8, 9, 10, 11, 12, 13, 14, 15] (by decide) rfl
  refine nr_iconst hx hb 0 d_S_goThrough_11 (by decide) ?_
  refine lv_istore (lv' := [(4, .int (nI 0)), (3, .int (nI 0)), (2, .int (nI 0)), (0, .ref (ad 2)), (1, .ref a)]) hx hb d_S_goThrough_12 hl (by decide) rfl (fun ls hl => ?_)
  replace hP : ∃ (k t d p1 nx st rt le : Nat) (tr : Nat → Nat) (be : Nat → Nat) (S1 : Nat → Nat → Nat), (Sim P ro (S 0 1) (S 0 0) S1 d p1 nx st rt le tr be) ∧ (2 * (S 0 0 - st) + (d * P 0 0 + p1) + 2 ≤ k) ∧ (t + k ≤ 40002) ∧ (srch P ro (S 0 1) (S 0 0) k d p1 nx st rt le tr be = srch P ro (S 0 1) (S 0 0) 40002 0 0 0 0 0 0 (fun _ => 0) (fun _ => 0)) ∧ lv_has ls 7 [(0, .ref (ad 2)), (1, .ref a), (2, .int (nI d)), (3, .int (nI p1)), (4, .int (nI t))] ∧ va_P D cls (wSP ad ca P S1 a cS ro) H ∧ va_D A (wSP ad ca P S1 a cS ro) ∧ va_S A s.heap H locs := ⟨40002, 0, 0, 0, 0, 0, 0, 0, fun _ => 0, fun _ => 0, openS S ro 0 0, sim_start hP0 hS0 hn hdd h2 z02 z03 z04 h05z hro hout, (by omega), (by omega), rfl, lv_sub hl [3, 4, 2, 1, 0] rfl, hP, hD, hS⟩
  clear hl hD hS
  obtain ⟨k, t, d, p1, nx, st, rt, le, tr, be, S1, hsim, hfu, htk, hres, hl, hP, hD, hS⟩ := hP
  induction k generalizing t d p1 nx st rt le tr be S1 ls H locs with
  | zero => exfalso; omega
  | succ k ih_14 =>
    obtain ⟨hok, x00, x01, x02, x03, x05, x4a, x4b, hpn, hdn, hsl, hrs, -, -, x4, x3, hnx, htr⟩ := id hsim
    obtain ⟨g00, g01, g02, g03, g04, g05, g06, hs1, hs2, hs3, hs4, hs5, hs6, hs7⟩ := id hok
    refine lv_iload hx hb d_S_goThrough_14 (lv_at hl 4 rfl) ?_
    refine lv_ldc (v := nI 40002) hx hb hown (htb _ q490) d_S_goThrough_16 ?_
    refine nr_icmp_ge (tgt := 210) hx hb (by omega) (by omega) d_S_goThrough_18 (by decide) (fun c_18 => by exfalso; omega) (fun c_18 => ?_)
    refine lv_iload_n hx hb d_S_goThrough_21 rfl (lv_at hl 2 rfl) ?_
    refine nr_if_lt (tgt := 210) hx hb (by omega) d_S_goThrough_22 (by decide) (fun c_22 => c_22.elim) (fun c_22 => ?_)
    refine lv_aload_n hx hb d_S_goThrough_25 rfl (lv_at hl 0 rfl) ?_
    refine va_get (D := D) (ci := 1) (v := .int (nI (S1 0 5))) (C := R_S) (T := F_S) (N := 15) hx hb htb u_S hown hK hP 7 rfl rfl 13 (by decide) (htb _ q100) (fun _ h9 => h9) rfl d_S_goThrough_26 ?_
    refine nr_if_ne (tgt := 210) hx hb (by omega) d_S_goThrough_29 (by decide) (fun c_29 => by exfalso; omega) (fun c_29 => ?_)
    refine lv_iload_n hx hb d_S_goThrough_32 rfl (lv_at hl 3 rfl) ?_
    refine lv_iload_n hx hb d_S_goThrough_33 rfl (lv_at hl 2 rfl) ?_
    refine nr_calli (va_runSN (As := [.int (nI p1), .int (nI d)]) (rest := []) ⟨hx, hb, hml, hown, hts⟩ (c_R_cell l D p1 d) ⟨va_cnB 2 hts (gTB q_R_cell) rfl rfl rfl (hN.nw q489 rfl) (htb _ q1) hd_R_cell ⟨Nat.le_of_ble_eq_true rfl, Nat.le_of_ble_eq_true rfl⟩, (htb _ q174), trivial⟩ ⟨ro_blind, ro_pre hN (hP.sub (ws' := []) [] rfl) (hK.sub (tys' := []) [] rfl)⟩ rfl rfl hl.1 rfl (lv_room (Nat.le_of_ble_eq_true rfl)) d_S_goThrough_34 ⟨Nat.le_of_ble_eq_true rfl, Nat.le_of_ble_eq_true rfl⟩) (fun r_2 hr_2 => ?_)
    subst hr_2
    refine lv_istore (lv' := [(5, .int (nI (d * 6 + p1))), (0, .ref (ad 2)), (1, .ref a), (2, .int (nI d)), (3, .int (nI p1)), (4, .int (nI t))]) hx hb d_S_goThrough_37 hl (by decide) rfl (fun ls hl => ?_)
    refine lv_iload_n hx hb d_S_goThrough_39 rfl (lv_at hl 4 rfl) ?_
    refine lv_aload_n hx hb d_S_goThrough_40 rfl (lv_at hl 1 rfl) ?_
    refine va_get (D := D) (ci := 1) (v := .ref (ad 1)) (C := R_S) (T := F_S) (N := 15) hx hb htb u_S hown hK hP 7 rfl rfl 0 (by decide) (htb _ q83) (fun _ h9 => h9) rfl d_S_goThrough_41 ?_
    refine va_getN (D := D) (ci := 0) (v := .int (nI (P 0 0))) (C := R_P) (T := F_P) (N := 12) hx hb htb u_P hown hK hP 0 rfl rfl 0 (by decide) (hN.at q29 rfl rfl) (fun _ h9 => h9) rfl d_S_goThrough_44 ?_
    refine nr_iconst hx hb 1 d_S_goThrough_47 (by decide) ?_
    refine nr_isub hx hb (by omega) d_S_goThrough_48 ?_
    refine nr_icmp_ne (tgt := 56) hx hb (by omega) (by omega) d_S_goThrough_49 (by decide) (fun c_49 => ?_) (fun c_49 => ?_)
    · refine nr_iconst hx hb 0 d_S_goThrough_56 (by decide) ?_
      refine lv_istore (lv' := [(6, .int (nI 0)), (5, .int (nI (d * 6 + p1))), (0, .ref (ad 2)), (1, .ref a), (2, .int (nI d)), (3, .int (nI p1)), (4, .int (nI t))]) hx hb d_S_goThrough_57 hl (by decide) rfl (fun ls hl => ?_)
      refine lv_aload_n hx hb d_S_goThrough_59 rfl (lv_at hl 2 rfl) ?_
      refine va_get (D := D) (ci := 1) (v := .ref (ad 11)) (C := R_S) (T := F_S) (N := 15) hx hb htb u_S hown hK hP 7 rfl rfl 3 (by decide) (htb _ q87) (fun _ h9 => h9) rfl d_S_goThrough_60 ?_
      refine lv_iload hx hb d_S_goThrough_63 (lv_at hl 1 rfl) ?_
      refine nr_iald hx hb hK hP 10 8 rfl rfl (by omega) (by decide) d_S_goThrough_65 ?_
      have hv_3 := hs3 (d * 6 + p1)
      refine lv_aload_n hx hb d_S_goThrough_66 rfl (lv_at hl 2 rfl) ?_
      refine va_get (D := D) (ci := 1) (v := .ref (ad 12)) (C := R_S) (T := F_S) (N := 15) hx hb htb u_S hown hK hP 7 rfl rfl 4 (by decide) (htb _ q88) (fun _ h9 => h9) rfl d_S_goThrough_67 ?_
      refine lv_iload hx hb d_S_goThrough_70 (lv_at hl 1 rfl) ?_
      refine nr_iald hx hb hK hP 11 9 rfl rfl (by omega) (by decide) d_S_goThrough_72 ?_
      have hv_4 := hs4 (d * 6 + p1)
      refine nr_icmp_le (tgt := 111) hx hb (by omega) (by omega) d_S_goThrough_73 (by decide) (fun c_73 => ?_) (fun c_73 => ?_)
      · refine lv_aload_n hx hb d_S_goThrough_111 rfl (lv_at hl 2 rfl) ?_
        refine va_get (D := D) (ci := 1) (v := .int (nI (S1 0 2))) (C := R_S) (T := F_S) (N := 15) hx hb htb u_S hown hK hP 7 rfl rfl 10 (by decide) (htb _ q94) (fun _ h9 => h9) rfl d_S_goThrough_112 ?_
        refine lv_aload_n hx hb d_S_goThrough_115 rfl (lv_at hl 2 rfl) ?_
        refine va_get (D := D) (ci := 1) (v := .int (nI (S1 0 0))) (C := R_S) (T := F_S) (N := 15) hx hb htb u_S hown hK hP 7 rfl rfl 8 (by decide) (htb _ q92) (fun _ h9 => h9) rfl d_S_goThrough_116 ?_
        refine nr_icmp_lt (tgt := 130) hx hb (by omega) (by omega) d_S_goThrough_119 (by decide) (fun c_119 => ?_) (fun c_119 => ?_)
        · refine lv_aload_n hx hb d_S_goThrough_130 rfl (lv_at hl 2 rfl) ?_
          refine lv_iload_n hx hb d_S_goThrough_131 rfl (lv_at hl 5 rfl) ?_
          refine lv_iload_n hx hb d_S_goThrough_132 rfl (lv_at hl 4 rfl) ?_
          have hcurS : okS S1 := hok
          refine nr_callwi (wr := ([] : va_W)) (va_runV (As := [.int (nI p1), .int (nI d)]) (rest := []) ⟨hx, hb, hml, hown, hts⟩ (c_S_standsNext l D ad ca P S1 a cS ro hP0 hcurS hro p1 d (by omega) (by omega) (by omega) (by omega) H.size) ⟨callB_of 2 hts (gTB q_S_standsNext) rfl rfl rfl (htb _ q3) (htb _ q491) hd_S_standsNext ⟨Nat.le_of_ble_eq_true rfl, Nat.le_of_ble_eq_true rfl⟩, (htb _ q493), (htb _ sel_S_standsNext)⟩ ⟨rw_blind, va_recv (hK.sub (tys' := []) [] rfl) hP (ci := 1) (q0 := 7) rfl rfl, rw_pre hN (hP.sub (ws' := (wSP ad ca P S1 a cS ro)) [0, 1, 2, 3, 4, 5, 6, 7, 8, 9, 10, 11, 12, 13, 14, 15] rfl) (hK.sub (tys' := (tSP ca cS)) [0, 1, 2, 3, 4, 5, 6, 7, 8, 9, 10, 11, 12, 13] rfl) (hD.sub (ws' := (wSP ad ca P S1 a cS ro)) [0, 1, 2, 3, 4, 5, 6, 7, 8, 9, 10, 11, 12, 13, 14, 15] (by decide) rfl)⟩ rfl rfl hl.1 rfl (lv_room (Nat.le_of_ble_eq_true rfl)) d_S_goThrough_133 ⟨Nat.le_of_ble_eq_true rfl, Nat.le_of_ble_eq_true rfl⟩) hP hD hS hA [0, 1, 2, 3, 4, 5, 6, 7, 8, 9, 10, 11, 12, 13, 14, 15] [] rfl rfl (by decide) (by decide) (fun r_5 u_5 H locs hr_5 hP hD hS => ?_)
          subst hr_5
          replace hP := hP.sub (ws' := wSP ad ca P (snS P S1 p1 d) a cS ro) [0, 1, 2, 3, 4, 5, 6, 7, 8, 9, 10, 11, 12, 13, 14, 15] rfl
          replace hD := hD.sub (ws' := wSP ad ca P (snS P S1 p1 d) a cS ro) [0, 1, 2, 3, 4, 5, 6, 7, 8, 9, 10, 11, 12, 13, 14, 15] (by decide) rfl
          refine nr_if_eq (tgt := 204) hx hb b01_lt d_S_goThrough_136 (by decide) (fun c_136 => ?_) (fun c_136 => ?_)
          · refine nr_iinc (k := 6) (lv' := [(4, .int (nI (t + 1))), (6, .int (nI 0)), (5, .int (nI (d * 6 + p1))), (0, .ref (ad 2)), (1, .ref a), (2, .int (nI d)), (3, .int (nI p1))]) hx hb d_S_goThrough_204 hl rfl (by decide) rfl (fun ls hl => ?_)
            refine lv_goto (tgt := 14) hx hb d_S_goThrough_207 (by decide) ?_
            exact ih_14 _ _ _ _ _ _ _ _ _ _ _ _ _ (sim_fail hP0 hro hsim (fun h => absurd ((sim_ex hsim).mpr h) (by omega)) (by omega)) (by first | omega | (rw [Nat.add_mul]; omega)) (by omega) (by rw [← hres, srch, if_neg (fun h => absurd ((sim_ex hsim).mpr h) (by omega)), if_neg (show ¬ st = S 0 0 by omega), if_pos (Decidable.byContradiction (fun h => b01_z c_136 ((sim_gu hP0 hro hsim (fun h => absurd ((sim_ex hsim).mpr h) (by omega))).mpr h)))]) (lv_sub hl [3, 4, 5, 6, 0] rfl) hP hD hS
          · refine lv_iload hx hb d_S_goThrough_139 (lv_at hl 0 rfl) ?_
            refine nr_if_eq (tgt := 171) hx hb (by omega) d_S_goThrough_141 (by decide) (fun c_141 => ?_) (fun c_141 => by exfalso; omega)
            refine lv_iload hx hb d_S_goThrough_171 (lv_at hl 0 rfl) ?_
            refine nr_if_eq (tgt := 182) hx hb (by omega) d_S_goThrough_173 (by decide) (fun c_173 => ?_) (fun c_173 => by exfalso; omega)
            refine lv_iload_n hx hb d_S_goThrough_182 rfl (lv_at hl 4 rfl) ?_
            refine lv_istore_n (lv' := [(2, .int (nI d)), (6, .int (nI 0)), (5, .int (nI (d * 6 + p1))), (0, .ref (ad 2)), (1, .ref a), (3, .int (nI p1)), (4, .int (nI t))]) hx hb d_S_goThrough_183 rfl hl (by decide) rfl (fun ls hl => ?_)
            refine lv_iload hx hb d_S_goThrough_184 (lv_at hl 1 rfl) ?_
            refine nr_if_eq (tgt := 193) hx hb (by omega) d_S_goThrough_186 (by decide) (fun c_186 => ?_) (fun c_186 => by exfalso; omega)
            refine lv_iload_n hx hb d_S_goThrough_193 rfl (lv_at hl 5 rfl) ?_
            refine nr_iconst hx hb 1 d_S_goThrough_194 (by decide) ?_
            refine nr_iadd hx hb d_S_goThrough_195 ?_
            refine lv_istore_n (lv' := [(3, .int (nI (p1 + 1))), (2, .int (nI d)), (6, .int (nI 0)), (5, .int (nI (d * 6 + p1))), (0, .ref (ad 2)), (1, .ref a), (4, .int (nI t))]) hx hb d_S_goThrough_196 rfl hl (by decide) rfl (fun ls hl => ?_)
            refine lv_aload_n hx hb d_S_goThrough_197 rfl (lv_at hl 4 rfl) ?_
            refine lv_aload_n hx hb d_S_goThrough_198 rfl (lv_at hl 5 rfl) ?_
            refine lv_iload_n hx hb d_S_goThrough_199 rfl (lv_at hl 0 rfl) ?_
            refine lv_iload_n hx hb d_S_goThrough_200 rfl (lv_at hl 1 rfl) ?_
            have hcurS : okS (snS P S1 p1 d) := (ok_snS hP0 hok hpn (by omega) (by omega) (by omega))
            refine nr_callv (wr := ([] : va_W)) (va_runV (As := [.ref a, .int (nI (p1 + 1)), .int (nI d)]) (rest := []) ⟨hx, hb, hml, hown, hts⟩ (c_S_open l D ad ca P (snS P S1 p1 d) a cS ro hP0 hcurS hro (p1 + 1) d (by omega) (by omega) H.size) ⟨callB_of 3 hts (gTB q_S_open) rfl rfl rfl (htb _ q3) (htb _ q485) hd_S_open ⟨Nat.le_of_ble_eq_true rfl, Nat.le_of_ble_eq_true rfl⟩, (htb _ q487), (htb _ sel_S_open)⟩ ⟨rw_blind, va_recv (hK.sub (tys' := []) [] rfl) hP (ci := 1) (q0 := 7) rfl rfl, rw_pre hN (hP.sub (ws' := (wSP ad ca P (snS P S1 p1 d) a cS ro)) [0, 1, 2, 3, 4, 5, 6, 7, 8, 9, 10, 11, 12, 13, 14, 15] rfl) (hK.sub (tys' := (tSP ca cS)) [0, 1, 2, 3, 4, 5, 6, 7, 8, 9, 10, 11, 12, 13] rfl) (hD.sub (ws' := (wSP ad ca P (snS P S1 p1 d) a cS ro)) [0, 1, 2, 3, 4, 5, 6, 7, 8, 9, 10, 11, 12, 13, 14, 15] (by decide) rfl)⟩ rfl rfl hl.1 rfl (lv_room (Nat.le_of_ble_eq_true rfl)) d_S_goThrough_201 ⟨Nat.le_of_ble_eq_true rfl, Nat.le_of_ble_eq_true rfl⟩) hP hD hS hA [0, 1, 2, 3, 4, 5, 6, 7, 8, 9, 10, 11, 12, 13, 14, 15] [] rfl rfl (by decide) (by decide) (fun u_6 H locs hu_6 hP hD hS => ?_)
            replace hP := hP.sub (ws' := wSP ad ca P (openS (snS P S1 p1 d) ro (p1 + 1) d) a cS ro) [0, 1, 2, 3, 4, 5, 6, 7, 8, 9, 10, 11, 12, 13, 14, 15] rfl
            replace hD := hD.sub (ws' := wSP ad ca P (openS (snS P S1 p1 d) ro (p1 + 1) d) a cS ro) [0, 1, 2, 3, 4, 5, 6, 7, 8, 9, 10, 11, 12, 13, 14, 15] (by decide) rfl
            refine nr_iinc (k := 6) (lv' := [(4, .int (nI (t + 1))), (3, .int (nI (p1 + 1))), (2, .int (nI d)), (6, .int (nI 0)), (5, .int (nI (d * 6 + p1))), (0, .ref (ad 2)), (1, .ref a)]) hx hb d_S_goThrough_204 hl rfl (by decide) rfl (fun ls hl => ?_)
            refine lv_goto (tgt := 14) hx hb d_S_goThrough_207 (by decide) ?_
            exact ih_14 _ _ _ _ _ _ _ _ _ _ _ _ _ (sim_next hP0 hro hsim (fun h => absurd ((sim_ex hsim).mpr h) (by omega)) (by omega) (b01_nz c_136) c_49) (by first | omega | (rw [Nat.add_mul]; omega)) (by omega) (by rw [← hres, srch, if_neg (fun h => absurd ((sim_ex hsim).mpr h) (by omega)), if_neg (show ¬ st = S 0 0 by omega), if_neg ((sim_gu hP0 hro hsim (fun h => absurd ((sim_ex hsim).mpr h) (by omega))).mp (b01_nz c_136)), if_neg c_49]) (lv_sub hl [5, 6, 2, 1, 0] rfl) hP hD hS
        · refine lv_aload_n hx hb d_S_goThrough_122 rfl (lv_at hl 2 rfl) ?_
          refine nr_iconst hx hb 1 d_S_goThrough_123 (by decide) ?_
          refine va_put (D := D) (ci := 1) (v := .int (nI 1)) (ty := .boolean) (C := R_S) (T := F_S) (N := 15) hx hb htb u_S t_S t_S_ok n_S hown hK hP hD hS 7 rfl rfl 13 (by decide) (htb _ q100) (fun _ h9 => h9) rfl (by decide +kernel) (nr_bool (by omega)) (nr_boolF (by omega)) (Nat.le_of_ble_eq_true rfl) d_S_goThrough_124 (fun H locs hP hD hS => ?_)
          have hP : va_P D cls (wSP ad ca P (up2 S1 0 5 1) a cS ro) H := hP
          have hD : va_D A (wSP ad ca P (up2 S1 0 5 1) a cS ro) := hD
          refine lv_goto (tgt := 204) hx hb d_S_goThrough_127 (by decide) ?_
          refine nr_iinc (k := 6) (lv' := [(4, .int (nI (t + 1))), (6, .int (nI 0)), (5, .int (nI (d * 6 + p1))), (0, .ref (ad 2)), (1, .ref a), (2, .int (nI d)), (3, .int (nI p1))]) hx hb d_S_goThrough_204 hl rfl (by decide) rfl (fun ls hl => ?_)
          refine lv_goto (tgt := 14) hx hb d_S_goThrough_207 (by decide) ?_
          refine lv_iload hx hb d_S_goThrough_14 (lv_at hl 0 rfl) ?_
          refine lv_ldc (v := nI 40002) hx hb hown (htb _ q490) d_S_goThrough_16 ?_
          refine nr_icmp_ge (tgt := 210) hx hb (by omega) (by omega) d_S_goThrough_18 (by decide) (fun c_18 => ?_) (fun c_18 => ?_)
          · exact W.vret hx hb hr (fun t ht hW => ⟨⟨up2 S1 0 5 1, rfl, by rw [← hres, srch, if_neg (fun h => absurd ((sim_ex hsim).mpr h) (by omega)), if_pos (show st = S 0 0 by omega)]; exact ⟨⟨g00, g01, g02, g03, g04, Nat.le_refl 1, g06, hs1, hs2, hs3, hs4, hs5, hs6, hs7⟩, rfl, x02, x03, x4b⟩, by rw [ht]; exact hP, hD⟩, hS.F ht⟩) hS.2.2 d_S_goThrough_210
          · refine lv_iload_n hx hb d_S_goThrough_21 rfl (lv_at hl 5 rfl) ?_
            refine nr_if_lt (tgt := 210) hx hb (by omega) d_S_goThrough_22 (by decide) (fun c_22 => c_22.elim) (fun c_22 => ?_)
            refine lv_aload_n hx hb d_S_goThrough_25 rfl (lv_at hl 3 rfl) ?_
            refine va_get (D := D) (ci := 1) (v := .int (nI 1)) (C := R_S) (T := F_S) (N := 15) hx hb htb u_S hown hK hP 7 rfl rfl 13 (by decide) (htb _ q100) (fun _ h9 => h9) rfl d_S_goThrough_26 ?_
            refine nr_if_ne (tgt := 210) hx hb (by omega) d_S_goThrough_29 (by decide) (fun c_29 => ?_) (fun c_29 => by exfalso; omega)
            exact W.vret hx hb hr (fun t ht hW => ⟨⟨up2 S1 0 5 1, rfl, by rw [← hres, srch, if_neg (fun h => absurd ((sim_ex hsim).mpr h) (by omega)), if_pos (show st = S 0 0 by omega)]; exact ⟨⟨g00, g01, g02, g03, g04, Nat.le_refl 1, g06, hs1, hs2, hs3, hs4, hs5, hs6, hs7⟩, rfl, x02, x03, x4b⟩, by rw [ht]; exact hP, hD⟩, hS.F ht⟩) hS.2.2 d_S_goThrough_210
      · refine lv_iload_n hx hb d_S_goThrough_76 rfl (lv_at hl 5 rfl) ?_
        refine nr_if_ne (tgt := 86) hx hb (by omega) d_S_goThrough_77 (by decide) (fun c_77 => ?_) (fun c_77 => ?_)
        · refine lv_iload_n hx hb d_S_goThrough_86 rfl (lv_at hl 4 rfl) ?_
          refine lv_istore_n (lv' := [(2, .int (nI d)), (6, .int (nI 0)), (5, .int (nI (d * 6 + p1))), (0, .ref (ad 2)), (1, .ref a), (3, .int (nI p1)), (4, .int (nI t))]) hx hb d_S_goThrough_87 rfl hl (by decide) rfl (fun ls hl => ?_)
          refine lv_iload_n hx hb d_S_goThrough_88 rfl (lv_at hl 5 rfl) ?_
          refine nr_if_ne (tgt := 104) hx hb (by omega) d_S_goThrough_89 (by decide) (fun c_89 => ?_) (fun c_89 => by exfalso; omega)
          refine lv_iload_n hx hb d_S_goThrough_104 rfl (lv_at hl 5 rfl) ?_
          refine nr_iconst hx hb 1 d_S_goThrough_105 (by decide) ?_
          refine nr_isub hx hb (by omega) d_S_goThrough_106 ?_
          refine lv_istore_n (lv' := [(3, .int (nI (p1 - 1))), (2, .int (nI d)), (6, .int (nI 0)), (5, .int (nI (d * 6 + p1))), (0, .ref (ad 2)), (1, .ref a), (4, .int (nI t))]) hx hb d_S_goThrough_107 rfl hl (by decide) rfl (fun ls hl => ?_)
          refine lv_goto (tgt := 204) hx hb d_S_goThrough_108 (by decide) ?_
          refine nr_iinc (k := 6) (lv' := [(4, .int (nI (t + 1))), (3, .int (nI (p1 - 1))), (2, .int (nI d)), (6, .int (nI 0)), (5, .int (nI (d * 6 + p1))), (0, .ref (ad 2)), (1, .ref a)]) hx hb d_S_goThrough_204 hl rfl (by decide) rfl (fun ls hl => ?_)
          refine lv_goto (tgt := 14) hx hb d_S_goThrough_207 (by decide) ?_
          exact ih_14 _ _ _ _ _ _ _ _ _ _ _ _ _ (sim_back hsim c_77) (by first | omega | (rw [Nat.add_mul]; omega)) (by omega) (by rw [← hres, srch, if_pos (show (if d < S 0 1 then 0 < nx else 3 < nx) from (sim_ex hsim).mp c_73), if_neg c_77]) (lv_sub hl [5, 6, 2, 1, 0] rfl) hP hD hS
        · rcases Nat.eq_zero_or_pos d with hd0 | hd0
          · refine lv_iload_n hx hb d_S_goThrough_80 rfl (lv_at hl 4 rfl) ?_
            refine nr_iconst hx hb 1 d_S_goThrough_81 (by decide) ?_
            refine lv_isub hx hb d_S_goThrough_82 ?_
            refine lv_goto (tgt := 87) hx hb d_S_goThrough_83 (by decide) ?_
            refine lv_istore_n (lv' := [(2, .int (nI d - nI 1)), (6, .int (nI 0)), (5, .int (nI (d * 6 + p1))), (0, .ref (ad 2)), (1, .ref a), (3, .int (nI p1)), (4, .int (nI t))]) hx hb d_S_goThrough_87 rfl hl (by decide) rfl (fun ls hl => ?_)
            refine lv_iload_n hx hb d_S_goThrough_88 rfl (lv_at hl 5 rfl) ?_
            refine nr_if_ne (tgt := 104) hx hb (by omega) d_S_goThrough_89 (by decide) (fun c_89 => by exfalso; omega) (fun c_89 => ?_)
            refine lv_aload_n hx hb d_S_goThrough_92 rfl (lv_at hl 3 rfl) ?_
            refine va_get (D := D) (ci := 1) (v := .ref (ad 1)) (C := R_S) (T := F_S) (N := 15) hx hb htb u_S hown hK hP 7 rfl rfl 0 (by decide) (htb _ q83) (fun _ h9 => h9) rfl d_S_goThrough_93 ?_
            refine va_getN (D := D) (ci := 0) (v := .int (nI (P 0 0))) (C := R_P) (T := F_P) (N := 12) hx hb htb u_P hown hK hP 0 rfl rfl 0 (by decide) (hN.at q29 rfl rfl) (fun _ h9 => h9) rfl d_S_goThrough_96 ?_
            refine nr_iconst hx hb 1 d_S_goThrough_99 (by decide) ?_
            refine nr_isub hx hb (by omega) d_S_goThrough_100 ?_
            refine lv_goto (tgt := 107) hx hb d_S_goThrough_101 (by decide) ?_
            refine lv_istore_n (lv' := [(3, .int (nI ((P 0 0) - 1))), (2, .int (nI d - nI 1)), (6, .int (nI 0)), (5, .int (nI (d * 6 + p1))), (0, .ref (ad 2)), (1, .ref a), (4, .int (nI t))]) hx hb d_S_goThrough_107 rfl hl (by decide) rfl (fun ls hl => ?_)
            refine lv_goto (tgt := 204) hx hb d_S_goThrough_108 (by decide) ?_
            refine nr_iinc (k := 6) (lv' := [(4, .int (nI (t + 1))), (3, .int (nI ((P 0 0) - 1))), (2, .int (nI d - nI 1)), (6, .int (nI 0)), (5, .int (nI (d * 6 + p1))), (0, .ref (ad 2)), (1, .ref a)]) hx hb d_S_goThrough_204 hl rfl (by decide) rfl (fun ls hl => ?_)
            refine lv_goto (tgt := 14) hx hb d_S_goThrough_207 (by decide) ?_
            refine lv_iload hx hb d_S_goThrough_14 (lv_at hl 0 rfl) ?_
            refine lv_ldc (v := nI 40002) hx hb hown (htb _ q490) d_S_goThrough_16 ?_
            refine nr_icmp_ge (tgt := 210) hx hb (by omega) (by omega) d_S_goThrough_18 (by decide) (fun c_18 => ?_) (fun c_18 => ?_)
            · exact W.vret hx hb hr (fun t ht hW => ⟨⟨S1, rfl, by rw [← hres, srch, if_pos (show (if d < S 0 1 then 0 < nx else 3 < nx) from (sim_ex hsim).mp c_73), if_pos c_77, if_pos hd0]; exact ⟨hok, x05, x02, x03, x4b⟩, by rw [ht]; exact hP, hD⟩, hS.F ht⟩) hS.2.2 d_S_goThrough_210
            · refine lv_iload_n hx hb d_S_goThrough_21 rfl (lv_at hl 2 rfl) ?_
              refine lv_if_lt (tgt := 210) hx hb d_S_goThrough_22 (by decide) (fun c_22 => ?_) (fun c_22 => absurd (by rw [hd0]; decide) c_22)
              exact W.vret hx hb hr (fun t ht hW => ⟨⟨S1, rfl, by rw [← hres, srch, if_pos (show (if d < S 0 1 then 0 < nx else 3 < nx) from (sim_ex hsim).mp c_73), if_pos c_77, if_pos hd0]; exact ⟨hok, x05, x02, x03, x4b⟩, by rw [ht]; exact hP, hD⟩, hS.F ht⟩) hS.2.2 d_S_goThrough_210
          · have hdm := mul_pred (n := P 0 0) hd0
            refine lv_iload_n hx hb d_S_goThrough_80 rfl (lv_at hl 4 rfl) ?_
            refine nr_iconst hx hb 1 d_S_goThrough_81 (by decide) ?_
            refine nr_isub hx hb (by omega) d_S_goThrough_82 ?_
            refine lv_goto (tgt := 87) hx hb d_S_goThrough_83 (by decide) ?_
            refine lv_istore_n (lv' := [(2, .int (nI (d - 1))), (6, .int (nI 0)), (5, .int (nI (d * 6 + p1))), (0, .ref (ad 2)), (1, .ref a), (3, .int (nI p1)), (4, .int (nI t))]) hx hb d_S_goThrough_87 rfl hl (by decide) rfl (fun ls hl => ?_)
            refine lv_iload_n hx hb d_S_goThrough_88 rfl (lv_at hl 5 rfl) ?_
            refine nr_if_ne (tgt := 104) hx hb (by omega) d_S_goThrough_89 (by decide) (fun c_89 => by exfalso; omega) (fun c_89 => ?_)
            refine lv_aload_n hx hb d_S_goThrough_92 rfl (lv_at hl 3 rfl) ?_
            refine va_get (D := D) (ci := 1) (v := .ref (ad 1)) (C := R_S) (T := F_S) (N := 15) hx hb htb u_S hown hK hP 7 rfl rfl 0 (by decide) (htb _ q83) (fun _ h9 => h9) rfl d_S_goThrough_93 ?_
            refine va_getN (D := D) (ci := 0) (v := .int (nI (P 0 0))) (C := R_P) (T := F_P) (N := 12) hx hb htb u_P hown hK hP 0 rfl rfl 0 (by decide) (hN.at q29 rfl rfl) (fun _ h9 => h9) rfl d_S_goThrough_96 ?_
            refine nr_iconst hx hb 1 d_S_goThrough_99 (by decide) ?_
            refine nr_isub hx hb (by omega) d_S_goThrough_100 ?_
            refine lv_goto (tgt := 107) hx hb d_S_goThrough_101 (by decide) ?_
            refine lv_istore_n (lv' := [(3, .int (nI ((P 0 0) - 1))), (2, .int (nI (d - 1))), (6, .int (nI 0)), (5, .int (nI (d * 6 + p1))), (0, .ref (ad 2)), (1, .ref a), (4, .int (nI t))]) hx hb d_S_goThrough_107 rfl hl (by decide) rfl (fun ls hl => ?_)
            refine lv_goto (tgt := 204) hx hb d_S_goThrough_108 (by decide) ?_
            refine nr_iinc (k := 6) (lv' := [(4, .int (nI (t + 1))), (3, .int (nI ((P 0 0) - 1))), (2, .int (nI (d - 1))), (6, .int (nI 0)), (5, .int (nI (d * 6 + p1))), (0, .ref (ad 2)), (1, .ref a)]) hx hb d_S_goThrough_204 hl rfl (by decide) rfl (fun ls hl => ?_)
            refine lv_goto (tgt := 14) hx hb d_S_goThrough_207 (by decide) ?_
            exact ih_14 _ _ _ _ _ _ _ _ _ _ _ _ _ (sim_backd hsim c_77 hd0) (by first | omega | (rw [Nat.add_mul]; omega)) (by omega) (by rw [← hres, srch, if_pos (show (if d < S 0 1 then 0 < nx else 3 < nx) from (sim_ex hsim).mp c_73), if_pos c_77, if_neg (show ¬ d = 0 by omega)]) (lv_sub hl [5, 6, 2, 1, 0] rfl) hP hD hS
    · refine nr_iconst hx hb 1 d_S_goThrough_52 (by decide) ?_
      refine lv_goto (tgt := 57) hx hb d_S_goThrough_53 (by decide) ?_
      refine lv_istore (lv' := [(6, .int (nI 1)), (5, .int (nI (d * 6 + p1))), (0, .ref (ad 2)), (1, .ref a), (2, .int (nI d)), (3, .int (nI p1)), (4, .int (nI t))]) hx hb d_S_goThrough_57 hl (by decide) rfl (fun ls hl => ?_)
      refine lv_aload_n hx hb d_S_goThrough_59 rfl (lv_at hl 2 rfl) ?_
      refine va_get (D := D) (ci := 1) (v := .ref (ad 11)) (C := R_S) (T := F_S) (N := 15) hx hb htb u_S hown hK hP 7 rfl rfl 3 (by decide) (htb _ q87) (fun _ h9 => h9) rfl d_S_goThrough_60 ?_
      refine lv_iload hx hb d_S_goThrough_63 (lv_at hl 1 rfl) ?_
      refine nr_iald hx hb hK hP 10 8 rfl rfl (by omega) (by decide) d_S_goThrough_65 ?_
      have hv_8 := hs3 (d * 6 + p1)
      refine lv_aload_n hx hb d_S_goThrough_66 rfl (lv_at hl 2 rfl) ?_
      refine va_get (D := D) (ci := 1) (v := .ref (ad 12)) (C := R_S) (T := F_S) (N := 15) hx hb htb u_S hown hK hP 7 rfl rfl 4 (by decide) (htb _ q88) (fun _ h9 => h9) rfl d_S_goThrough_67 ?_
      refine lv_iload hx hb d_S_goThrough_70 (lv_at hl 1 rfl) ?_
      refine nr_iald hx hb hK hP 11 9 rfl rfl (by omega) (by decide) d_S_goThrough_72 ?_
      have hv_9 := hs4 (d * 6 + p1)
      refine nr_icmp_le (tgt := 111) hx hb (by omega) (by omega) d_S_goThrough_73 (by decide) (fun c_73 => ?_) (fun c_73 => ?_)
      · refine lv_aload_n hx hb d_S_goThrough_111 rfl (lv_at hl 2 rfl) ?_
        refine va_get (D := D) (ci := 1) (v := .int (nI (S1 0 2))) (C := R_S) (T := F_S) (N := 15) hx hb htb u_S hown hK hP 7 rfl rfl 10 (by decide) (htb _ q94) (fun _ h9 => h9) rfl d_S_goThrough_112 ?_
        refine lv_aload_n hx hb d_S_goThrough_115 rfl (lv_at hl 2 rfl) ?_
        refine va_get (D := D) (ci := 1) (v := .int (nI (S1 0 0))) (C := R_S) (T := F_S) (N := 15) hx hb htb u_S hown hK hP 7 rfl rfl 8 (by decide) (htb _ q92) (fun _ h9 => h9) rfl d_S_goThrough_116 ?_
        refine nr_icmp_lt (tgt := 130) hx hb (by omega) (by omega) d_S_goThrough_119 (by decide) (fun c_119 => ?_) (fun c_119 => ?_)
        · refine lv_aload_n hx hb d_S_goThrough_130 rfl (lv_at hl 2 rfl) ?_
          refine lv_iload_n hx hb d_S_goThrough_131 rfl (lv_at hl 5 rfl) ?_
          refine lv_iload_n hx hb d_S_goThrough_132 rfl (lv_at hl 4 rfl) ?_
          have hcurS : okS S1 := hok
          refine nr_callwi (wr := ([] : va_W)) (va_runV (As := [.int (nI p1), .int (nI d)]) (rest := []) ⟨hx, hb, hml, hown, hts⟩ (c_S_standsNext l D ad ca P S1 a cS ro hP0 hcurS hro p1 d (by omega) (by omega) (by omega) (by omega) H.size) ⟨callB_of 2 hts (gTB q_S_standsNext) rfl rfl rfl (htb _ q3) (htb _ q491) hd_S_standsNext ⟨Nat.le_of_ble_eq_true rfl, Nat.le_of_ble_eq_true rfl⟩, (htb _ q493), (htb _ sel_S_standsNext)⟩ ⟨rw_blind, va_recv (hK.sub (tys' := []) [] rfl) hP (ci := 1) (q0 := 7) rfl rfl, rw_pre hN (hP.sub (ws' := (wSP ad ca P S1 a cS ro)) [0, 1, 2, 3, 4, 5, 6, 7, 8, 9, 10, 11, 12, 13, 14, 15] rfl) (hK.sub (tys' := (tSP ca cS)) [0, 1, 2, 3, 4, 5, 6, 7, 8, 9, 10, 11, 12, 13] rfl) (hD.sub (ws' := (wSP ad ca P S1 a cS ro)) [0, 1, 2, 3, 4, 5, 6, 7, 8, 9, 10, 11, 12, 13, 14, 15] (by decide) rfl)⟩ rfl rfl hl.1 rfl (lv_room (Nat.le_of_ble_eq_true rfl)) d_S_goThrough_133 ⟨Nat.le_of_ble_eq_true rfl, Nat.le_of_ble_eq_true rfl⟩) hP hD hS hA [0, 1, 2, 3, 4, 5, 6, 7, 8, 9, 10, 11, 12, 13, 14, 15] [] rfl rfl (by decide) (by decide) (fun r_10 u_10 H locs hr_10 hP hD hS => ?_)
          subst hr_10
          replace hP := hP.sub (ws' := wSP ad ca P (snS P S1 p1 d) a cS ro) [0, 1, 2, 3, 4, 5, 6, 7, 8, 9, 10, 11, 12, 13, 14, 15] rfl
          replace hD := hD.sub (ws' := wSP ad ca P (snS P S1 p1 d) a cS ro) [0, 1, 2, 3, 4, 5, 6, 7, 8, 9, 10, 11, 12, 13, 14, 15] (by decide) rfl
          refine nr_if_eq (tgt := 204) hx hb b01_lt d_S_goThrough_136 (by decide) (fun c_136 => ?_) (fun c_136 => ?_)
          · refine nr_iinc (k := 6) (lv' := [(4, .int (nI (t + 1))), (6, .int (nI 1)), (5, .int (nI (d * 6 + p1))), (0, .ref (ad 2)), (1, .ref a), (2, .int (nI d)), (3, .int (nI p1))]) hx hb d_S_goThrough_204 hl rfl (by decide) rfl (fun ls hl => ?_)
            refine lv_goto (tgt := 14) hx hb d_S_goThrough_207 (by decide) ?_
            exact ih_14 _ _ _ _ _ _ _ _ _ _ _ _ _ (sim_fail hP0 hro hsim (fun h => absurd ((sim_ex hsim).mpr h) (by omega)) (by omega)) (by first | omega | (rw [Nat.add_mul]; omega)) (by omega) (by rw [← hres, srch, if_neg (fun h => absurd ((sim_ex hsim).mpr h) (by omega)), if_neg (show ¬ st = S 0 0 by omega), if_pos (Decidable.byContradiction (fun h => b01_z c_136 ((sim_gu hP0 hro hsim (fun h => absurd ((sim_ex hsim).mpr h) (by omega))).mpr h)))]) (lv_sub hl [3, 4, 5, 6, 0] rfl) hP hD hS
          · refine lv_iload hx hb d_S_goThrough_139 (lv_at hl 0 rfl) ?_
            refine nr_if_eq (tgt := 171) hx hb (by omega) d_S_goThrough_141 (by decide) (fun c_141 => by exfalso; omega) (fun c_141 => ?_)
            refine lv_iload_n hx hb d_S_goThrough_144 rfl (lv_at hl 4 rfl) ?_
            refine lv_aload_n hx hb d_S_goThrough_145 rfl (lv_at hl 2 rfl) ?_
            refine va_get (D := D) (ci := 1) (v := .ref (ad 1)) (C := R_S) (T := F_S) (N := 15) hx hb htb u_S hown hK hP 7 rfl rfl 0 (by decide) (htb _ q83) (fun _ h9 => h9) rfl d_S_goThrough_146 ?_
            refine va_getN (D := D) (ci := 0) (v := .int (nI (P 0 1))) (C := R_P) (T := F_P) (N := 12) hx hb htb u_P hown hK hP 0 rfl rfl 1 (by decide) (hN.at q32 rfl rfl) (fun _ h9 => h9) rfl d_S_goThrough_149 ?_
            refine nr_iconst hx hb 1 d_S_goThrough_152 (by decide) ?_
            refine nr_isub hx hb (by omega) d_S_goThrough_153 ?_
            refine nr_icmp_ne (tgt := 171) hx hb (by omega) (by omega) d_S_goThrough_154 (by decide) (fun c_154 => ?_) (fun c_154 => ?_)
            · refine lv_iload hx hb d_S_goThrough_171 (lv_at hl 0 rfl) ?_
              refine nr_if_eq (tgt := 182) hx hb (by omega) d_S_goThrough_173 (by decide) (fun c_173 => by exfalso; omega) (fun c_173 => ?_)
              refine lv_iload_n hx hb d_S_goThrough_176 rfl (lv_at hl 4 rfl) ?_
              refine nr_iconst hx hb 1 d_S_goThrough_177 (by decide) ?_
              refine nr_iadd hx hb d_S_goThrough_178 ?_
              refine lv_goto (tgt := 183) hx hb d_S_goThrough_179 (by decide) ?_
              refine lv_istore_n (lv' := [(2, .int (nI (d + 1))), (6, .int (nI 1)), (5, .int (nI (d * 6 + p1))), (0, .ref (ad 2)), (1, .ref a), (3, .int (nI p1)), (4, .int (nI t))]) hx hb d_S_goThrough_183 rfl hl (by decide) rfl (fun ls hl => ?_)
              refine lv_iload hx hb d_S_goThrough_184 (lv_at hl 1 rfl) ?_
              refine nr_if_eq (tgt := 193) hx hb (by omega) d_S_goThrough_186 (by decide) (fun c_186 => by exfalso; omega) (fun c_186 => ?_)
              refine nr_iconst hx hb 0 d_S_goThrough_189 (by decide) ?_
              refine lv_goto (tgt := 196) hx hb d_S_goThrough_190 (by decide) ?_
              refine lv_istore_n (lv' := [(3, .int (nI 0)), (2, .int (nI (d + 1))), (6, .int (nI 1)), (5, .int (nI (d * 6 + p1))), (0, .ref (ad 2)), (1, .ref a), (4, .int (nI t))]) hx hb d_S_goThrough_196 rfl hl (by decide) rfl (fun ls hl => ?_)
              refine lv_aload_n hx hb d_S_goThrough_197 rfl (lv_at hl 4 rfl) ?_
              refine lv_aload_n hx hb d_S_goThrough_198 rfl (lv_at hl 5 rfl) ?_
              refine lv_iload_n hx hb d_S_goThrough_199 rfl (lv_at hl 0 rfl) ?_
              refine lv_iload_n hx hb d_S_goThrough_200 rfl (lv_at hl 1 rfl) ?_
              have hcurS : okS (snS P S1 p1 d) := (ok_snS hP0 hok hpn (by omega) (by omega) (by omega))
              refine nr_callv (wr := ([] : va_W)) (va_runV (As := [.ref a, .int (nI 0), .int (nI (d + 1))]) (rest := []) ⟨hx, hb, hml, hown, hts⟩ (c_S_open l D ad ca P (snS P S1 p1 d) a cS ro hP0 hcurS hro 0 (d + 1) (by omega) (by omega) H.size) ⟨callB_of 3 hts (gTB q_S_open) rfl rfl rfl (htb _ q3) (htb _ q485) hd_S_open ⟨Nat.le_of_ble_eq_true rfl, Nat.le_of_ble_eq_true rfl⟩, (htb _ q487), (htb _ sel_S_open)⟩ ⟨rw_blind, va_recv (hK.sub (tys' := []) [] rfl) hP (ci := 1) (q0 := 7) rfl rfl, rw_pre hN (hP.sub (ws' := (wSP ad ca P (snS P S1 p1 d) a cS ro)) [0, 1, 2, 3, 4, 5, 6, 7, 8, 9, 10, 11, 12, 13, 14, 15] rfl) (hK.sub (tys' := (tSP ca cS)) [0, 1, 2, 3, 4, 5, 6, 7, 8, 9, 10, 11, 12, 13] rfl) (hD.sub (ws' := (wSP ad ca P (snS P S1 p1 d) a cS ro)) [0, 1, 2, 3, 4, 5, 6, 7, 8, 9, 10, 11, 12, 13, 14, 15] (by decide) rfl)⟩ rfl rfl hl.1 rfl (lv_room (Nat.le_of_ble_eq_true rfl)) d_S_goThrough_201 ⟨Nat.le_of_ble_eq_true rfl, Nat.le_of_ble_eq_true rfl⟩) hP hD hS hA [0, 1, 2, 3, 4, 5, 6, 7, 8, 9, 10, 11, 12, 13, 14, 15] [] rfl rfl (by decide) (by decide) (fun u_11 H locs hu_11 hP hD hS => ?_)
              replace hP := hP.sub (ws' := wSP ad ca P (openS (snS P S1 p1 d) ro 0 (d + 1)) a cS ro) [0, 1, 2, 3, 4, 5, 6, 7, 8, 9, 10, 11, 12, 13, 14, 15] rfl
              replace hD := hD.sub (ws' := wSP ad ca P (openS (snS P S1 p1 d) ro 0 (d + 1)) a cS ro) [0, 1, 2, 3, 4, 5, 6, 7, 8, 9, 10, 11, 12, 13, 14, 15] (by decide) rfl
              refine nr_iinc (k := 6) (lv' := [(4, .int (nI (t + 1))), (3, .int (nI 0)), (2, .int (nI (d + 1))), (6, .int (nI 1)), (5, .int (nI (d * 6 + p1))), (0, .ref (ad 2)), (1, .ref a)]) hx hb d_S_goThrough_204 hl rfl (by decide) rfl (fun ls hl => ?_)
              refine lv_goto (tgt := 14) hx hb d_S_goThrough_207 (by decide) ?_
              exact ih_14 _ _ _ _ _ _ _ _ _ _ _ _ _ (sim_nextd hP0 hro hsim (fun h => absurd ((sim_ex hsim).mpr h) (by omega)) (by omega) (b01_nz c_136) c_49 c_154) (by first | omega | (rw [Nat.add_mul]; omega)) (by omega) (by rw [← hres, srch, if_neg (fun h => absurd ((sim_ex hsim).mpr h) (by omega)), if_neg (show ¬ st = S 0 0 by omega), if_neg ((sim_gu hP0 hro hsim (fun h => absurd ((sim_ex hsim).mpr h) (by omega))).mp (b01_nz c_136)), if_pos c_49, if_neg c_154]) (lv_sub hl [5, 6, 2, 1, 0] rfl) hP hD hS
            · refine lv_aload_n hx hb d_S_goThrough_157 rfl (lv_at hl 2 rfl) ?_
              refine lv_aload_n hx hb d_S_goThrough_158 rfl (lv_at hl 2 rfl) ?_
              refine va_get (D := D) (ci := 1) (v := .ref (ad 15)) (C := R_S) (T := F_S) (N := 15) hx hb htb u_S hown hK hP 7 rfl rfl 7 (by decide) (htb _ q91) (fun _ h9 => h9) rfl d_S_goThrough_159 ?_
              refine lv_iload hx hb d_S_goThrough_162 (lv_at hl 1 rfl) ?_
              refine nr_iald hx hb hK hP 14 12 rfl rfl (by omega) (by decide) d_S_goThrough_164 ?_
              have hv_12 := hs7 (d * 6 + p1)
              have hcurS : okS (snS P S1 p1 d) := (ok_snS hP0 hok hpn (by omega) (by omega) (by omega))
              refine nr_callv (wr := ([] : va_W)) (va_runV (As := [.int (nI ((snS P S1 p1 d) 7 (d * 6 + p1)))]) (rest := []) ⟨hx, hb, hml, hown, hts⟩ (c_S_keepTrial l D ad ca P (snS P S1 p1 d) a cS ro hP0 hcurS hro ((snS P S1 p1 d) 7 (d * 6 + p1)) H.size) ⟨callB_of 1 hts (gTB q_S_keepTrial) rfl rfl rfl (htb _ q3) (htb _ q477) hd_S_keepTrial ⟨Nat.le_of_ble_eq_true rfl, Nat.le_of_ble_eq_true rfl⟩, (htb _ q479), (htb _ sel_S_keepTrial)⟩ ⟨rw_blind, va_recv (hK.sub (tys' := []) [] rfl) hP (ci := 1) (q0 := 7) rfl rfl, rw_pre hN (hP.sub (ws' := (wSP ad ca P (snS P S1 p1 d) a cS ro)) [0, 1, 2, 3, 4, 5, 6, 7, 8, 9, 10, 11, 12, 13, 14, 15] rfl) (hK.sub (tys' := (tSP ca cS)) [0, 1, 2, 3, 4, 5, 6, 7, 8, 9, 10, 11, 12, 13] rfl) (hD.sub (ws' := (wSP ad ca P (snS P S1 p1 d) a cS ro)) [0, 1, 2, 3, 4, 5, 6, 7, 8, 9, 10, 11, 12, 13, 14, 15] (by decide) rfl)⟩ rfl rfl hl.1 rfl (lv_room (Nat.le_of_ble_eq_true rfl)) d_S_goThrough_165 ⟨Nat.le_of_ble_eq_true rfl, Nat.le_of_ble_eq_true rfl⟩) hP hD hS hA [0, 1, 2, 3, 4, 5, 6, 7, 8, 9, 10, 11, 12, 13, 14, 15] [] rfl rfl (by decide) (by decide) (fun u_13 H locs hu_13 hP hD hS => ?_)
              replace hP := hP.sub (ws' := wSP ad ca P (ktS (snS P S1 p1 d) ((snS P S1 p1 d) 7 (d * 6 + p1))) a cS ro) [0, 1, 2, 3, 4, 5, 6, 7, 8, 9, 10, 11, 12, 13, 14, 15] rfl
              replace hD := hD.sub (ws' := wSP ad ca P (ktS (snS P S1 p1 d) ((snS P S1 p1 d) 7 (d * 6 + p1))) a cS ro) [0, 1, 2, 3, 4, 5, 6, 7, 8, 9, 10, 11, 12, 13, 14, 15] (by decide) rfl
              refine lv_goto (tgt := 204) hx hb d_S_goThrough_168 (by decide) ?_
              refine nr_iinc (k := 6) (lv' := [(4, .int (nI (t + 1))), (6, .int (nI 1)), (5, .int (nI (d * 6 + p1))), (0, .ref (ad 2)), (1, .ref a), (2, .int (nI d)), (3, .int (nI p1))]) hx hb d_S_goThrough_204 hl rfl (by decide) rfl (fun ls hl => ?_)
              refine lv_goto (tgt := 14) hx hb d_S_goThrough_207 (by decide) ?_
              exact ih_14 _ _ _ _ _ _ _ _ _ _ _ _ _ (sim_keep hP0 hro hsim (fun h => absurd ((sim_ex hsim).mpr h) (by omega)) (by omega) (b01_nz c_136) c_49 c_154) (by first | omega | (rw [Nat.add_mul]; omega)) (by omega) (by rw [← hres, srch, if_neg (fun h => absurd ((sim_ex hsim).mpr h) (by omega)), if_neg (show ¬ st = S 0 0 by omega), if_neg ((sim_gu hP0 hro hsim (fun h => absurd ((sim_ex hsim).mpr h) (by omega))).mp (b01_nz c_136)), if_pos c_49, if_pos c_154]) (lv_sub hl [3, 4, 5, 6, 0] rfl) hP hD hS
        · refine lv_aload_n hx hb d_S_goThrough_122 rfl (lv_at hl 2 rfl) ?_
          refine nr_iconst hx hb 1 d_S_goThrough_123 (by decide) ?_
          refine va_put (D := D) (ci := 1) (v := .int (nI 1)) (ty := .boolean) (C := R_S) (T := F_S) (N := 15) hx hb htb u_S t_S t_S_ok n_S hown hK hP hD hS 7 rfl rfl 13 (by decide) (htb _ q100) (fun _ h9 => h9) rfl (by decide +kernel) (nr_bool (by omega)) (nr_boolF (by omega)) (Nat.le_of_ble_eq_true rfl) d_S_goThrough_124 (fun H locs hP hD hS => ?_)
          have hP : va_P D cls (wSP ad ca P (up2 S1 0 5 1) a cS ro) H := hP
          have hD : va_D A (wSP ad ca P (up2 S1 0 5 1) a cS ro) := hD
          refine lv_goto (tgt := 204) hx hb d_S_goThrough_127 (by decide) ?_
          refine nr_iinc (k := 6) (lv' := [(4, .int (nI (t + 1))), (6, .int (nI 1)), (5, .int (nI (d * 6 + p1))), (0, .ref (ad 2)), (1, .ref a), (2, .int (nI d)), (3, .int (nI p1))]) hx hb d_S_goThrough_204 hl rfl (by decide) rfl (fun ls hl => ?_)
          refine lv_goto (tgt := 14) hx hb d_S_goThrough_207 (by decide) ?_
          refine lv_iload hx hb d_S_goThrough_14 (lv_at hl 0 rfl) ?_
          refine lv_ldc (v := nI 40002) hx hb hown (htb _ q490) d_S_goThrough_16 ?_
          refine nr_icmp_ge (tgt := 210) hx hb (by omega) (by omega) d_S_goThrough_18 (by decide) (fun c_18 => ?_) (fun c_18 => ?_)
          · exact W.vret hx hb hr (fun t ht hW => ⟨⟨up2 S1 0 5 1, rfl, by rw [← hres, srch, if_neg (fun h => absurd ((sim_ex hsim).mpr h) (by omega)), if_pos (show st = S 0 0 by omega)]; exact ⟨⟨g00, g01, g02, g03, g04, Nat.le_refl 1, g06, hs1, hs2, hs3, hs4, hs5, hs6, hs7⟩, rfl, x02, x03, x4b⟩, by rw [ht]; exact hP, hD⟩, hS.F ht⟩) hS.2.2 d_S_goThrough_210
          · refine lv_iload_n hx hb d_S_goThrough_21 rfl (lv_at hl 5 rfl) ?_
            refine nr_if_lt (tgt := 210) hx hb (by omega) d_S_goThrough_22 (by decide) (fun c_22 => c_22.elim) (fun c_22 => ?_)
            refine lv_aload_n hx hb d_S_goThrough_25 rfl (lv_at hl 3 rfl) ?_
            refine va_get (D := D) (ci := 1) (v := .int (nI 1)) (C := R_S) (T := F_S) (N := 15) hx hb htb u_S hown hK hP 7 rfl rfl 13 (by decide) (htb _ q100) (fun _ h9 => h9) rfl d_S_goThrough_26 ?_
            refine nr_if_ne (tgt := 210) hx hb (by omega) d_S_goThrough_29 (by decide) (fun c_29 => ?_) (fun c_29 => by exfalso; omega)
            exact W.vret hx hb hr (fun t ht hW => ⟨⟨up2 S1 0 5 1, rfl, by rw [← hres, srch, if_neg (fun h => absurd ((sim_ex hsim).mpr h) (by omega)), if_pos (show st = S 0 0 by omega)]; exact ⟨⟨g00, g01, g02, g03, g04, Nat.le_refl 1, g06, hs1, hs2, hs3, hs4, hs5, hs6, hs7⟩, rfl, x02, x03, x4b⟩, by rw [ht]; exact hP, hD⟩, hS.F ht⟩) hS.2.2 d_S_goThrough_210
      · refine lv_iload_n hx hb d_S_goThrough_76 rfl (lv_at hl 5 rfl) ?_
        refine nr_if_ne (tgt := 86) hx hb (by omega) d_S_goThrough_77 (by decide) (fun c_77 => ?_) (fun c_77 => ?_)
        · refine lv_iload_n hx hb d_S_goThrough_86 rfl (lv_at hl 4 rfl) ?_
          refine lv_istore_n (lv' := [(2, .int (nI d)), (6, .int (nI 1)), (5, .int (nI (d * 6 + p1))), (0, .ref (ad 2)), (1, .ref a), (3, .int (nI p1)), (4, .int (nI t))]) hx hb d_S_goThrough_87 rfl hl (by decide) rfl (fun ls hl => ?_)
          refine lv_iload_n hx hb d_S_goThrough_88 rfl (lv_at hl 5 rfl) ?_
          refine nr_if_ne (tgt := 104) hx hb (by omega) d_S_goThrough_89 (by decide) (fun c_89 => ?_) (fun c_89 => by exfalso; omega)
          refine lv_iload_n hx hb d_S_goThrough_104 rfl (lv_at hl 5 rfl) ?_
          refine nr_iconst hx hb 1 d_S_goThrough_105 (by decide) ?_
          refine nr_isub hx hb (by omega) d_S_goThrough_106 ?_
          refine lv_istore_n (lv' := [(3, .int (nI (p1 - 1))), (2, .int (nI d)), (6, .int (nI 1)), (5, .int (nI (d * 6 + p1))), (0, .ref (ad 2)), (1, .ref a), (4, .int (nI t))]) hx hb d_S_goThrough_107 rfl hl (by decide) rfl (fun ls hl => ?_)
          refine lv_goto (tgt := 204) hx hb d_S_goThrough_108 (by decide) ?_
          refine nr_iinc (k := 6) (lv' := [(4, .int (nI (t + 1))), (3, .int (nI (p1 - 1))), (2, .int (nI d)), (6, .int (nI 1)), (5, .int (nI (d * 6 + p1))), (0, .ref (ad 2)), (1, .ref a)]) hx hb d_S_goThrough_204 hl rfl (by decide) rfl (fun ls hl => ?_)
          refine lv_goto (tgt := 14) hx hb d_S_goThrough_207 (by decide) ?_
          exact ih_14 _ _ _ _ _ _ _ _ _ _ _ _ _ (sim_back hsim c_77) (by first | omega | (rw [Nat.add_mul]; omega)) (by omega) (by rw [← hres, srch, if_pos (show (if d < S 0 1 then 0 < nx else 3 < nx) from (sim_ex hsim).mp c_73), if_neg c_77]) (lv_sub hl [5, 6, 2, 1, 0] rfl) hP hD hS
        · rcases Nat.eq_zero_or_pos d with hd0 | hd0
          · refine lv_iload_n hx hb d_S_goThrough_80 rfl (lv_at hl 4 rfl) ?_
            refine nr_iconst hx hb 1 d_S_goThrough_81 (by decide) ?_
            refine lv_isub hx hb d_S_goThrough_82 ?_
            refine lv_goto (tgt := 87) hx hb d_S_goThrough_83 (by decide) ?_
            refine lv_istore_n (lv' := [(2, .int (nI d - nI 1)), (6, .int (nI 1)), (5, .int (nI (d * 6 + p1))), (0, .ref (ad 2)), (1, .ref a), (3, .int (nI p1)), (4, .int (nI t))]) hx hb d_S_goThrough_87 rfl hl (by decide) rfl (fun ls hl => ?_)
            refine lv_iload_n hx hb d_S_goThrough_88 rfl (lv_at hl 5 rfl) ?_
            refine nr_if_ne (tgt := 104) hx hb (by omega) d_S_goThrough_89 (by decide) (fun c_89 => by exfalso; omega) (fun c_89 => ?_)
            refine lv_aload_n hx hb d_S_goThrough_92 rfl (lv_at hl 3 rfl) ?_
            refine va_get (D := D) (ci := 1) (v := .ref (ad 1)) (C := R_S) (T := F_S) (N := 15) hx hb htb u_S hown hK hP 7 rfl rfl 0 (by decide) (htb _ q83) (fun _ h9 => h9) rfl d_S_goThrough_93 ?_
            refine va_getN (D := D) (ci := 0) (v := .int (nI (P 0 0))) (C := R_P) (T := F_P) (N := 12) hx hb htb u_P hown hK hP 0 rfl rfl 0 (by decide) (hN.at q29 rfl rfl) (fun _ h9 => h9) rfl d_S_goThrough_96 ?_
            refine nr_iconst hx hb 1 d_S_goThrough_99 (by decide) ?_
            refine nr_isub hx hb (by omega) d_S_goThrough_100 ?_
            refine lv_goto (tgt := 107) hx hb d_S_goThrough_101 (by decide) ?_
            refine lv_istore_n (lv' := [(3, .int (nI ((P 0 0) - 1))), (2, .int (nI d - nI 1)), (6, .int (nI 1)), (5, .int (nI (d * 6 + p1))), (0, .ref (ad 2)), (1, .ref a), (4, .int (nI t))]) hx hb d_S_goThrough_107 rfl hl (by decide) rfl (fun ls hl => ?_)
            refine lv_goto (tgt := 204) hx hb d_S_goThrough_108 (by decide) ?_
            refine nr_iinc (k := 6) (lv' := [(4, .int (nI (t + 1))), (3, .int (nI ((P 0 0) - 1))), (2, .int (nI d - nI 1)), (6, .int (nI 1)), (5, .int (nI (d * 6 + p1))), (0, .ref (ad 2)), (1, .ref a)]) hx hb d_S_goThrough_204 hl rfl (by decide) rfl (fun ls hl => ?_)
            refine lv_goto (tgt := 14) hx hb d_S_goThrough_207 (by decide) ?_
            refine lv_iload hx hb d_S_goThrough_14 (lv_at hl 0 rfl) ?_
            refine lv_ldc (v := nI 40002) hx hb hown (htb _ q490) d_S_goThrough_16 ?_
            refine nr_icmp_ge (tgt := 210) hx hb (by omega) (by omega) d_S_goThrough_18 (by decide) (fun c_18 => ?_) (fun c_18 => ?_)
            · exact W.vret hx hb hr (fun t ht hW => ⟨⟨S1, rfl, by rw [← hres, srch, if_pos (show (if d < S 0 1 then 0 < nx else 3 < nx) from (sim_ex hsim).mp c_73), if_pos c_77, if_pos hd0]; exact ⟨hok, x05, x02, x03, x4b⟩, by rw [ht]; exact hP, hD⟩, hS.F ht⟩) hS.2.2 d_S_goThrough_210
            · refine lv_iload_n hx hb d_S_goThrough_21 rfl (lv_at hl 2 rfl) ?_
              refine lv_if_lt (tgt := 210) hx hb d_S_goThrough_22 (by decide) (fun c_22 => ?_) (fun c_22 => absurd (by rw [hd0]; decide) c_22)
              exact W.vret hx hb hr (fun t ht hW => ⟨⟨S1, rfl, by rw [← hres, srch, if_pos (show (if d < S 0 1 then 0 < nx else 3 < nx) from (sim_ex hsim).mp c_73), if_pos c_77, if_pos hd0]; exact ⟨hok, x05, x02, x03, x4b⟩, by rw [ht]; exact hP, hD⟩, hS.F ht⟩) hS.2.2 d_S_goThrough_210
          · have hdm := mul_pred (n := P 0 0) hd0
            refine lv_iload_n hx hb d_S_goThrough_80 rfl (lv_at hl 4 rfl) ?_
            refine nr_iconst hx hb 1 d_S_goThrough_81 (by decide) ?_
            refine nr_isub hx hb (by omega) d_S_goThrough_82 ?_
            refine lv_goto (tgt := 87) hx hb d_S_goThrough_83 (by decide) ?_
            refine lv_istore_n (lv' := [(2, .int (nI (d - 1))), (6, .int (nI 1)), (5, .int (nI (d * 6 + p1))), (0, .ref (ad 2)), (1, .ref a), (3, .int (nI p1)), (4, .int (nI t))]) hx hb d_S_goThrough_87 rfl hl (by decide) rfl (fun ls hl => ?_)
            refine lv_iload_n hx hb d_S_goThrough_88 rfl (lv_at hl 5 rfl) ?_
            refine nr_if_ne (tgt := 104) hx hb (by omega) d_S_goThrough_89 (by decide) (fun c_89 => by exfalso; omega) (fun c_89 => ?_)
            refine lv_aload_n hx hb d_S_goThrough_92 rfl (lv_at hl 3 rfl) ?_
            refine va_get (D := D) (ci := 1) (v := .ref (ad 1)) (C := R_S) (T := F_S) (N := 15) hx hb htb u_S hown hK hP 7 rfl rfl 0 (by decide) (htb _ q83) (fun _ h9 => h9) rfl d_S_goThrough_93 ?_
            refine va_getN (D := D) (ci := 0) (v := .int (nI (P 0 0))) (C := R_P) (T := F_P) (N := 12) hx hb htb u_P hown hK hP 0 rfl rfl 0 (by decide) (hN.at q29 rfl rfl) (fun _ h9 => h9) rfl d_S_goThrough_96 ?_
            refine nr_iconst hx hb 1 d_S_goThrough_99 (by decide) ?_
            refine nr_isub hx hb (by omega) d_S_goThrough_100 ?_
            refine lv_goto (tgt := 107) hx hb d_S_goThrough_101 (by decide) ?_
            refine lv_istore_n (lv' := [(3, .int (nI ((P 0 0) - 1))), (2, .int (nI (d - 1))), (6, .int (nI 1)), (5, .int (nI (d * 6 + p1))), (0, .ref (ad 2)), (1, .ref a), (4, .int (nI t))]) hx hb d_S_goThrough_107 rfl hl (by decide) rfl (fun ls hl => ?_)
            refine lv_goto (tgt := 204) hx hb d_S_goThrough_108 (by decide) ?_
            refine nr_iinc (k := 6) (lv' := [(4, .int (nI (t + 1))), (3, .int (nI ((P 0 0) - 1))), (2, .int (nI (d - 1))), (6, .int (nI 1)), (5, .int (nI (d * 6 + p1))), (0, .ref (ad 2)), (1, .ref a)]) hx hb d_S_goThrough_204 hl rfl (by decide) rfl (fun ls hl => ?_)
            refine lv_goto (tgt := 14) hx hb d_S_goThrough_207 (by decide) ?_
            exact ih_14 _ _ _ _ _ _ _ _ _ _ _ _ _ (sim_backd hsim c_77 hd0) (by first | omega | (rw [Nat.add_mul]; omega)) (by omega) (by rw [← hres, srch, if_pos (show (if d < S 0 1 then 0 < nx else 3 < nx) from (sim_ex hsim).mp c_73), if_pos c_77, if_neg (show ¬ d = 0 by omega)]) (lv_sub hl [5, 6, 2, 1, 0] rfl) hP hD hS
end
section
def runI (S : Nat → Nat → Nat) (ro : Nat → Nat) (fz lim : Nat) : Nat → Nat → Nat := up2 (up2 (up2 (up2 (up2 (up2 (upr S 2 ro) 0 1 fz) 0 0 lim) 0 2 0) 0 3 0) 0 4 2001) 0 5 0
/-- what a solve comes to: stopped, steps, right ones, the least unmet sum, the best -/
def slv (P : Nat → Nat → Nat) (ro : Nat → Nat) (fz lim : Nat) : Nat × Nat × Nat × Nat × (Nat → Nat) := if P 0 0 = 0 ∨ P 0 1 = 0 then (if needFault P ro = 0 then (0, 0, 1, 0, ro) else (0, 0, 0, 0, ro)) else srch P ro fz lim 40002 0 0 0 0 0 0 (fun _ => 0) (fun _ => 0)
def ranS (S : Nat → Nat → Nat) (F : Nat × Nat × Nat × Nat × (Nat → Nat)) : Prop := okS S ∧ S 0 6 = 1 - F.1 ∧ S 0 2 = F.2.1 ∧ S 0 3 = F.2.2.1 ∧ (0 < F.2.2.1 → S 0 4 = F.2.2.2.1 ∧ S 1 = F.2.2.2.2)
theorem ok_run {S : Nat → Nat → Nat} {ro : Nat → Nat} {fz lim : Nat} (h : okS S) (hro : ∀ k, ro k ≤ 3) (hfz : fz ≤ 7) (hlim : lim ≤ 20000) : okS (runI S ro fz lim) := by
  obtain ⟨g00, g01, g02, g03, g04, g05, g06, hs1, hs2, hs3, hs4, hs5, hs6, hs7⟩ := h
  exact ⟨hlim, hfz, Nat.zero_le _, Nat.zero_le _, (by decide : 2001 ≤ 100000), Nat.zero_le _, g06, hs1, hro, hs3, hs4, hs5, hs6, hs7⟩
theorem to_05 {P S : Nat → Nat → Nat} {ro : Nat → Nat} {fz lim : Nat} : toS P (runI S ro fz lim) 0 5 = 0 := by
  unfold toS
  split <;> rfl
theorem ran_of {u : Nat → Nat → Nat} {F : Nat × Nat × Nat × Nat × (Nat → Nat)} {x : Nat} (h : goneS u F) (hx : x = 1 - F.1) (hx1 : x ≤ 1) : ranS (up2 u 0 6 x) F := by
  obtain ⟨⟨g00, g01, g02, g03, g04, g05, g06, hs1, hs2, hs3, hs4, hs5, hs6, hs7⟩, h5, h2, h3, h4⟩ := h
  exact ⟨⟨g00, g01, g02, g03, g04, g05, hx1, hs1, hs2, hs3, hs4, hs5, hs6, hs7⟩, hx, h2, h3, h4⟩
theorem ran_only {P S : Nat → Nat → Nat} {ro : Nat → Nat} {fz lim : Nat} (hz : P 0 0 = 0 ∨ P 0 1 = 0) (h : okS (runI S ro fz lim)) : ranS (up2 (toS P (runI S ro fz lim)) 0 6 1) (slv P ro fz lim) := by
  obtain ⟨g00, g01, g02, g03, g04, g05, g06, hs1, hs2, hs3, hs4, hs5, hs6, hs7⟩ := h
  have e : needFault P (runI S ro fz lim 2) = needFault P ro := rfl
  unfold slv toS
  rw [if_pos hz, e]
  split
  · exact ⟨⟨g00, g01, g02, (by decide : 1 ≤ 40000), Nat.zero_le _, g05, Nat.le_refl 1, hs2, hs2, hs3, hs4, hs5, hs6, hs7⟩, rfl, rfl, rfl, fun _ => ⟨rfl, rfl⟩⟩
  · exact ⟨⟨g00, g01, g02, g03, g04, g05, Nat.le_refl 1, hs1, hs2, hs3, hs4, hs5, hs6, hs7⟩, rfl, rfl, rfl, fun h => absurd h (Nat.lt_irrefl 0)⟩
set_option maxHeartbeats 4000000 in
set_option maxRecDepth 100000 in
theorem c_S_run (l : Launch) (D : va_G) (ad : Nat → Nat) (ca : Nat → ClassId) (P S : Nat → Nat → Nat) (a : Nat) (cS : ClassId) (ro : Nat → Nat) (hP0 : okP P) (hS0 : okS S) (hro : ∀ k, ro k ≤ 3) (fz lim : Nat) (hfz : fz ≤ 7) (hlim : lim ≤ 20000) (hout : ∀ k, ¬ (k % 6 < P 0 0 ∧ k / 6 < P 0 1) → ro k = 0) (sz : Nat) : Met l y_S_run w_S_run { frames := 5, cells := 0, slots := 0, locals := 121 } (rw_P [.ref (ad 2), .ref a, .int (nI fz), .int (nI lim)] D (wSP ad ca P S a cS ro) (tSP ca cS) sz) (rw_Qv (fun u : Nat → Nat → Nat => ranS u (slv P ro fz lim)) D (wSP ad ca P S a cS ro) (fun u => wSP ad ca P u a cS ro) sz) 0 0 (va_A (wSP ad ca P S a cS ro) sz) := by
  refine Met.ofW (cc := b_S_run) (maxL := 4) (ret := none) (by decide) rfl ?_
  intro p e s m args below meth c s₁ B hml hv
  obtain ⟨rfl, hsz, hN, hP, hK, hD0⟩ := hv
  have hx := B.exec
  have hb := B.bytes
  have hr := B.returns
  have hts := atoms_spec (ws := w_S_run) B.pre
  have htb : ∀ w ∈ TBG, w.before [.ref (ad 2), .ref a, .int (nI fz), .int (nI lim)].toArray s = true := fun w h => hts w (List.mem_cons_of_mem _ h)
  have hown : s.vm.findClass R_S = some m.cls := findClass_of_methodNamed B.named
  have hlocks := B.notSynchronized
  subst hsz
  have hD := hD0.self (sz := s.heap.size)
  unfold rw_Qv
  generalize hAe : va_A (wSP ad ca P S a cS ro) s.heap.size = A at hD ⊢
  have hA : ∀ q : Nat, s.heap.size ≤ q → A q := fun q h => by rw [← hAe]; exact Or.inr h
  have hS : va_S A s.heap s.heap [] := va_S.rf
  have hl := lv_entry ([.ref (ad 2), .ref a, .int (nI fz), .int (nI lim)]) (n := 4) (Nat.le_of_ble_eq_true rfl)
  rw [lg_entry_eq]
  generalize (lg_sl ([.ref (ad 2), .ref a, .int (nI fz), .int (nI lim)]) ++ List.replicate (4 - (lg_sl ([.ref (ad 2), .ref a, .int (nI fz), .int (nI lim)])).length) Slot.unset).toArray = ls at hl ⊢
  have hl : lv_has ls 4 [(0, .ref (ad 2)), (1, .ref a), (2, .int (nI fz)), (3, .int (nI lim))] := hl
  refine nr_start hP hS (fun H locs hP hS => ?_)
  obtain ⟨h00, h01, h02, h03, h04, h05, hp1, hp2, hp3, hp4, hp5, hp6⟩ := id hP0
  obtain ⟨g00, g01, g02, g03, g04, g05, g06, hs1, hs2, hs3, hs4, hs5, hs6, hs7⟩ := id hS0
  refine lv_aload_n hx hb d_S_run_0 rfl (lv_at hl 1 rfl) ?_
  refine nr_iconst hx hb 0 d_S_run_1 (by decide) ?_
  refine lv_aload_n hx hb d_S_run_2 rfl (lv_at hl 0 rfl) ?_
  refine va_get (D := D) (ci := 1) (v := .ref (ad 10)) (C := R_S) (T := F_S) (N := 15) hx hb htb u_S hown hK hP 7 rfl rfl 2 (by decide) (htb _ q86) (fun _ h9 => h9) rfl d_S_run_3 ?_
  refine nr_iconst hx hb 0 d_S_run_6 (by decide) ?_
  refine nr_bipush hx hb 42 d_S_run_7 (by decide) ?_
  refine nr_copy hx hb (hml.trans hl.1.symm) hown (htb _ q471) (htb _ q235) (htb _ q234) (htb _ q12) hK hP hD hS 15 9 13 7 rfl rfl rfl rfl (Nat.le_of_ble_eq_true rfl) (Nat.le_of_ble_eq_true rfl) d_S_run_9 (fun H locs hP hD hS => ?_)
  have hP : va_P D cls (wSP ad ca P (upr S 2 ro) a cS ro) H := hP
  have hD : va_D A (wSP ad ca P (upr S 2 ro) a cS ro) := hD
  refine lv_aload_n hx hb d_S_run_12 rfl (lv_at hl 0 rfl) ?_
  refine lv_iload_n hx hb d_S_run_13 rfl (lv_at hl 2 rfl) ?_
  refine va_put (D := D) (ci := 1) (v := .int (nI fz)) (ty := .int) (C := R_S) (T := F_S) (N := 15) hx hb htb u_S t_S t_S_ok n_S hown hK hP hD hS 7 rfl rfl 9 (by decide) (htb _ q93) (fun _ h9 => h9) rfl (by decide +kernel) rfl rfl (Nat.le_of_ble_eq_true rfl) d_S_run_14 (fun H locs hP hD hS => ?_)
  have hP : va_P D cls (wSP ad ca P (up2 (upr S 2 ro) 0 1 fz) a cS ro) H := hP
  have hD : va_D A (wSP ad ca P (up2 (upr S 2 ro) 0 1 fz) a cS ro) := hD
  refine lv_aload_n hx hb d_S_run_17 rfl (lv_at hl 0 rfl) ?_
  refine lv_iload_n hx hb d_S_run_18 rfl (lv_at hl 3 rfl) ?_
  refine va_put (D := D) (ci := 1) (v := .int (nI lim)) (ty := .int) (C := R_S) (T := F_S) (N := 15) hx hb htb u_S t_S t_S_ok n_S hown hK hP hD hS 7 rfl rfl 8 (by decide) (htb _ q92) (fun _ h9 => h9) rfl (by decide +kernel) rfl rfl (Nat.le_of_ble_eq_true rfl) d_S_run_19 (fun H locs hP hD hS => ?_)
  have hP : va_P D cls (wSP ad ca P (up2 (up2 (upr S 2 ro) 0 1 fz) 0 0 lim) a cS ro) H := hP
  have hD : va_D A (wSP ad ca P (up2 (up2 (upr S 2 ro) 0 1 fz) 0 0 lim) a cS ro) := hD
  refine lv_aload_n hx hb d_S_run_22 rfl (lv_at hl 0 rfl) ?_
  refine nr_iconst hx hb 0 d_S_run_23 (by decide) ?_
  refine va_put (D := D) (ci := 1) (v := .int (nI 0)) (ty := .int) (C := R_S) (T := F_S) (N := 15) hx hb htb u_S t_S t_S_ok n_S hown hK hP hD hS 7 rfl rfl 10 (by decide) (htb _ q94) (fun _ h9 => h9) rfl (by decide +kernel) rfl rfl (Nat.le_of_ble_eq_true rfl) d_S_run_24 (fun H locs hP hD hS => ?_)
  have hP : va_P D cls (wSP ad ca P (up2 (up2 (up2 (upr S 2 ro) 0 1 fz) 0 0 lim) 0 2 0) a cS ro) H := hP
  have hD : va_D A (wSP ad ca P (up2 (up2 (up2 (upr S 2 ro) 0 1 fz) 0 0 lim) 0 2 0) a cS ro) := hD
  refine lv_aload_n hx hb d_S_run_27 rfl (lv_at hl 0 rfl) ?_
  refine nr_iconst hx hb 0 d_S_run_28 (by decide) ?_
  refine va_put (D := D) (ci := 1) (v := .int (nI 0)) (ty := .int) (C := R_S) (T := F_S) (N := 15) hx hb htb u_S t_S t_S_ok n_S hown hK hP hD hS 7 rfl rfl 11 (by decide) (htb _ q96) (fun _ h9 => h9) rfl (by decide +kernel) rfl rfl (Nat.le_of_ble_eq_true rfl) d_S_run_29 (fun H locs hP hD hS => ?_)
  have hP : va_P D cls (wSP ad ca P (up2 (up2 (up2 (up2 (upr S 2 ro) 0 1 fz) 0 0 lim) 0 2 0) 0 3 0) a cS ro) H := hP
  have hD : va_D A (wSP ad ca P (up2 (up2 (up2 (up2 (upr S 2 ro) 0 1 fz) 0 0 lim) 0 2 0) 0 3 0) a cS ro) := hD
  refine lv_aload_n hx hb d_S_run_32 rfl (lv_at hl 0 rfl) ?_
  refine nr_sipush hx hb 2001 d_S_run_33 (by decide) ?_
  refine va_put (D := D) (ci := 1) (v := .int (nI 2001)) (ty := .int) (C := R_S) (T := F_S) (N := 15) hx hb htb u_S t_S t_S_ok n_S hown hK hP hD hS 7 rfl rfl 12 (by decide) (htb _ q98) (fun _ h9 => h9) rfl (by decide +kernel) rfl rfl (Nat.le_of_ble_eq_true rfl) d_S_run_36 (fun H locs hP hD hS => ?_)
  have hP : va_P D cls (wSP ad ca P (up2 (up2 (up2 (up2 (up2 (upr S 2 ro) 0 1 fz) 0 0 lim) 0 2 0) 0 3 0) 0 4 2001) a cS ro) H := hP
  have hD : va_D A (wSP ad ca P (up2 (up2 (up2 (up2 (up2 (upr S 2 ro) 0 1 fz) 0 0 lim) 0 2 0) 0 3 0) 0 4 2001) a cS ro) := hD
  refine lv_aload_n hx hb d_S_run_39 rfl (lv_at hl 0 rfl) ?_
  refine nr_iconst hx hb 0 d_S_run_40 (by decide) ?_
  refine va_put (D := D) (ci := 1) (v := .int (nI 0)) (ty := .boolean) (C := R_S) (T := F_S) (N := 15) hx hb htb u_S t_S t_S_ok n_S hown hK hP hD hS 7 rfl rfl 13 (by decide) (htb _ q100) (fun _ h9 => h9) rfl (by decide +kernel) (nr_bool (by omega)) (nr_boolF (by omega)) (Nat.le_of_ble_eq_true rfl) d_S_run_41 (fun H locs hP hD hS => ?_)
  have hP : va_P D cls (wSP ad ca P (up2 (up2 (up2 (up2 (up2 (up2 (upr S 2 ro) 0 1 fz) 0 0 lim) 0 2 0) 0 3 0) 0 4 2001) 0 5 0) a cS ro) H := hP
  have hD : va_D A (wSP ad ca P (up2 (up2 (up2 (up2 (up2 (up2 (upr S 2 ro) 0 1 fz) 0 0 lim) 0 2 0) 0 3 0) 0 4 2001) 0 5 0) a cS ro) := hD
  have hfold : up2 (up2 (up2 (up2 (up2 (up2 (upr S 2 ro) 0 1 fz) 0 0 lim) 0 2 0) 0 3 0) 0 4 2001) 0 5 0 = runI S ro fz lim := rfl
  rw [hfold] at hP hD
  refine lv_aload_n hx hb d_S_run_44 rfl (lv_at hl 0 rfl) ?_
  refine va_get (D := D) (ci := 1) (v := .ref (ad 1)) (C := R_S) (T := F_S) (N := 15) hx hb htb u_S hown hK hP 7 rfl rfl 0 (by decide) (htb _ q83) (fun _ h9 => h9) rfl d_S_run_45 ?_
  refine va_getN (D := D) (ci := 0) (v := .int (nI (P 0 0))) (C := R_P) (T := F_P) (N := 12) hx hb htb u_P hown hK hP 0 rfl rfl 0 (by decide) (hN.at q29 rfl rfl) (fun _ h9 => h9) rfl d_S_run_48 ?_
  refine nr_if_eq (tgt := 64) hx hb (by omega) d_S_run_51 (by decide) (fun c_51 => ?_) (fun c_51 => ?_)
  · refine lv_aload_n hx hb d_S_run_64 rfl (lv_at hl 0 rfl) ?_
    have hcurS : okS (runI S ro fz lim) := (ok_run hS0 hro hfz hlim)
    refine nr_callv (wr := ([] : va_W)) (va_runV (As := []) (rest := []) ⟨hx, hb, hml, hown, hts⟩ (c_S_takeOnlyRoster l D ad ca P (runI S ro fz lim) a cS ro hP0 hcurS hro H.size) ⟨callB_of 0 hts (gTB q_S_takeOnlyRoster) rfl rfl rfl (htb _ q3) (htb _ q472) hd_S_takeOnlyRoster ⟨Nat.le_of_ble_eq_true rfl, Nat.le_of_ble_eq_true rfl⟩, (htb _ q474), (htb _ sel_S_takeOnlyRoster)⟩ ⟨rw_blind, va_recv (hK.sub (tys' := []) [] rfl) hP (ci := 1) (q0 := 7) rfl rfl, rw_pre hN (hP.sub (ws' := (wSP ad ca P (runI S ro fz lim) a cS ro)) [0, 1, 2, 3, 4, 5, 6, 7, 8, 9, 10, 11, 12, 13, 14, 15] rfl) (hK.sub (tys' := (tSP ca cS)) [0, 1, 2, 3, 4, 5, 6, 7, 8, 9, 10, 11, 12, 13] rfl) (hD.sub (ws' := (wSP ad ca P (runI S ro fz lim) a cS ro)) [0, 1, 2, 3, 4, 5, 6, 7, 8, 9, 10, 11, 12, 13, 14, 15] (by decide) rfl)⟩ rfl rfl hl.1 rfl (lv_room (Nat.le_of_ble_eq_true rfl)) d_S_run_65 ⟨Nat.le_of_ble_eq_true rfl, Nat.le_of_ble_eq_true rfl⟩) hP hD hS hA [0, 1, 2, 3, 4, 5, 6, 7, 8, 9, 10, 11, 12, 13, 14, 15] [] rfl rfl (by decide) (by decide) (fun u_2 H locs hu_2 hP hD hS => ?_)
    replace hP := hP.sub (ws' := wSP ad ca P (toS P (runI S ro fz lim)) a cS ro) [0, 1, 2, 3, 4, 5, 6, 7, 8, 9, 10, 11, 12, 13, 14, 15] rfl
    replace hD := hD.sub (ws' := wSP ad ca P (toS P (runI S ro fz lim)) a cS ro) [0, 1, 2, 3, 4, 5, 6, 7, 8, 9, 10, 11, 12, 13, 14, 15] (by decide) rfl
    refine lv_goto (tgt := 76) hx hb d_S_run_68 (by decide) ?_
    have h05z : toS P (runI S ro fz lim) 0 5 = 0 := to_05
    refine lv_aload_n hx hb d_S_run_76 rfl (lv_at hl 0 rfl) ?_
    refine lv_aload_n hx hb d_S_run_77 rfl (lv_at hl 0 rfl) ?_
    refine va_get (D := D) (ci := 1) (v := .int (nI ((toS P (runI S ro fz lim)) 0 5))) (C := R_S) (T := F_S) (N := 15) hx hb htb u_S hown hK hP 7 rfl rfl 13 (by decide) (htb _ q100) (fun _ h9 => h9) rfl d_S_run_78 ?_
    refine nr_if_ne (tgt := 88) hx hb (by omega) d_S_run_81 (by decide) (fun c_81 => by exfalso; omega) (fun c_81 => ?_)
    refine nr_iconst hx hb 1 d_S_run_84 (by decide) ?_
    refine lv_goto (tgt := 89) hx hb d_S_run_85 (by decide) ?_
    refine va_put (D := D) (ci := 1) (v := .int (nI 1)) (ty := .boolean) (C := R_S) (T := F_S) (N := 15) hx hb htb u_S t_S t_S_ok n_S hown hK hP hD hS 7 rfl rfl 14 (by decide) (htb _ q101) (fun _ h9 => h9) rfl (by decide +kernel) (nr_bool (by omega)) (nr_boolF (by omega)) (Nat.le_of_ble_eq_true rfl) d_S_run_89 (fun H locs hP hD hS => ?_)
    have hP : va_P D cls (wSP ad ca P (up2 (toS P (runI S ro fz lim)) 0 6 1) a cS ro) H := hP
    have hD : va_D A (wSP ad ca P (up2 (toS P (runI S ro fz lim)) 0 6 1) a cS ro) := hD
    exact W.vret hx hb hr (fun t ht hW => ⟨⟨up2 (toS P (runI S ro fz lim)) 0 6 1, rfl, ran_only (by omega) (ok_run hS0 hro hfz hlim), by rw [ht]; exact hP, hD⟩, hS.F ht⟩) hS.2.2 d_S_run_92
  · refine lv_aload_n hx hb d_S_run_54 rfl (lv_at hl 0 rfl) ?_
    refine va_get (D := D) (ci := 1) (v := .ref (ad 1)) (C := R_S) (T := F_S) (N := 15) hx hb htb u_S hown hK hP 7 rfl rfl 0 (by decide) (htb _ q83) (fun _ h9 => h9) rfl d_S_run_55 ?_
    refine va_getN (D := D) (ci := 0) (v := .int (nI (P 0 1))) (C := R_P) (T := F_P) (N := 12) hx hb htb u_P hown hK hP 0 rfl rfl 1 (by decide) (hN.at q32 rfl rfl) (fun _ h9 => h9) rfl d_S_run_58 ?_
    refine nr_if_ne (tgt := 71) hx hb (by omega) d_S_run_61 (by decide) (fun c_61 => ?_) (fun c_61 => ?_)
    · refine lv_aload_n hx hb d_S_run_71 rfl (lv_at hl 0 rfl) ?_
      refine lv_aload_n hx hb d_S_run_72 rfl (lv_at hl 1 rfl) ?_
      have hcurS : okS (runI S ro fz lim) := (ok_run hS0 hro hfz hlim)
      refine nr_callv (wr := ([] : va_W)) (va_runV (As := [.ref a]) (rest := []) ⟨hx, hb, hml, hown, hts⟩ (c_S_goThrough l D ad ca P (runI S ro fz lim) a cS ro hP0 hcurS hro (by omega) (by omega) rfl rfl rfl rfl rfl hout H.size) ⟨callB_of 1 hts (gTB q_S_goThrough) rfl rfl rfl (htb _ q3) (htb _ q481) hd_S_goThrough ⟨Nat.le_of_ble_eq_true rfl, Nat.le_of_ble_eq_true rfl⟩, (htb _ q483), (htb _ sel_S_goThrough)⟩ ⟨rw_blind, va_recv (hK.sub (tys' := []) [] rfl) hP (ci := 1) (q0 := 7) rfl rfl, rw_pre hN (hP.sub (ws' := (wSP ad ca P (runI S ro fz lim) a cS ro)) [0, 1, 2, 3, 4, 5, 6, 7, 8, 9, 10, 11, 12, 13, 14, 15] rfl) (hK.sub (tys' := (tSP ca cS)) [0, 1, 2, 3, 4, 5, 6, 7, 8, 9, 10, 11, 12, 13] rfl) (hD.sub (ws' := (wSP ad ca P (runI S ro fz lim) a cS ro)) [0, 1, 2, 3, 4, 5, 6, 7, 8, 9, 10, 11, 12, 13, 14, 15] (by decide) rfl)⟩ rfl rfl hl.1 rfl (lv_room (Nat.le_of_ble_eq_true rfl)) d_S_run_73 ⟨Nat.le_of_ble_eq_true rfl, Nat.le_of_ble_eq_true rfl⟩) hP hD hS hA [0, 1, 2, 3, 4, 5, 6, 7, 8, 9, 10, 11, 12, 13, 14, 15] [] rfl rfl (by decide) (by decide) (fun u_4 H locs hu_4 hP hD hS => ?_)
      replace hP := hP.sub (ws' := wSP ad ca P u_4 a cS ro) [0, 1, 2, 3, 4, 5, 6, 7, 8, 9, 10, 11, 12, 13, 14, 15] rfl
      replace hD := hD.sub (ws' := wSP ad ca P u_4 a cS ro) [0, 1, 2, 3, 4, 5, 6, 7, 8, 9, 10, 11, 12, 13, 14, 15] (by decide) rfl
      have hgo : goneS u_4 (srch P ro fz lim 40002 0 0 0 0 0 0 (fun _ => 0) (fun _ => 0)) := hu_4
      have hg05 := hgo.2.1
      have hg5 := (hgo.1).2.2.2.2.2.1
      refine lv_aload_n hx hb d_S_run_76 rfl (lv_at hl 0 rfl) ?_
      refine lv_aload_n hx hb d_S_run_77 rfl (lv_at hl 0 rfl) ?_
      refine va_get (D := D) (ci := 1) (v := .int (nI (u_4 0 5))) (C := R_S) (T := F_S) (N := 15) hx hb htb u_S hown hK hP 7 rfl rfl 13 (by decide) (htb _ q100) (fun _ h9 => h9) rfl d_S_run_78 ?_
      refine nr_if_ne (tgt := 88) hx hb (by omega) d_S_run_81 (by decide) (fun c_81 => ?_) (fun c_81 => ?_)
      · refine nr_iconst hx hb 0 d_S_run_88 (by decide) ?_
        refine va_put (D := D) (ci := 1) (v := .int (nI 0)) (ty := .boolean) (C := R_S) (T := F_S) (N := 15) hx hb htb u_S t_S t_S_ok n_S hown hK hP hD hS 7 rfl rfl 14 (by decide) (htb _ q101) (fun _ h9 => h9) rfl (by decide +kernel) (nr_bool (by omega)) (nr_boolF (by omega)) (Nat.le_of_ble_eq_true rfl) d_S_run_89 (fun H locs hP hD hS => ?_)
        have hP : va_P D cls (wSP ad ca P (up2 u_4 0 6 0) a cS ro) H := hP
        have hD : va_D A (wSP ad ca P (up2 u_4 0 6 0) a cS ro) := hD
        exact W.vret hx hb hr (fun t ht hW => ⟨⟨up2 u_4 0 6 0, rfl, by unfold slv; rw [if_neg (by omega)]; exact ran_of hgo (by omega) (by omega), by rw [ht]; exact hP, hD⟩, hS.F ht⟩) hS.2.2 d_S_run_92
      · refine nr_iconst hx hb 1 d_S_run_84 (by decide) ?_
        refine lv_goto (tgt := 89) hx hb d_S_run_85 (by decide) ?_
        refine va_put (D := D) (ci := 1) (v := .int (nI 1)) (ty := .boolean) (C := R_S) (T := F_S) (N := 15) hx hb htb u_S t_S t_S_ok n_S hown hK hP hD hS 7 rfl rfl 14 (by decide) (htb _ q101) (fun _ h9 => h9) rfl (by decide +kernel) (nr_bool (by omega)) (nr_boolF (by omega)) (Nat.le_of_ble_eq_true rfl) d_S_run_89 (fun H locs hP hD hS => ?_)
        have hP : va_P D cls (wSP ad ca P (up2 u_4 0 6 1) a cS ro) H := hP
        have hD : va_D A (wSP ad ca P (up2 u_4 0 6 1) a cS ro) := hD
        exact W.vret hx hb hr (fun t ht hW => ⟨⟨up2 u_4 0 6 1, rfl, by unfold slv; rw [if_neg (by omega)]; exact ran_of hgo (by omega) (by omega), by rw [ht]; exact hP, hD⟩, hS.F ht⟩) hS.2.2 d_S_run_92
    · refine lv_aload_n hx hb d_S_run_64 rfl (lv_at hl 0 rfl) ?_
      have hcurS : okS (runI S ro fz lim) := (ok_run hS0 hro hfz hlim)
      refine nr_callv (wr := ([] : va_W)) (va_runV (As := []) (rest := []) ⟨hx, hb, hml, hown, hts⟩ (c_S_takeOnlyRoster l D ad ca P (runI S ro fz lim) a cS ro hP0 hcurS hro H.size) ⟨callB_of 0 hts (gTB q_S_takeOnlyRoster) rfl rfl rfl (htb _ q3) (htb _ q472) hd_S_takeOnlyRoster ⟨Nat.le_of_ble_eq_true rfl, Nat.le_of_ble_eq_true rfl⟩, (htb _ q474), (htb _ sel_S_takeOnlyRoster)⟩ ⟨rw_blind, va_recv (hK.sub (tys' := []) [] rfl) hP (ci := 1) (q0 := 7) rfl rfl, rw_pre hN (hP.sub (ws' := (wSP ad ca P (runI S ro fz lim) a cS ro)) [0, 1, 2, 3, 4, 5, 6, 7, 8, 9, 10, 11, 12, 13, 14, 15] rfl) (hK.sub (tys' := (tSP ca cS)) [0, 1, 2, 3, 4, 5, 6, 7, 8, 9, 10, 11, 12, 13] rfl) (hD.sub (ws' := (wSP ad ca P (runI S ro fz lim) a cS ro)) [0, 1, 2, 3, 4, 5, 6, 7, 8, 9, 10, 11, 12, 13, 14, 15] (by decide) rfl)⟩ rfl rfl hl.1 rfl (lv_room (Nat.le_of_ble_eq_true rfl)) d_S_run_65 ⟨Nat.le_of_ble_eq_true rfl, Nat.le_of_ble_eq_true rfl⟩) hP hD hS hA [0, 1, 2, 3, 4, 5, 6, 7, 8, 9, 10, 11, 12, 13, 14, 15] [] rfl rfl (by decide) (by decide) (fun u_7 H locs hu_7 hP hD hS => ?_)
      replace hP := hP.sub (ws' := wSP ad ca P (toS P (runI S ro fz lim)) a cS ro) [0, 1, 2, 3, 4, 5, 6, 7, 8, 9, 10, 11, 12, 13, 14, 15] rfl
      replace hD := hD.sub (ws' := wSP ad ca P (toS P (runI S ro fz lim)) a cS ro) [0, 1, 2, 3, 4, 5, 6, 7, 8, 9, 10, 11, 12, 13, 14, 15] (by decide) rfl
      refine lv_goto (tgt := 76) hx hb d_S_run_68 (by decide) ?_
      have h05z : toS P (runI S ro fz lim) 0 5 = 0 := to_05
      refine lv_aload_n hx hb d_S_run_76 rfl (lv_at hl 0 rfl) ?_
      refine lv_aload_n hx hb d_S_run_77 rfl (lv_at hl 0 rfl) ?_
      refine va_get (D := D) (ci := 1) (v := .int (nI ((toS P (runI S ro fz lim)) 0 5))) (C := R_S) (T := F_S) (N := 15) hx hb htb u_S hown hK hP 7 rfl rfl 13 (by decide) (htb _ q100) (fun _ h9 => h9) rfl d_S_run_78 ?_
      refine nr_if_ne (tgt := 88) hx hb (by omega) d_S_run_81 (by decide) (fun c_81 => by exfalso; omega) (fun c_81 => ?_)
      refine nr_iconst hx hb 1 d_S_run_84 (by decide) ?_
      refine lv_goto (tgt := 89) hx hb d_S_run_85 (by decide) ?_
      refine va_put (D := D) (ci := 1) (v := .int (nI 1)) (ty := .boolean) (C := R_S) (T := F_S) (N := 15) hx hb htb u_S t_S t_S_ok n_S hown hK hP hD hS 7 rfl rfl 14 (by decide) (htb _ q101) (fun _ h9 => h9) rfl (by decide +kernel) (nr_bool (by omega)) (nr_boolF (by omega)) (Nat.le_of_ble_eq_true rfl) d_S_run_89 (fun H locs hP hD hS => ?_)
      have hP : va_P D cls (wSP ad ca P (up2 (toS P (runI S ro fz lim)) 0 6 1) a cS ro) H := hP
      have hD : va_D A (wSP ad ca P (up2 (toS P (runI S ro fz lim)) 0 6 1) a cS ro) := hD
      exact W.vret hx hb hr (fun t ht hW => ⟨⟨up2 (toS P (runI S ro fz lim)) 0 6 1, rfl, ran_only (by omega) (ok_run hS0 hro hfz hlim), by rw [ht]; exact hP, hD⟩, hS.F ht⟩) hS.2.2 d_S_run_92
end
section
theorem d_M_init_0 : decode b_M_init 0 = .ok (.aload_n 0, 1) := by decide +kernel
theorem d_M_init_1 : decode b_M_init 1 = .ok (.invokespecial 1, 3) := by decide +kernel
theorem d_M_init_4 : decode b_M_init 4 = .ok (.aload_n 0, 1) := by decide +kernel
theorem d_M_init_5 : decode b_M_init 5 = .ok (.bipush 6, 2) := by decide +kernel
theorem d_M_init_7 : decode b_M_init 7 = .ok (.newarray .int, 2) := by decide +kernel
theorem d_M_init_9 : decode b_M_init 9 = .ok (.putfield 7, 3) := by decide +kernel
theorem d_M_init_12 : decode b_M_init 12 = .ok (.aload_n 0, 1) := by decide +kernel
theorem d_M_init_13 : decode b_M_init 13 = .ok (.bipush 6, 2) := by decide +kernel
theorem d_M_init_15 : decode b_M_init 15 = .ok (.newarray .int, 2) := by decide +kernel
theorem d_M_init_17 : decode b_M_init 17 = .ok (.putfield 13, 3) := by decide +kernel
theorem d_M_init_20 : decode b_M_init 20 = .ok (.aload_n 0, 1) := by decide +kernel
theorem d_M_init_21 : decode b_M_init 21 = .ok (.bipush 42, 2) := by decide +kernel
theorem d_M_init_23 : decode b_M_init 23 = .ok (.newarray .int, 2) := by decide +kernel
theorem d_M_init_25 : decode b_M_init 25 = .ok (.putfield 16, 3) := by decide +kernel
theorem d_M_init_28 : decode b_M_init 28 = .ok (.aload_n 0, 1) := by decide +kernel
theorem d_M_init_29 : decode b_M_init 29 = .ok (.bipush 42, 2) := by decide +kernel
theorem d_M_init_31 : decode b_M_init 31 = .ok (.newarray .int, 2) := by decide +kernel
theorem d_M_init_33 : decode b_M_init 33 = .ok (.putfield 19, 3) := by decide +kernel
theorem d_M_init_36 : decode b_M_init 36 = .ok (.aload_n 0, 1) := by decide +kernel
theorem d_M_init_37 : decode b_M_init 37 = .ok (.bipush 42, 2) := by decide +kernel
theorem d_M_init_39 : decode b_M_init 39 = .ok (.newarray .int, 2) := by decide +kernel
theorem d_M_init_41 : decode b_M_init 41 = .ok (.putfield 22, 3) := by decide +kernel
theorem d_M_init_44 : decode b_M_init 44 = .ok (.aload_n 0, 1) := by decide +kernel
theorem d_M_init_45 : decode b_M_init 45 = .ok (.bipush 42, 2) := by decide +kernel
theorem d_M_init_47 : decode b_M_init 47 = .ok (.newarray .int, 2) := by decide +kernel
theorem d_M_init_49 : decode b_M_init 49 = .ok (.putfield 25, 3) := by decide +kernel
theorem d_M_init_52 : decode b_M_init 52 = .ok (.aload_n 0, 1) := by decide +kernel
theorem d_M_init_53 : decode b_M_init 53 = .ok (.bipush 28, 2) := by decide +kernel
theorem d_M_init_55 : decode b_M_init 55 = .ok (.newarray .int, 2) := by decide +kernel
theorem d_M_init_57 : decode b_M_init 57 = .ok (.putfield 28, 3) := by decide +kernel
theorem d_M_init_60 : decode b_M_init 60 = .ok (.aload_n 0, 1) := by decide +kernel
theorem d_M_init_61 : decode b_M_init 61 = .ok (.bipush 28, 2) := by decide +kernel
theorem d_M_init_63 : decode b_M_init 63 = .ok (.newarray .int, 2) := by decide +kernel
theorem d_M_init_65 : decode b_M_init 65 = .ok (.putfield 31, 3) := by decide +kernel
theorem d_M_init_68 : decode b_M_init 68 = .ok (.aload_n 0, 1) := by decide +kernel
theorem d_M_init_69 : decode b_M_init 69 = .ok (.sipush 168, 3) := by decide +kernel
theorem d_M_init_72 : decode b_M_init 72 = .ok (.newarray .boolean, 2) := by decide +kernel
theorem d_M_init_74 : decode b_M_init 74 = .ok (.putfield 34, 3) := by decide +kernel
theorem d_M_init_77 : decode b_M_init 77 = .ok (.aload_n 0, 1) := by decide +kernel
theorem d_M_init_78 : decode b_M_init 78 = .ok (.bipush 11, 2) := by decide +kernel
theorem d_M_init_80 : decode b_M_init 80 = .ok (.putfield 38, 3) := by decide +kernel
theorem d_M_init_83 : decode b_M_init 83 = .ok (.aload_n 0, 1) := by decide +kernel
theorem d_M_init_84 : decode b_M_init 84 = .ok (.bipush 7, 2) := by decide +kernel
theorem d_M_init_86 : decode b_M_init 86 = .ok (.putfield 42, 3) := by decide +kernel
theorem d_M_init_89 : decode b_M_init 89 = .ok (.aload_n 0, 1) := by decide +kernel
theorem d_M_init_90 : decode b_M_init 90 = .ok (.bipush 7, 2) := by decide +kernel
theorem d_M_init_92 : decode b_M_init 92 = .ok (.putfield 45, 3) := by decide +kernel
theorem d_M_init_95 : decode b_M_init 95 = .ok (.aload_n 0, 1) := by decide +kernel
theorem d_M_init_96 : decode b_M_init 96 = .ok (.bipush 20, 2) := by decide +kernel
theorem d_M_init_98 : decode b_M_init 98 = .ok (.newarray .int, 2) := by decide +kernel
theorem d_M_init_100 : decode b_M_init 100 = .ok (.putfield 48, 3) := by decide +kernel
theorem d_M_init_103 : decode b_M_init 103 = .ok (.aload_n 0, 1) := by decide +kernel
theorem d_M_init_104 : decode b_M_init 104 = .ok (.bipush 20, 2) := by decide +kernel
theorem d_M_init_106 : decode b_M_init 106 = .ok (.newarray .int, 2) := by decide +kernel
theorem d_M_init_108 : decode b_M_init 108 = .ok (.putfield 51, 3) := by decide +kernel
theorem d_M_init_111 : decode b_M_init 111 = .ok (.aload_n 0, 1) := by decide +kernel
theorem d_M_init_112 : decode b_M_init 112 = .ok (.bipush 20, 2) := by decide +kernel
theorem d_M_init_114 : decode b_M_init 114 = .ok (.newarray .int, 2) := by decide +kernel
theorem d_M_init_116 : decode b_M_init 116 = .ok (.putfield 54, 3) := by decide +kernel
theorem d_M_init_119 : decode b_M_init 119 = .ok (.aload_n 0, 1) := by decide +kernel
theorem d_M_init_120 : decode b_M_init 120 = .ok (.bipush 20, 2) := by decide +kernel
theorem d_M_init_122 : decode b_M_init 122 = .ok (.newarray .boolean, 2) := by decide +kernel
theorem d_M_init_124 : decode b_M_init 124 = .ok (.putfield 57, 3) := by decide +kernel
theorem d_M_init_127 : decode b_M_init 127 = .ok (.aload_n 0, 1) := by decide +kernel
theorem d_M_init_128 : decode b_M_init 128 = .ok (.bipush 20, 2) := by decide +kernel
theorem d_M_init_130 : decode b_M_init 130 = .ok (.newarray .int, 2) := by decide +kernel
theorem d_M_init_132 : decode b_M_init 132 = .ok (.putfield 60, 3) := by decide +kernel
theorem d_M_init_135 : decode b_M_init 135 = .ok (.return_, 1) := by decide +kernel
theorem d_M_thrown_0 : decode b_M_thrown 0 = .ok (.aload_n 0, 1) := by decide +kernel
theorem d_M_thrown_1 : decode b_M_thrown 1 = .ok (.getfield 63, 3) := by decide +kernel
theorem d_M_thrown_4 : decode b_M_thrown 4 = .ok (.ireturn, 1) := by decide +kernel
theorem d_M_throwing_0 : decode b_M_throwing 0 = .ok (.aload_n 0, 1) := by decide +kernel
theorem d_M_throwing_1 : decode b_M_throwing 1 = .ok (.iload_n 1, 1) := by decide +kernel
theorem d_M_throwing_2 : decode b_M_throwing 2 = .ok (.ifCond .eq 7, 3) := by decide +kernel
theorem d_M_throwing_5 : decode b_M_throwing 5 = .ok (.iconst 1, 1) := by decide +kernel
theorem d_M_throwing_6 : decode b_M_throwing 6 = .ok (.goto 29, 3) := by decide +kernel
theorem d_M_throwing_9 : decode b_M_throwing 9 = .ok (.iload_n 2, 1) := by decide +kernel
theorem d_M_throwing_10 : decode b_M_throwing 10 = .ok (.ifCond .eq 7, 3) := by decide +kernel
theorem d_M_throwing_13 : decode b_M_throwing 13 = .ok (.iconst 2, 1) := by decide +kernel
theorem d_M_throwing_14 : decode b_M_throwing 14 = .ok (.goto 21, 3) := by decide +kernel
theorem d_M_throwing_17 : decode b_M_throwing 17 = .ok (.iload_n 3, 1) := by decide +kernel
theorem d_M_throwing_18 : decode b_M_throwing 18 = .ok (.ifCond .eq 7, 3) := by decide +kernel
theorem d_M_throwing_21 : decode b_M_throwing 21 = .ok (.iconst 3, 1) := by decide +kernel
theorem d_M_throwing_22 : decode b_M_throwing 22 = .ok (.goto 13, 3) := by decide +kernel
theorem d_M_throwing_25 : decode b_M_throwing 25 = .ok (.iload 4, 2) := by decide +kernel
theorem d_M_throwing_27 : decode b_M_throwing 27 = .ok (.ifCond .eq 7, 3) := by decide +kernel
theorem d_M_throwing_30 : decode b_M_throwing 30 = .ok (.iconst 4, 1) := by decide +kernel
theorem d_M_throwing_31 : decode b_M_throwing 31 = .ok (.goto 4, 3) := by decide +kernel
theorem d_M_throwing_34 : decode b_M_throwing 34 = .ok (.iconst 0, 1) := by decide +kernel
theorem d_M_throwing_35 : decode b_M_throwing 35 = .ok (.putfield 63, 3) := by decide +kernel
theorem d_M_throwing_38 : decode b_M_throwing 38 = .ok (.aload_n 0, 1) := by decide +kernel
theorem d_M_throwing_39 : decode b_M_throwing 39 = .ok (.getfield 63, 3) := by decide +kernel
theorem d_M_throwing_42 : decode b_M_throwing 42 = .ok (.ifCond .le 7, 3) := by decide +kernel
theorem d_M_throwing_45 : decode b_M_throwing 45 = .ok (.iconst 1, 1) := by decide +kernel
theorem d_M_throwing_46 : decode b_M_throwing 46 = .ok (.goto 4, 3) := by decide +kernel
theorem d_M_throwing_49 : decode b_M_throwing 49 = .ok (.iconst 0, 1) := by decide +kernel
theorem d_M_throwing_50 : decode b_M_throwing 50 = .ok (.ireturn, 1) := by decide +kernel
theorem d_M_in_0 : decode b_M_in 0 = .ok (.iload_n 0, 1) := by decide +kernel
theorem d_M_in_1 : decode b_M_in 1 = .ok (.iload_n 1, 1) := by decide +kernel
theorem d_M_in_2 : decode b_M_in 2 = .ok (.if_icmp .lt 12, 3) := by decide +kernel
theorem d_M_in_5 : decode b_M_in 5 = .ok (.iload_n 0, 1) := by decide +kernel
theorem d_M_in_6 : decode b_M_in 6 = .ok (.iload_n 2, 1) := by decide +kernel
theorem d_M_in_7 : decode b_M_in 7 = .ok (.if_icmp .gt 7, 3) := by decide +kernel
theorem d_M_in_10 : decode b_M_in 10 = .ok (.iconst 1, 1) := by decide +kernel
theorem d_M_in_11 : decode b_M_in 11 = .ok (.goto 4, 3) := by decide +kernel
theorem d_M_in_14 : decode b_M_in 14 = .ok (.iconst 0, 1) := by decide +kernel
theorem d_M_in_15 : decode b_M_in 15 = .ok (.ireturn, 1) := by decide +kernel
theorem d_M_isPerson_0 : decode b_M_isPerson 0 = .ok (.iload_n 1, 1) := by decide +kernel
theorem d_M_isPerson_1 : decode b_M_isPerson 1 = .ok (.iconst 0, 1) := by decide +kernel
theorem d_M_isPerson_2 : decode b_M_isPerson 2 = .ok (.aload_n 0, 1) := by decide +kernel
theorem d_M_isPerson_3 : decode b_M_isPerson 3 = .ok (.getfield 66, 3) := by decide +kernel
theorem d_M_isPerson_6 : decode b_M_isPerson 6 = .ok (.iconst 1, 1) := by decide +kernel
theorem d_M_isPerson_7 : decode b_M_isPerson 7 = .ok (.isub, 1) := by decide +kernel
theorem d_M_isPerson_8 : decode b_M_isPerson 8 = .ok (.invokestatic 69, 3) := by decide +kernel
theorem d_M_isPerson_11 : decode b_M_isPerson 11 = .ok (.ireturn, 1) := by decide +kernel
theorem d_M_isDay_0 : decode b_M_isDay 0 = .ok (.iload_n 1, 1) := by decide +kernel
theorem d_M_isDay_1 : decode b_M_isDay 1 = .ok (.iconst 0, 1) := by decide +kernel
theorem d_M_isDay_2 : decode b_M_isDay 2 = .ok (.aload_n 0, 1) := by decide +kernel
theorem d_M_isDay_3 : decode b_M_isDay 3 = .ok (.getfield 73, 3) := by decide +kernel
theorem d_M_isDay_6 : decode b_M_isDay 6 = .ok (.iconst 1, 1) := by decide +kernel
theorem d_M_isDay_7 : decode b_M_isDay 7 = .ok (.isub, 1) := by decide +kernel
theorem d_M_isDay_8 : decode b_M_isDay 8 = .ok (.invokestatic 69, 3) := by decide +kernel
theorem d_M_isDay_11 : decode b_M_isDay 11 = .ok (.ireturn, 1) := by decide +kernel
theorem d_M_days_0 : decode b_M_days 0 = .ok (.aload_n 0, 1) := by decide +kernel
theorem d_M_days_1 : decode b_M_days 1 = .ok (.iload_n 1, 1) := by decide +kernel
theorem d_M_days_2 : decode b_M_days 2 = .ok (.iconst 0, 1) := by decide +kernel
theorem d_M_days_3 : decode b_M_days 3 = .ok (.bipush 7, 2) := by decide +kernel
theorem d_M_days_5 : decode b_M_days 5 = .ok (.invokestatic 69, 3) := by decide +kernel
theorem d_M_days_8 : decode b_M_days 8 = .ok (.ifCond .ne 7, 3) := by decide +kernel
theorem d_M_days_11 : decode b_M_days 11 = .ok (.iconst 1, 1) := by decide +kernel
theorem d_M_days_12 : decode b_M_days 12 = .ok (.goto 4, 3) := by decide +kernel
theorem d_M_days_15 : decode b_M_days 15 = .ok (.iconst 0, 1) := by decide +kernel
theorem d_M_days_16 : decode b_M_days 16 = .ok (.iconst 0, 1) := by decide +kernel
theorem d_M_days_17 : decode b_M_days 17 = .ok (.iconst 0, 1) := by decide +kernel
theorem d_M_days_18 : decode b_M_days 18 = .ok (.iconst 0, 1) := by decide +kernel
theorem d_M_days_19 : decode b_M_days 19 = .ok (.invokevirtual 76, 3) := by decide +kernel
theorem d_M_days_22 : decode b_M_days 22 = .ok (.ifCond .eq 4, 3) := by decide +kernel
theorem d_M_days_25 : decode b_M_days 25 = .ok (.return_, 1) := by decide +kernel
theorem d_M_days_26 : decode b_M_days 26 = .ok (.aload_n 0, 1) := by decide +kernel
theorem d_M_days_27 : decode b_M_days 27 = .ok (.iload_n 1, 1) := by decide +kernel
theorem d_M_days_28 : decode b_M_days 28 = .ok (.putfield 73, 3) := by decide +kernel
theorem d_M_days_31 : decode b_M_days 31 = .ok (.aload_n 0, 1) := by decide +kernel
theorem d_M_days_32 : decode b_M_days 32 = .ok (.iconst 0, 1) := by decide +kernel
theorem d_M_days_33 : decode b_M_days 33 = .ok (.putfield 80, 3) := by decide +kernel
theorem d_M_days_36 : decode b_M_days 36 = .ok (.aload_n 0, 1) := by decide +kernel
theorem d_M_days_37 : decode b_M_days 37 = .ok (.iconst 0, 1) := by decide +kernel
theorem d_M_days_38 : decode b_M_days 38 = .ok (.putfield 83, 3) := by decide +kernel
theorem d_M_days_41 : decode b_M_days 41 = .ok (.iconst 0, 1) := by decide +kernel
theorem d_M_days_42 : decode b_M_days 42 = .ok (.istore_n 2, 1) := by decide +kernel
theorem d_M_days_43 : decode b_M_days 43 = .ok (.iload_n 2, 1) := by decide +kernel
theorem d_M_days_44 : decode b_M_days 44 = .ok (.bipush 42, 2) := by decide +kernel
theorem d_M_days_46 : decode b_M_days 46 = .ok (.if_icmp .ge 16, 3) := by decide +kernel
theorem d_M_days_49 : decode b_M_days 49 = .ok (.aload_n 0, 1) := by decide +kernel
theorem d_M_days_50 : decode b_M_days 50 = .ok (.getfield 16, 3) := by decide +kernel
theorem d_M_days_53 : decode b_M_days 53 = .ok (.iload_n 2, 1) := by decide +kernel
theorem d_M_days_54 : decode b_M_days 54 = .ok (.iconst 0, 1) := by decide +kernel
theorem d_M_days_55 : decode b_M_days 55 = .ok (.iastore, 1) := by decide +kernel
theorem d_M_days_56 : decode b_M_days 56 = .ok (.iinc 2 1, 3) := by decide +kernel
theorem d_M_days_59 : decode b_M_days 59 = .ok (.goto (-16), 3) := by decide +kernel
theorem d_M_days_62 : decode b_M_days 62 = .ok (.iconst 0, 1) := by decide +kernel
theorem d_M_days_63 : decode b_M_days 63 = .ok (.istore_n 2, 1) := by decide +kernel
theorem d_M_days_64 : decode b_M_days 64 = .ok (.iload_n 2, 1) := by decide +kernel
theorem d_M_days_65 : decode b_M_days 65 = .ok (.bipush 28, 2) := by decide +kernel
theorem d_M_days_67 : decode b_M_days 67 = .ok (.if_icmp .ge 23, 3) := by decide +kernel
theorem d_M_days_70 : decode b_M_days 70 = .ok (.aload_n 0, 1) := by decide +kernel
theorem d_M_days_71 : decode b_M_days 71 = .ok (.getfield 28, 3) := by decide +kernel
theorem d_M_days_74 : decode b_M_days 74 = .ok (.iload_n 2, 1) := by decide +kernel
theorem d_M_days_75 : decode b_M_days 75 = .ok (.iconst 0, 1) := by decide +kernel
theorem d_M_days_76 : decode b_M_days 76 = .ok (.iastore, 1) := by decide +kernel
theorem d_M_days_77 : decode b_M_days 77 = .ok (.aload_n 0, 1) := by decide +kernel
theorem d_M_days_78 : decode b_M_days 78 = .ok (.getfield 31, 3) := by decide +kernel
theorem d_M_days_81 : decode b_M_days 81 = .ok (.iload_n 2, 1) := by decide +kernel
theorem d_M_days_82 : decode b_M_days 82 = .ok (.iconst 0, 1) := by decide +kernel
theorem d_M_days_83 : decode b_M_days 83 = .ok (.iastore, 1) := by decide +kernel
theorem d_M_days_84 : decode b_M_days 84 = .ok (.iinc 2 1, 3) := by decide +kernel
theorem d_M_days_87 : decode b_M_days 87 = .ok (.goto (-23), 3) := by decide +kernel
theorem d_M_days_90 : decode b_M_days 90 = .ok (.iconst 0, 1) := by decide +kernel
theorem d_M_days_91 : decode b_M_days 91 = .ok (.istore_n 2, 1) := by decide +kernel
theorem d_M_days_92 : decode b_M_days 92 = .ok (.iload_n 2, 1) := by decide +kernel
theorem d_M_days_93 : decode b_M_days 93 = .ok (.sipush 168, 3) := by decide +kernel
theorem d_M_days_96 : decode b_M_days 96 = .ok (.if_icmp .ge 16, 3) := by decide +kernel
theorem d_M_days_99 : decode b_M_days 99 = .ok (.aload_n 0, 1) := by decide +kernel
theorem d_M_days_100 : decode b_M_days 100 = .ok (.getfield 34, 3) := by decide +kernel
theorem d_M_days_103 : decode b_M_days 103 = .ok (.iload_n 2, 1) := by decide +kernel
theorem d_M_days_104 : decode b_M_days 104 = .ok (.iconst 0, 1) := by decide +kernel
theorem d_M_days_105 : decode b_M_days 105 = .ok (.bastore, 1) := by decide +kernel
theorem d_M_days_106 : decode b_M_days 106 = .ok (.iinc 2 1, 3) := by decide +kernel
theorem d_M_days_109 : decode b_M_days 109 = .ok (.goto (-17), 3) := by decide +kernel
theorem d_M_days_112 : decode b_M_days 112 = .ok (.return_, 1) := by decide +kernel
theorem d_M_person_0 : decode b_M_person 0 = .ok (.aload_n 0, 1) := by decide +kernel
theorem d_M_person_1 : decode b_M_person 1 = .ok (.iload_n 1, 1) := by decide +kernel
theorem d_M_person_2 : decode b_M_person 2 = .ok (.iconst 0, 1) := by decide +kernel
theorem d_M_person_3 : decode b_M_person 3 = .ok (.bipush 15, 2) := by decide +kernel
theorem d_M_person_5 : decode b_M_person 5 = .ok (.invokestatic 69, 3) := by decide +kernel
theorem d_M_person_8 : decode b_M_person 8 = .ok (.ifCond .eq 14, 3) := by decide +kernel
theorem d_M_person_11 : decode b_M_person 11 = .ok (.iload_n 2, 1) := by decide +kernel
theorem d_M_person_12 : decode b_M_person 12 = .ok (.iconst 0, 1) := by decide +kernel
theorem d_M_person_13 : decode b_M_person 13 = .ok (.sipush 10000, 3) := by decide +kernel
theorem d_M_person_16 : decode b_M_person 16 = .ok (.invokestatic 69, 3) := by decide +kernel
theorem d_M_person_19 : decode b_M_person 19 = .ok (.ifCond .ne 7, 3) := by decide +kernel
theorem d_M_person_22 : decode b_M_person 22 = .ok (.iconst 1, 1) := by decide +kernel
theorem d_M_person_23 : decode b_M_person 23 = .ok (.goto 4, 3) := by decide +kernel
theorem d_M_person_26 : decode b_M_person 26 = .ok (.iconst 0, 1) := by decide +kernel
theorem d_M_person_27 : decode b_M_person 27 = .ok (.aload_n 0, 1) := by decide +kernel
theorem d_M_person_28 : decode b_M_person 28 = .ok (.getfield 66, 3) := by decide +kernel
theorem d_M_person_31 : decode b_M_person 31 = .ok (.bipush 6, 2) := by decide +kernel
theorem d_M_person_33 : decode b_M_person 33 = .ok (.if_icmp .ne 7, 3) := by decide +kernel
theorem d_M_person_36 : decode b_M_person 36 = .ok (.iconst 1, 1) := by decide +kernel
theorem d_M_person_37 : decode b_M_person 37 = .ok (.goto 4, 3) := by decide +kernel
theorem d_M_person_40 : decode b_M_person 40 = .ok (.iconst 0, 1) := by decide +kernel
theorem d_M_person_41 : decode b_M_person 41 = .ok (.iconst 0, 1) := by decide +kernel
theorem d_M_person_42 : decode b_M_person 42 = .ok (.iconst 0, 1) := by decide +kernel
theorem d_M_person_43 : decode b_M_person 43 = .ok (.invokevirtual 76, 3) := by decide +kernel
theorem d_M_person_46 : decode b_M_person 46 = .ok (.ifCond .eq 5, 3) := by decide +kernel
theorem d_M_person_49 : decode b_M_person 49 = .ok (.iconst 0, 1) := by decide +kernel
theorem d_M_person_50 : decode b_M_person 50 = .ok (.ireturn, 1) := by decide +kernel
theorem d_M_person_51 : decode b_M_person 51 = .ok (.aload_n 0, 1) := by decide +kernel
theorem d_M_person_52 : decode b_M_person 52 = .ok (.getfield 7, 3) := by decide +kernel
theorem d_M_person_55 : decode b_M_person 55 = .ok (.aload_n 0, 1) := by decide +kernel
theorem d_M_person_56 : decode b_M_person 56 = .ok (.getfield 66, 3) := by decide +kernel
theorem d_M_person_59 : decode b_M_person 59 = .ok (.iload_n 1, 1) := by decide +kernel
theorem d_M_person_60 : decode b_M_person 60 = .ok (.iastore, 1) := by decide +kernel
theorem d_M_person_61 : decode b_M_person 61 = .ok (.aload_n 0, 1) := by decide +kernel
theorem d_M_person_62 : decode b_M_person 62 = .ok (.getfield 13, 3) := by decide +kernel
theorem d_M_person_65 : decode b_M_person 65 = .ok (.aload_n 0, 1) := by decide +kernel
theorem d_M_person_66 : decode b_M_person 66 = .ok (.getfield 66, 3) := by decide +kernel
theorem d_M_person_69 : decode b_M_person 69 = .ok (.iload_n 2, 1) := by decide +kernel
theorem d_M_person_70 : decode b_M_person 70 = .ok (.iastore, 1) := by decide +kernel
theorem d_M_person_71 : decode b_M_person 71 = .ok (.aload_n 0, 1) := by decide +kernel
theorem d_M_person_72 : decode b_M_person 72 = .ok (.dup, 1) := by decide +kernel
theorem d_M_person_73 : decode b_M_person 73 = .ok (.getfield 66, 3) := by decide +kernel
theorem d_M_person_76 : decode b_M_person 76 = .ok (.iconst 1, 1) := by decide +kernel
theorem d_M_person_77 : decode b_M_person 77 = .ok (.iadd, 1) := by decide +kernel
theorem d_M_person_78 : decode b_M_person 78 = .ok (.putfield 66, 3) := by decide +kernel
theorem d_M_person_81 : decode b_M_person 81 = .ok (.aload_n 0, 1) := by decide +kernel
theorem d_M_person_82 : decode b_M_person 82 = .ok (.getfield 66, 3) := by decide +kernel
theorem d_M_person_85 : decode b_M_person 85 = .ok (.iconst 1, 1) := by decide +kernel
theorem d_M_person_86 : decode b_M_person 86 = .ok (.isub, 1) := by decide +kernel
theorem d_M_person_87 : decode b_M_person 87 = .ok (.ireturn, 1) := by decide +kernel
theorem d_M_need_0 : decode b_M_need 0 = .ok (.aload_n 0, 1) := by decide +kernel
theorem d_M_need_1 : decode b_M_need 1 = .ok (.aload_n 0, 1) := by decide +kernel
theorem d_M_need_2 : decode b_M_need 2 = .ok (.iload_n 1, 1) := by decide +kernel
theorem d_M_need_3 : decode b_M_need 3 = .ok (.invokevirtual 86, 3) := by decide +kernel
theorem d_M_need_6 : decode b_M_need 6 = .ok (.ifCond .eq 12, 3) := by decide +kernel
theorem d_M_need_9 : decode b_M_need 9 = .ok (.iload_n 2, 1) := by decide +kernel
theorem d_M_need_10 : decode b_M_need 10 = .ok (.iconst 1, 1) := by decide +kernel
theorem d_M_need_11 : decode b_M_need 11 = .ok (.iconst 3, 1) := by decide +kernel
theorem d_M_need_12 : decode b_M_need 12 = .ok (.invokestatic 69, 3) := by decide +kernel
theorem d_M_need_15 : decode b_M_need 15 = .ok (.ifCond .ne 7, 3) := by decide +kernel
theorem d_M_need_18 : decode b_M_need 18 = .ok (.iconst 1, 1) := by decide +kernel
theorem d_M_need_19 : decode b_M_need 19 = .ok (.goto 4, 3) := by decide +kernel
theorem d_M_need_22 : decode b_M_need 22 = .ok (.iconst 0, 1) := by decide +kernel
theorem d_M_need_23 : decode b_M_need 23 = .ok (.iload_n 3, 1) := by decide +kernel
theorem d_M_need_24 : decode b_M_need 24 = .ok (.iconst 0, 1) := by decide +kernel
theorem d_M_need_25 : decode b_M_need 25 = .ok (.bipush 6, 2) := by decide +kernel
theorem d_M_need_27 : decode b_M_need 27 = .ok (.invokestatic 69, 3) := by decide +kernel
theorem d_M_need_30 : decode b_M_need 30 = .ok (.ifCond .eq 14, 3) := by decide +kernel
theorem d_M_need_33 : decode b_M_need 33 = .ok (.iload 4, 2) := by decide +kernel
theorem d_M_need_35 : decode b_M_need 35 = .ok (.iconst 0, 1) := by decide +kernel
theorem d_M_need_36 : decode b_M_need 36 = .ok (.bipush 15, 2) := by decide +kernel
theorem d_M_need_38 : decode b_M_need 38 = .ok (.invokestatic 69, 3) := by decide +kernel
theorem d_M_need_41 : decode b_M_need 41 = .ok (.ifCond .ne 7, 3) := by decide +kernel
theorem d_M_need_44 : decode b_M_need 44 = .ok (.iconst 1, 1) := by decide +kernel
theorem d_M_need_45 : decode b_M_need 45 = .ok (.goto 4, 3) := by decide +kernel
theorem d_M_need_48 : decode b_M_need 48 = .ok (.iconst 0, 1) := by decide +kernel
theorem d_M_need_49 : decode b_M_need 49 = .ok (.iconst 0, 1) := by decide +kernel
theorem d_M_need_50 : decode b_M_need 50 = .ok (.iconst 0, 1) := by decide +kernel
theorem d_M_need_51 : decode b_M_need 51 = .ok (.invokevirtual 76, 3) := by decide +kernel
theorem d_M_need_54 : decode b_M_need 54 = .ok (.ifCond .eq 4, 3) := by decide +kernel
theorem d_M_need_57 : decode b_M_need 57 = .ok (.return_, 1) := by decide +kernel
theorem d_M_need_58 : decode b_M_need 58 = .ok (.aload_n 0, 1) := by decide +kernel
theorem d_M_need_59 : decode b_M_need 59 = .ok (.getfield 28, 3) := by decide +kernel
theorem d_M_need_62 : decode b_M_need 62 = .ok (.iconst 4, 1) := by decide +kernel
theorem d_M_need_63 : decode b_M_need 63 = .ok (.iload_n 1, 1) := by decide +kernel
theorem d_M_need_64 : decode b_M_need 64 = .ok (.imul, 1) := by decide +kernel
theorem d_M_need_65 : decode b_M_need 65 = .ok (.iload_n 2, 1) := by decide +kernel
theorem d_M_need_66 : decode b_M_need 66 = .ok (.iadd, 1) := by decide +kernel
theorem d_M_need_67 : decode b_M_need 67 = .ok (.iload_n 3, 1) := by decide +kernel
theorem d_M_need_68 : decode b_M_need 68 = .ok (.iastore, 1) := by decide +kernel
theorem d_M_need_69 : decode b_M_need 69 = .ok (.aload_n 0, 1) := by decide +kernel
theorem d_M_need_70 : decode b_M_need 70 = .ok (.getfield 31, 3) := by decide +kernel
theorem d_M_need_73 : decode b_M_need 73 = .ok (.iconst 4, 1) := by decide +kernel
theorem d_M_need_74 : decode b_M_need 74 = .ok (.iload_n 1, 1) := by decide +kernel
theorem d_M_need_75 : decode b_M_need 75 = .ok (.imul, 1) := by decide +kernel
theorem d_M_need_76 : decode b_M_need 76 = .ok (.iload_n 2, 1) := by decide +kernel
theorem d_M_need_77 : decode b_M_need 77 = .ok (.iadd, 1) := by decide +kernel
theorem d_M_need_78 : decode b_M_need 78 = .ok (.iload 4, 2) := by decide +kernel
theorem d_M_need_80 : decode b_M_need 80 = .ok (.iastore, 1) := by decide +kernel
theorem d_M_need_81 : decode b_M_need 81 = .ok (.return_, 1) := by decide +kernel
theorem d_M_rules_0 : decode b_M_rules 0 = .ok (.aload_n 0, 1) := by decide +kernel
theorem d_M_rules_1 : decode b_M_rules 1 = .ok (.iload_n 1, 1) := by decide +kernel
theorem d_M_rules_2 : decode b_M_rules 2 = .ok (.iconst 0, 1) := by decide +kernel
theorem d_M_rules_3 : decode b_M_rules 3 = .ok (.bipush 24, 2) := by decide +kernel
theorem d_M_rules_5 : decode b_M_rules 5 = .ok (.invokestatic 69, 3) := by decide +kernel
theorem d_M_rules_8 : decode b_M_rules 8 = .ok (.ifCond .eq 23, 3) := by decide +kernel
theorem d_M_rules_11 : decode b_M_rules 11 = .ok (.iload_n 2, 1) := by decide +kernel
theorem d_M_rules_12 : decode b_M_rules 12 = .ok (.iconst 0, 1) := by decide +kernel
theorem d_M_rules_13 : decode b_M_rules 13 = .ok (.bipush 7, 2) := by decide +kernel
theorem d_M_rules_15 : decode b_M_rules 15 = .ok (.invokestatic 69, 3) := by decide +kernel
theorem d_M_rules_18 : decode b_M_rules 18 = .ok (.ifCond .eq 13, 3) := by decide +kernel
theorem d_M_rules_21 : decode b_M_rules 21 = .ok (.iload_n 3, 1) := by decide +kernel
theorem d_M_rules_22 : decode b_M_rules 22 = .ok (.iconst 0, 1) := by decide +kernel
theorem d_M_rules_23 : decode b_M_rules 23 = .ok (.bipush 7, 2) := by decide +kernel
theorem d_M_rules_25 : decode b_M_rules 25 = .ok (.invokestatic 69, 3) := by decide +kernel
theorem d_M_rules_28 : decode b_M_rules 28 = .ok (.ifCond .ne 7, 3) := by decide +kernel
theorem d_M_rules_31 : decode b_M_rules 31 = .ok (.iconst 1, 1) := by decide +kernel
theorem d_M_rules_32 : decode b_M_rules 32 = .ok (.goto 4, 3) := by decide +kernel
theorem d_M_rules_35 : decode b_M_rules 35 = .ok (.iconst 0, 1) := by decide +kernel
theorem d_M_rules_36 : decode b_M_rules 36 = .ok (.iconst 0, 1) := by decide +kernel
theorem d_M_rules_37 : decode b_M_rules 37 = .ok (.iconst 0, 1) := by decide +kernel
theorem d_M_rules_38 : decode b_M_rules 38 = .ok (.iconst 0, 1) := by decide +kernel
theorem d_M_rules_39 : decode b_M_rules 39 = .ok (.invokevirtual 76, 3) := by decide +kernel
theorem d_M_rules_42 : decode b_M_rules 42 = .ok (.ifCond .eq 4, 3) := by decide +kernel
theorem d_M_rules_45 : decode b_M_rules 45 = .ok (.return_, 1) := by decide +kernel
theorem d_M_rules_46 : decode b_M_rules 46 = .ok (.aload_n 0, 1) := by decide +kernel
theorem d_M_rules_47 : decode b_M_rules 47 = .ok (.iload_n 1, 1) := by decide +kernel
theorem d_M_rules_48 : decode b_M_rules 48 = .ok (.putfield 38, 3) := by decide +kernel
theorem d_M_rules_51 : decode b_M_rules 51 = .ok (.aload_n 0, 1) := by decide +kernel
theorem d_M_rules_52 : decode b_M_rules 52 = .ok (.iload_n 2, 1) := by decide +kernel
theorem d_M_rules_53 : decode b_M_rules 53 = .ok (.putfield 42, 3) := by decide +kernel
theorem d_M_rules_56 : decode b_M_rules 56 = .ok (.aload_n 0, 1) := by decide +kernel
theorem d_M_rules_57 : decode b_M_rules 57 = .ok (.iload_n 3, 1) := by decide +kernel
theorem d_M_rules_58 : decode b_M_rules 58 = .ok (.putfield 45, 3) := by decide +kernel
theorem d_M_rules_61 : decode b_M_rules 61 = .ok (.return_, 1) := by decide +kernel
theorem d_M_bar_0 : decode b_M_bar 0 = .ok (.aload_n 0, 1) := by decide +kernel
theorem d_M_bar_1 : decode b_M_bar 1 = .ok (.aload_n 0, 1) := by decide +kernel
theorem d_M_bar_2 : decode b_M_bar 2 = .ok (.iload_n 1, 1) := by decide +kernel
theorem d_M_bar_3 : decode b_M_bar 3 = .ok (.invokevirtual 90, 3) := by decide +kernel
theorem d_M_bar_6 : decode b_M_bar 6 = .ok (.ifCond .eq 20, 3) := by decide +kernel
theorem d_M_bar_9 : decode b_M_bar 9 = .ok (.aload_n 0, 1) := by decide +kernel
theorem d_M_bar_10 : decode b_M_bar 10 = .ok (.iload_n 2, 1) := by decide +kernel
theorem d_M_bar_11 : decode b_M_bar 11 = .ok (.invokevirtual 86, 3) := by decide +kernel
theorem d_M_bar_14 : decode b_M_bar 14 = .ok (.ifCond .eq 12, 3) := by decide +kernel
theorem d_M_bar_17 : decode b_M_bar 17 = .ok (.iload_n 3, 1) := by decide +kernel
theorem d_M_bar_18 : decode b_M_bar 18 = .ok (.iconst 1, 1) := by decide +kernel
theorem d_M_bar_19 : decode b_M_bar 19 = .ok (.iconst 3, 1) := by decide +kernel
theorem d_M_bar_20 : decode b_M_bar 20 = .ok (.invokestatic 69, 3) := by decide +kernel
theorem d_M_bar_23 : decode b_M_bar 23 = .ok (.ifCond .ne 7, 3) := by decide +kernel
theorem d_M_bar_26 : decode b_M_bar 26 = .ok (.iconst 1, 1) := by decide +kernel
theorem d_M_bar_27 : decode b_M_bar 27 = .ok (.goto 4, 3) := by decide +kernel
theorem d_M_bar_30 : decode b_M_bar 30 = .ok (.iconst 0, 1) := by decide +kernel
theorem d_M_bar_31 : decode b_M_bar 31 = .ok (.iconst 0, 1) := by decide +kernel
theorem d_M_bar_32 : decode b_M_bar 32 = .ok (.iconst 0, 1) := by decide +kernel
theorem d_M_bar_33 : decode b_M_bar 33 = .ok (.iconst 0, 1) := by decide +kernel
theorem d_M_bar_34 : decode b_M_bar 34 = .ok (.invokevirtual 76, 3) := by decide +kernel
theorem d_M_bar_37 : decode b_M_bar 37 = .ok (.ifCond .eq 4, 3) := by decide +kernel
theorem d_M_bar_40 : decode b_M_bar 40 = .ok (.return_, 1) := by decide +kernel
theorem d_M_bar_41 : decode b_M_bar 41 = .ok (.aload_n 0, 1) := by decide +kernel
theorem d_M_bar_42 : decode b_M_bar 42 = .ok (.getfield 34, 3) := by decide +kernel
theorem d_M_bar_45 : decode b_M_bar 45 = .ok (.bipush 24, 2) := by decide +kernel
theorem d_M_bar_47 : decode b_M_bar 47 = .ok (.iload_n 2, 1) := by decide +kernel
theorem d_M_bar_48 : decode b_M_bar 48 = .ok (.imul, 1) := by decide +kernel
theorem d_M_bar_49 : decode b_M_bar 49 = .ok (.iconst 4, 1) := by decide +kernel
theorem d_M_bar_50 : decode b_M_bar 50 = .ok (.iload_n 1, 1) := by decide +kernel
theorem d_M_bar_51 : decode b_M_bar 51 = .ok (.imul, 1) := by decide +kernel
theorem d_M_bar_52 : decode b_M_bar 52 = .ok (.iadd, 1) := by decide +kernel
theorem d_M_bar_53 : decode b_M_bar 53 = .ok (.iload_n 3, 1) := by decide +kernel
theorem d_M_bar_54 : decode b_M_bar 54 = .ok (.iadd, 1) := by decide +kernel
theorem d_M_bar_55 : decode b_M_bar 55 = .ok (.iload 4, 2) := by decide +kernel
theorem d_M_bar_57 : decode b_M_bar 57 = .ok (.bastore, 1) := by decide +kernel
theorem d_M_bar_58 : decode b_M_bar 58 = .ok (.return_, 1) := by decide +kernel
theorem d_M_wish_0 : decode b_M_wish 0 = .ok (.aload_n 0, 1) := by decide +kernel
theorem d_M_wish_1 : decode b_M_wish 1 = .ok (.iload_n 1, 1) := by decide +kernel
theorem d_M_wish_2 : decode b_M_wish 2 = .ok (.invokevirtual 90, 3) := by decide +kernel
theorem d_M_wish_5 : decode b_M_wish 5 = .ok (.ifCond .eq 20, 3) := by decide +kernel
theorem d_M_wish_8 : decode b_M_wish 8 = .ok (.aload_n 0, 1) := by decide +kernel
theorem d_M_wish_9 : decode b_M_wish 9 = .ok (.iload_n 2, 1) := by decide +kernel
theorem d_M_wish_10 : decode b_M_wish 10 = .ok (.invokevirtual 86, 3) := by decide +kernel
theorem d_M_wish_13 : decode b_M_wish 13 = .ok (.ifCond .eq 12, 3) := by decide +kernel
theorem d_M_wish_16 : decode b_M_wish 16 = .ok (.iload_n 3, 1) := by decide +kernel
theorem d_M_wish_17 : decode b_M_wish 17 = .ok (.iconst 0, 1) := by decide +kernel
theorem d_M_wish_18 : decode b_M_wish 18 = .ok (.iconst 3, 1) := by decide +kernel
theorem d_M_wish_19 : decode b_M_wish 19 = .ok (.invokestatic 69, 3) := by decide +kernel
theorem d_M_wish_22 : decode b_M_wish 22 = .ok (.ifCond .ne 7, 3) := by decide +kernel
theorem d_M_wish_25 : decode b_M_wish 25 = .ok (.iconst 1, 1) := by decide +kernel
theorem d_M_wish_26 : decode b_M_wish 26 = .ok (.goto 4, 3) := by decide +kernel
theorem d_M_wish_29 : decode b_M_wish 29 = .ok (.iconst 0, 1) := by decide +kernel
theorem d_M_wish_30 : decode b_M_wish 30 = .ok (.istore 6, 2) := by decide +kernel
theorem d_M_wish_32 : decode b_M_wish 32 = .ok (.aload_n 0, 1) := by decide +kernel
theorem d_M_wish_33 : decode b_M_wish 33 = .ok (.iload 6, 2) := by decide +kernel
theorem d_M_wish_35 : decode b_M_wish 35 = .ok (.iload 5, 2) := by decide +kernel
theorem d_M_wish_37 : decode b_M_wish 37 = .ok (.iconst 1, 1) := by decide +kernel
theorem d_M_wish_38 : decode b_M_wish 38 = .ok (.bipush 100, 2) := by decide +kernel
theorem d_M_wish_40 : decode b_M_wish 40 = .ok (.invokestatic 69, 3) := by decide +kernel
theorem d_M_wish_43 : decode b_M_wish 43 = .ok (.ifCond .ne 7, 3) := by decide +kernel
theorem d_M_wish_46 : decode b_M_wish 46 = .ok (.iconst 1, 1) := by decide +kernel
theorem d_M_wish_47 : decode b_M_wish 47 = .ok (.goto 4, 3) := by decide +kernel
theorem d_M_wish_50 : decode b_M_wish 50 = .ok (.iconst 0, 1) := by decide +kernel
theorem d_M_wish_51 : decode b_M_wish 51 = .ok (.iload 6, 2) := by decide +kernel
theorem d_M_wish_53 : decode b_M_wish 53 = .ok (.ifCond .ne 15, 3) := by decide +kernel
theorem d_M_wish_56 : decode b_M_wish 56 = .ok (.iload_n 2, 1) := by decide +kernel
theorem d_M_wish_57 : decode b_M_wish 57 = .ok (.aload_n 0, 1) := by decide +kernel
theorem d_M_wish_58 : decode b_M_wish 58 = .ok (.getfield 80, 3) := by decide +kernel
theorem d_M_wish_61 : decode b_M_wish 61 = .ok (.if_icmp .ge 7, 3) := by decide +kernel
theorem d_M_wish_64 : decode b_M_wish 64 = .ok (.iconst 1, 1) := by decide +kernel
theorem d_M_wish_65 : decode b_M_wish 65 = .ok (.goto 4, 3) := by decide +kernel
theorem d_M_wish_68 : decode b_M_wish 68 = .ok (.iconst 0, 1) := by decide +kernel
theorem d_M_wish_69 : decode b_M_wish 69 = .ok (.aload_n 0, 1) := by decide +kernel
theorem d_M_wish_70 : decode b_M_wish 70 = .ok (.getfield 83, 3) := by decide +kernel
theorem d_M_wish_73 : decode b_M_wish 73 = .ok (.bipush 20, 2) := by decide +kernel
theorem d_M_wish_75 : decode b_M_wish 75 = .ok (.if_icmp .ne 7, 3) := by decide +kernel
theorem d_M_wish_78 : decode b_M_wish 78 = .ok (.iconst 1, 1) := by decide +kernel
theorem d_M_wish_79 : decode b_M_wish 79 = .ok (.goto 4, 3) := by decide +kernel
theorem d_M_wish_82 : decode b_M_wish 82 = .ok (.iconst 0, 1) := by decide +kernel
theorem d_M_wish_83 : decode b_M_wish 83 = .ok (.invokevirtual 76, 3) := by decide +kernel
theorem d_M_wish_86 : decode b_M_wish 86 = .ok (.ifCond .eq 5, 3) := by decide +kernel
theorem d_M_wish_89 : decode b_M_wish 89 = .ok (.iconst 0, 1) := by decide +kernel
theorem d_M_wish_90 : decode b_M_wish 90 = .ok (.ireturn, 1) := by decide +kernel
theorem d_M_wish_91 : decode b_M_wish 91 = .ok (.aload_n 0, 1) := by decide +kernel
theorem d_M_wish_92 : decode b_M_wish 92 = .ok (.getfield 48, 3) := by decide +kernel
theorem d_M_wish_95 : decode b_M_wish 95 = .ok (.aload_n 0, 1) := by decide +kernel
theorem d_M_wish_96 : decode b_M_wish 96 = .ok (.getfield 83, 3) := by decide +kernel
theorem d_M_wish_99 : decode b_M_wish 99 = .ok (.iload_n 1, 1) := by decide +kernel
theorem d_M_wish_100 : decode b_M_wish 100 = .ok (.iastore, 1) := by decide +kernel
theorem d_M_wish_101 : decode b_M_wish 101 = .ok (.aload_n 0, 1) := by decide +kernel
theorem d_M_wish_102 : decode b_M_wish 102 = .ok (.getfield 51, 3) := by decide +kernel
theorem d_M_wish_105 : decode b_M_wish 105 = .ok (.aload_n 0, 1) := by decide +kernel
theorem d_M_wish_106 : decode b_M_wish 106 = .ok (.getfield 83, 3) := by decide +kernel
theorem d_M_wish_109 : decode b_M_wish 109 = .ok (.iload_n 2, 1) := by decide +kernel
theorem d_M_wish_110 : decode b_M_wish 110 = .ok (.iastore, 1) := by decide +kernel
theorem d_M_wish_111 : decode b_M_wish 111 = .ok (.aload_n 0, 1) := by decide +kernel
theorem d_M_wish_112 : decode b_M_wish 112 = .ok (.getfield 54, 3) := by decide +kernel
theorem d_M_wish_115 : decode b_M_wish 115 = .ok (.aload_n 0, 1) := by decide +kernel
theorem d_M_wish_116 : decode b_M_wish 116 = .ok (.getfield 83, 3) := by decide +kernel
theorem d_M_wish_119 : decode b_M_wish 119 = .ok (.iload_n 3, 1) := by decide +kernel
theorem d_M_wish_120 : decode b_M_wish 120 = .ok (.iastore, 1) := by decide +kernel
theorem d_M_wish_121 : decode b_M_wish 121 = .ok (.aload_n 0, 1) := by decide +kernel
theorem d_M_wish_122 : decode b_M_wish 122 = .ok (.getfield 57, 3) := by decide +kernel
theorem d_M_wish_125 : decode b_M_wish 125 = .ok (.aload_n 0, 1) := by decide +kernel
theorem d_M_wish_126 : decode b_M_wish 126 = .ok (.getfield 83, 3) := by decide +kernel
theorem d_M_wish_129 : decode b_M_wish 129 = .ok (.iload 4, 2) := by decide +kernel
theorem d_M_wish_131 : decode b_M_wish 131 = .ok (.bastore, 1) := by decide +kernel
theorem d_M_wish_132 : decode b_M_wish 132 = .ok (.aload_n 0, 1) := by decide +kernel
theorem d_M_wish_133 : decode b_M_wish 133 = .ok (.getfield 60, 3) := by decide +kernel
theorem d_M_wish_136 : decode b_M_wish 136 = .ok (.aload_n 0, 1) := by decide +kernel
theorem d_M_wish_137 : decode b_M_wish 137 = .ok (.getfield 83, 3) := by decide +kernel
theorem d_M_wish_140 : decode b_M_wish 140 = .ok (.iload 5, 2) := by decide +kernel
theorem d_M_wish_142 : decode b_M_wish 142 = .ok (.iastore, 1) := by decide +kernel
theorem d_M_wish_143 : decode b_M_wish 143 = .ok (.aload_n 0, 1) := by decide +kernel
theorem d_M_wish_144 : decode b_M_wish 144 = .ok (.dup, 1) := by decide +kernel
theorem d_M_wish_145 : decode b_M_wish 145 = .ok (.getfield 83, 3) := by decide +kernel
theorem d_M_wish_148 : decode b_M_wish 148 = .ok (.iconst 1, 1) := by decide +kernel
theorem d_M_wish_149 : decode b_M_wish 149 = .ok (.iadd, 1) := by decide +kernel
theorem d_M_wish_150 : decode b_M_wish 150 = .ok (.putfield 83, 3) := by decide +kernel
theorem d_M_wish_153 : decode b_M_wish 153 = .ok (.aload_n 0, 1) := by decide +kernel
theorem d_M_wish_154 : decode b_M_wish 154 = .ok (.getfield 83, 3) := by decide +kernel
theorem d_M_wish_157 : decode b_M_wish 157 = .ok (.iconst 1, 1) := by decide +kernel
theorem d_M_wish_158 : decode b_M_wish 158 = .ok (.isub, 1) := by decide +kernel
theorem d_M_wish_159 : decode b_M_wish 159 = .ok (.ireturn, 1) := by decide +kernel
theorem d_M_freeze_0 : decode b_M_freeze 0 = .ok (.aload_n 0, 1) := by decide +kernel
theorem d_M_freeze_1 : decode b_M_freeze 1 = .ok (.iload_n 1, 1) := by decide +kernel
theorem d_M_freeze_2 : decode b_M_freeze 2 = .ok (.aload_n 0, 1) := by decide +kernel
theorem d_M_freeze_3 : decode b_M_freeze 3 = .ok (.getfield 80, 3) := by decide +kernel
theorem d_M_freeze_6 : decode b_M_freeze 6 = .ok (.if_icmp .lt 11, 3) := by decide +kernel
theorem d_M_freeze_9 : decode b_M_freeze 9 = .ok (.iload_n 1, 1) := by decide +kernel
theorem d_M_freeze_10 : decode b_M_freeze 10 = .ok (.aload_n 0, 1) := by decide +kernel
theorem d_M_freeze_11 : decode b_M_freeze 11 = .ok (.getfield 73, 3) := by decide +kernel
theorem d_M_freeze_14 : decode b_M_freeze 14 = .ok (.if_icmp .le 7, 3) := by decide +kernel
theorem d_M_freeze_17 : decode b_M_freeze 17 = .ok (.iconst 1, 1) := by decide +kernel
theorem d_M_freeze_18 : decode b_M_freeze 18 = .ok (.goto 4, 3) := by decide +kernel
theorem d_M_freeze_21 : decode b_M_freeze 21 = .ok (.iconst 0, 1) := by decide +kernel
theorem d_M_freeze_22 : decode b_M_freeze 22 = .ok (.iconst 0, 1) := by decide +kernel
theorem d_M_freeze_23 : decode b_M_freeze 23 = .ok (.iconst 0, 1) := by decide +kernel
theorem d_M_freeze_24 : decode b_M_freeze 24 = .ok (.iconst 0, 1) := by decide +kernel
theorem d_M_freeze_25 : decode b_M_freeze 25 = .ok (.invokevirtual 76, 3) := by decide +kernel
theorem d_M_freeze_28 : decode b_M_freeze 28 = .ok (.ifCond .eq 4, 3) := by decide +kernel
theorem d_M_freeze_31 : decode b_M_freeze 31 = .ok (.return_, 1) := by decide +kernel
theorem d_M_freeze_32 : decode b_M_freeze 32 = .ok (.aload_n 0, 1) := by decide +kernel
theorem d_M_freeze_33 : decode b_M_freeze 33 = .ok (.iload_n 1, 1) := by decide +kernel
theorem d_M_freeze_34 : decode b_M_freeze 34 = .ok (.putfield 80, 3) := by decide +kernel
theorem d_M_freeze_37 : decode b_M_freeze 37 = .ok (.return_, 1) := by decide +kernel
theorem d_M_set_0 : decode b_M_set 0 = .ok (.aload_n 0, 1) := by decide +kernel
theorem d_M_set_1 : decode b_M_set 1 = .ok (.iload_n 1, 1) := by decide +kernel
theorem d_M_set_2 : decode b_M_set 2 = .ok (.invokevirtual 90, 3) := by decide +kernel
theorem d_M_set_5 : decode b_M_set 5 = .ok (.ifCond .eq 20, 3) := by decide +kernel
theorem d_M_set_8 : decode b_M_set 8 = .ok (.aload_n 0, 1) := by decide +kernel
theorem d_M_set_9 : decode b_M_set 9 = .ok (.iload_n 2, 1) := by decide +kernel
theorem d_M_set_10 : decode b_M_set 10 = .ok (.invokevirtual 86, 3) := by decide +kernel
theorem d_M_set_13 : decode b_M_set 13 = .ok (.ifCond .eq 12, 3) := by decide +kernel
theorem d_M_set_16 : decode b_M_set 16 = .ok (.iload_n 3, 1) := by decide +kernel
theorem d_M_set_17 : decode b_M_set 17 = .ok (.iconst 0, 1) := by decide +kernel
theorem d_M_set_18 : decode b_M_set 18 = .ok (.iconst 3, 1) := by decide +kernel
theorem d_M_set_19 : decode b_M_set 19 = .ok (.invokestatic 69, 3) := by decide +kernel
theorem d_M_set_22 : decode b_M_set 22 = .ok (.ifCond .ne 7, 3) := by decide +kernel
theorem d_M_set_25 : decode b_M_set 25 = .ok (.iconst 1, 1) := by decide +kernel
theorem d_M_set_26 : decode b_M_set 26 = .ok (.goto 4, 3) := by decide +kernel
theorem d_M_set_29 : decode b_M_set 29 = .ok (.iconst 0, 1) := by decide +kernel
theorem d_M_set_30 : decode b_M_set 30 = .ok (.istore 4, 2) := by decide +kernel
theorem d_M_set_32 : decode b_M_set 32 = .ok (.aload_n 0, 1) := by decide +kernel
theorem d_M_set_33 : decode b_M_set 33 = .ok (.iload 4, 2) := by decide +kernel
theorem d_M_set_35 : decode b_M_set 35 = .ok (.iload 4, 2) := by decide +kernel
theorem d_M_set_37 : decode b_M_set 37 = .ok (.ifCond .ne 15, 3) := by decide +kernel
theorem d_M_set_40 : decode b_M_set 40 = .ok (.iload_n 2, 1) := by decide +kernel
theorem d_M_set_41 : decode b_M_set 41 = .ok (.aload_n 0, 1) := by decide +kernel
theorem d_M_set_42 : decode b_M_set 42 = .ok (.getfield 80, 3) := by decide +kernel
theorem d_M_set_45 : decode b_M_set 45 = .ok (.if_icmp .ge 7, 3) := by decide +kernel
theorem d_M_set_48 : decode b_M_set 48 = .ok (.iconst 1, 1) := by decide +kernel
theorem d_M_set_49 : decode b_M_set 49 = .ok (.goto 4, 3) := by decide +kernel
theorem d_M_set_52 : decode b_M_set 52 = .ok (.iconst 0, 1) := by decide +kernel
theorem d_M_set_53 : decode b_M_set 53 = .ok (.iconst 0, 1) := by decide +kernel
theorem d_M_set_54 : decode b_M_set 54 = .ok (.iconst 0, 1) := by decide +kernel
theorem d_M_set_55 : decode b_M_set 55 = .ok (.invokevirtual 76, 3) := by decide +kernel
theorem d_M_set_58 : decode b_M_set 58 = .ok (.ifCond .eq 4, 3) := by decide +kernel
theorem d_M_set_61 : decode b_M_set 61 = .ok (.return_, 1) := by decide +kernel
theorem d_M_set_62 : decode b_M_set 62 = .ok (.aload_n 0, 1) := by decide +kernel
theorem d_M_set_63 : decode b_M_set 63 = .ok (.getfield 16, 3) := by decide +kernel
theorem d_M_set_66 : decode b_M_set 66 = .ok (.bipush 6, 2) := by decide +kernel
theorem d_M_set_68 : decode b_M_set 68 = .ok (.iload_n 2, 1) := by decide +kernel
theorem d_M_set_69 : decode b_M_set 69 = .ok (.imul, 1) := by decide +kernel
theorem d_M_set_70 : decode b_M_set 70 = .ok (.iload_n 1, 1) := by decide +kernel
theorem d_M_set_71 : decode b_M_set 71 = .ok (.iadd, 1) := by decide +kernel
theorem d_M_set_72 : decode b_M_set 72 = .ok (.iload_n 3, 1) := by decide +kernel
theorem d_M_set_73 : decode b_M_set 73 = .ok (.iastore, 1) := by decide +kernel
theorem d_M_set_74 : decode b_M_set 74 = .ok (.return_, 1) := by decide +kernel
theorem d_M_between_0 : decode b_M_between 0 = .ok (.bipush 24, 2) := by decide +kernel
theorem d_M_between_2 : decode b_M_between 2 = .ok (.bipush 8, 2) := by decide +kernel
theorem d_M_between_4 : decode b_M_between 4 = .ok (.iload_n 1, 1) := by decide +kernel
theorem d_M_between_5 : decode b_M_between 5 = .ok (.imul, 1) := by decide +kernel
theorem d_M_between_6 : decode b_M_between 6 = .ok (.iadd, 1) := by decide +kernel
theorem d_M_between_7 : decode b_M_between 7 = .ok (.iconst 2, 1) := by decide +kernel
theorem d_M_between_8 : decode b_M_between 8 = .ok (.isub, 1) := by decide +kernel
theorem d_M_between_9 : decode b_M_between 9 = .ok (.bipush 6, 2) := by decide +kernel
theorem d_M_between_11 : decode b_M_between 11 = .ok (.bipush 8, 2) := by decide +kernel
theorem d_M_between_13 : decode b_M_between 13 = .ok (.iload_n 0, 1) := by decide +kernel
theorem d_M_between_14 : decode b_M_between 14 = .ok (.imul, 1) := by decide +kernel
theorem d_M_between_15 : decode b_M_between 15 = .ok (.iadd, 1) := by decide +kernel
theorem d_M_between_16 : decode b_M_between 16 = .ok (.isub, 1) := by decide +kernel
theorem d_M_between_17 : decode b_M_between 17 = .ok (.ireturn, 1) := by decide +kernel
theorem d_M_isTired_0 : decode b_M_isTired 0 = .ok (.iload_n 3, 1) := by decide +kernel
theorem d_M_isTired_1 : decode b_M_isTired 1 = .ok (.ifCond .ne 5, 3) := by decide +kernel
theorem d_M_isTired_4 : decode b_M_isTired 4 = .ok (.iconst 0, 1) := by decide +kernel
theorem d_M_isTired_5 : decode b_M_isTired 5 = .ok (.ireturn, 1) := by decide +kernel
theorem d_M_isTired_6 : decode b_M_isTired 6 = .ok (.aload_n 1, 1) := by decide +kernel
theorem d_M_isTired_7 : decode b_M_isTired 7 = .ok (.bipush 6, 2) := by decide +kernel
theorem d_M_isTired_9 : decode b_M_isTired 9 = .ok (.iload_n 3, 1) := by decide +kernel
theorem d_M_isTired_10 : decode b_M_isTired 10 = .ok (.iconst 1, 1) := by decide +kernel
theorem d_M_isTired_11 : decode b_M_isTired 11 = .ok (.isub, 1) := by decide +kernel
theorem d_M_isTired_12 : decode b_M_isTired 12 = .ok (.imul, 1) := by decide +kernel
theorem d_M_isTired_13 : decode b_M_isTired 13 = .ok (.iload_n 2, 1) := by decide +kernel
theorem d_M_isTired_14 : decode b_M_isTired 14 = .ok (.iadd, 1) := by decide +kernel
theorem d_M_isTired_15 : decode b_M_isTired 15 = .ok (.iaload, 1) := by decide +kernel
theorem d_M_isTired_16 : decode b_M_isTired 16 = .ok (.istore 4, 2) := by decide +kernel
theorem d_M_isTired_18 : decode b_M_isTired 18 = .ok (.aload_n 1, 1) := by decide +kernel
theorem d_M_isTired_19 : decode b_M_isTired 19 = .ok (.bipush 6, 2) := by decide +kernel
theorem d_M_isTired_21 : decode b_M_isTired 21 = .ok (.iload_n 3, 1) := by decide +kernel
theorem d_M_isTired_22 : decode b_M_isTired 22 = .ok (.imul, 1) := by decide +kernel
theorem d_M_isTired_23 : decode b_M_isTired 23 = .ok (.iload_n 2, 1) := by decide +kernel
theorem d_M_isTired_24 : decode b_M_isTired 24 = .ok (.iadd, 1) := by decide +kernel
theorem d_M_isTired_25 : decode b_M_isTired 25 = .ok (.iaload, 1) := by decide +kernel
theorem d_M_isTired_26 : decode b_M_isTired 26 = .ok (.istore 5, 2) := by decide +kernel
theorem d_M_isTired_28 : decode b_M_isTired 28 = .ok (.iload 4, 2) := by decide +kernel
theorem d_M_isTired_30 : decode b_M_isTired 30 = .ok (.ifCond .le 26, 3) := by decide +kernel
theorem d_M_isTired_33 : decode b_M_isTired 33 = .ok (.iload 5, 2) := by decide +kernel
theorem d_M_isTired_35 : decode b_M_isTired 35 = .ok (.ifCond .le 21, 3) := by decide +kernel
theorem d_M_isTired_38 : decode b_M_isTired 38 = .ok (.iload 4, 2) := by decide +kernel
theorem d_M_isTired_40 : decode b_M_isTired 40 = .ok (.iload 5, 2) := by decide +kernel
theorem d_M_isTired_42 : decode b_M_isTired 42 = .ok (.invokestatic 93, 3) := by decide +kernel
theorem d_M_isTired_45 : decode b_M_isTired 45 = .ok (.aload_n 0, 1) := by decide +kernel
theorem d_M_isTired_46 : decode b_M_isTired 46 = .ok (.getfield 38, 3) := by decide +kernel
theorem d_M_isTired_49 : decode b_M_isTired 49 = .ok (.if_icmp .ge 7, 3) := by decide +kernel
theorem d_M_isTired_52 : decode b_M_isTired 52 = .ok (.iconst 1, 1) := by decide +kernel
theorem d_M_isTired_53 : decode b_M_isTired 53 = .ok (.goto 4, 3) := by decide +kernel
theorem d_M_isTired_56 : decode b_M_isTired 56 = .ok (.iconst 0, 1) := by decide +kernel
theorem d_M_isTired_57 : decode b_M_isTired 57 = .ok (.ireturn, 1) := by decide +kernel
theorem d_M_many_0 : decode b_M_many 0 = .ok (.iconst 0, 1) := by decide +kernel
theorem d_M_many_1 : decode b_M_many 1 = .ok (.istore_n 3, 1) := by decide +kernel
theorem d_M_many_2 : decode b_M_many 2 = .ok (.iconst 0, 1) := by decide +kernel
theorem d_M_many_3 : decode b_M_many 3 = .ok (.istore 4, 2) := by decide +kernel
theorem d_M_many_5 : decode b_M_many 5 = .ok (.iload 4, 2) := by decide +kernel
theorem d_M_many_7 : decode b_M_many 7 = .ok (.iload_n 2, 1) := by decide +kernel
theorem d_M_many_8 : decode b_M_many 8 = .ok (.if_icmp .gt 29, 3) := by decide +kernel
theorem d_M_many_11 : decode b_M_many 11 = .ok (.iload_n 3, 1) := by decide +kernel
theorem d_M_many_12 : decode b_M_many 12 = .ok (.aload_n 0, 1) := by decide +kernel
theorem d_M_many_13 : decode b_M_many 13 = .ok (.bipush 6, 2) := by decide +kernel
theorem d_M_many_15 : decode b_M_many 15 = .ok (.iload 4, 2) := by decide +kernel
theorem d_M_many_17 : decode b_M_many 17 = .ok (.imul, 1) := by decide +kernel
theorem d_M_many_18 : decode b_M_many 18 = .ok (.iload_n 1, 1) := by decide +kernel
theorem d_M_many_19 : decode b_M_many 19 = .ok (.iadd, 1) := by decide +kernel
theorem d_M_many_20 : decode b_M_many 20 = .ok (.iaload, 1) := by decide +kernel
theorem d_M_many_21 : decode b_M_many 21 = .ok (.ifCond .le 7, 3) := by decide +kernel
theorem d_M_many_24 : decode b_M_many 24 = .ok (.iconst 1, 1) := by decide +kernel
theorem d_M_many_25 : decode b_M_many 25 = .ok (.goto 4, 3) := by decide +kernel
theorem d_M_many_28 : decode b_M_many 28 = .ok (.iconst 0, 1) := by decide +kernel
theorem d_M_many_29 : decode b_M_many 29 = .ok (.iadd, 1) := by decide +kernel
theorem d_M_many_30 : decode b_M_many 30 = .ok (.istore_n 3, 1) := by decide +kernel
theorem d_M_many_31 : decode b_M_many 31 = .ok (.iinc 4 1, 3) := by decide +kernel
theorem d_M_many_34 : decode b_M_many 34 = .ok (.goto (-29), 3) := by decide +kernel
theorem d_M_many_37 : decode b_M_many 37 = .ok (.iload_n 3, 1) := by decide +kernel
theorem d_M_many_38 : decode b_M_many 38 = .ok (.ireturn, 1) := by decide +kernel
theorem d_M_nightsTo_0 : decode b_M_nightsTo 0 = .ok (.iconst 0, 1) := by decide +kernel
theorem d_M_nightsTo_1 : decode b_M_nightsTo 1 = .ok (.istore_n 3, 1) := by decide +kernel
theorem d_M_nightsTo_2 : decode b_M_nightsTo 2 = .ok (.iload_n 2, 1) := by decide +kernel
theorem d_M_nightsTo_3 : decode b_M_nightsTo 3 = .ok (.istore 4, 2) := by decide +kernel
theorem d_M_nightsTo_5 : decode b_M_nightsTo 5 = .ok (.iload 4, 2) := by decide +kernel
theorem d_M_nightsTo_7 : decode b_M_nightsTo 7 = .ok (.ifCond .lt 25, 3) := by decide +kernel
theorem d_M_nightsTo_10 : decode b_M_nightsTo 10 = .ok (.aload_n 0, 1) := by decide +kernel
theorem d_M_nightsTo_11 : decode b_M_nightsTo 11 = .ok (.bipush 6, 2) := by decide +kernel
theorem d_M_nightsTo_13 : decode b_M_nightsTo 13 = .ok (.iload 4, 2) := by decide +kernel
theorem d_M_nightsTo_15 : decode b_M_nightsTo 15 = .ok (.imul, 1) := by decide +kernel
theorem d_M_nightsTo_16 : decode b_M_nightsTo 16 = .ok (.iload_n 1, 1) := by decide +kernel
theorem d_M_nightsTo_17 : decode b_M_nightsTo 17 = .ok (.iadd, 1) := by decide +kernel
theorem d_M_nightsTo_18 : decode b_M_nightsTo 18 = .ok (.iaload, 1) := by decide +kernel
theorem d_M_nightsTo_19 : decode b_M_nightsTo 19 = .ok (.iconst 3, 1) := by decide +kernel
theorem d_M_nightsTo_20 : decode b_M_nightsTo 20 = .ok (.if_icmp .ne 12, 3) := by decide +kernel
theorem d_M_nightsTo_23 : decode b_M_nightsTo 23 = .ok (.iinc 3 1, 3) := by decide +kernel
theorem d_M_nightsTo_26 : decode b_M_nightsTo 26 = .ok (.iinc 4 (-1), 3) := by decide +kernel
theorem d_M_nightsTo_29 : decode b_M_nightsTo 29 = .ok (.goto (-24), 3) := by decide +kernel
theorem d_M_nightsTo_32 : decode b_M_nightsTo 32 = .ok (.iload_n 3, 1) := by decide +kernel
theorem d_M_nightsTo_33 : decode b_M_nightsTo 33 = .ok (.ireturn, 1) := by decide +kernel
theorem d_M_isMet_0 : decode b_M_isMet 0 = .ok (.iconst 0, 1) := by decide +kernel
theorem d_M_isMet_1 : decode b_M_isMet 1 = .ok (.istore 4, 2) := by decide +kernel
theorem d_M_isMet_3 : decode b_M_isMet 3 = .ok (.iconst 0, 1) := by decide +kernel
theorem d_M_isMet_4 : decode b_M_isMet 4 = .ok (.istore 5, 2) := by decide +kernel
theorem d_M_isMet_6 : decode b_M_isMet 6 = .ok (.iconst 0, 1) := by decide +kernel
theorem d_M_isMet_7 : decode b_M_isMet 7 = .ok (.istore 6, 2) := by decide +kernel
theorem d_M_isMet_9 : decode b_M_isMet 9 = .ok (.iload 6, 2) := by decide +kernel
theorem d_M_isMet_11 : decode b_M_isMet 11 = .ok (.aload_n 0, 1) := by decide +kernel
theorem d_M_isMet_12 : decode b_M_isMet 12 = .ok (.getfield 66, 3) := by decide +kernel
theorem d_M_isMet_15 : decode b_M_isMet 15 = .ok (.if_icmp .ge 37, 3) := by decide +kernel
theorem d_M_isMet_18 : decode b_M_isMet 18 = .ok (.aload_n 1, 1) := by decide +kernel
theorem d_M_isMet_19 : decode b_M_isMet 19 = .ok (.bipush 6, 2) := by decide +kernel
theorem d_M_isMet_21 : decode b_M_isMet 21 = .ok (.iload_n 2, 1) := by decide +kernel
theorem d_M_isMet_22 : decode b_M_isMet 22 = .ok (.imul, 1) := by decide +kernel
theorem d_M_isMet_23 : decode b_M_isMet 23 = .ok (.iload 6, 2) := by decide +kernel
theorem d_M_isMet_25 : decode b_M_isMet 25 = .ok (.iadd, 1) := by decide +kernel
theorem d_M_isMet_26 : decode b_M_isMet 26 = .ok (.iaload, 1) := by decide +kernel
theorem d_M_isMet_27 : decode b_M_isMet 27 = .ok (.iload_n 3, 1) := by decide +kernel
theorem d_M_isMet_28 : decode b_M_isMet 28 = .ok (.if_icmp .ne 18, 3) := by decide +kernel
theorem d_M_isMet_31 : decode b_M_isMet 31 = .ok (.iinc 4 1, 3) := by decide +kernel
theorem d_M_isMet_34 : decode b_M_isMet 34 = .ok (.iload 5, 2) := by decide +kernel
theorem d_M_isMet_36 : decode b_M_isMet 36 = .ok (.aload_n 0, 1) := by decide +kernel
theorem d_M_isMet_37 : decode b_M_isMet 37 = .ok (.getfield 7, 3) := by decide +kernel
theorem d_M_isMet_40 : decode b_M_isMet 40 = .ok (.iload 6, 2) := by decide +kernel
theorem d_M_isMet_42 : decode b_M_isMet 42 = .ok (.iaload, 1) := by decide +kernel
theorem d_M_isMet_43 : decode b_M_isMet 43 = .ok (.ior, 1) := by decide +kernel
theorem d_M_isMet_44 : decode b_M_isMet 44 = .ok (.istore 5, 2) := by decide +kernel
theorem d_M_isMet_46 : decode b_M_isMet 46 = .ok (.iinc 6 1, 3) := by decide +kernel
theorem d_M_isMet_49 : decode b_M_isMet 49 = .ok (.goto (-40), 3) := by decide +kernel
theorem d_M_isMet_52 : decode b_M_isMet 52 = .ok (.iload 4, 2) := by decide +kernel
theorem d_M_isMet_54 : decode b_M_isMet 54 = .ok (.aload_n 0, 1) := by decide +kernel
theorem d_M_isMet_55 : decode b_M_isMet 55 = .ok (.getfield 28, 3) := by decide +kernel
theorem d_M_isMet_58 : decode b_M_isMet 58 = .ok (.iconst 4, 1) := by decide +kernel
theorem d_M_isMet_59 : decode b_M_isMet 59 = .ok (.iload_n 2, 1) := by decide +kernel
theorem d_M_isMet_60 : decode b_M_isMet 60 = .ok (.imul, 1) := by decide +kernel
theorem d_M_isMet_61 : decode b_M_isMet 61 = .ok (.iload_n 3, 1) := by decide +kernel
theorem d_M_isMet_62 : decode b_M_isMet 62 = .ok (.iadd, 1) := by decide +kernel
theorem d_M_isMet_63 : decode b_M_isMet 63 = .ok (.iaload, 1) := by decide +kernel
theorem d_M_isMet_64 : decode b_M_isMet 64 = .ok (.if_icmp .lt 33, 3) := by decide +kernel
theorem d_M_isMet_67 : decode b_M_isMet 67 = .ok (.iload 5, 2) := by decide +kernel
theorem d_M_isMet_69 : decode b_M_isMet 69 = .ok (.aload_n 0, 1) := by decide +kernel
theorem d_M_isMet_70 : decode b_M_isMet 70 = .ok (.getfield 31, 3) := by decide +kernel
theorem d_M_isMet_73 : decode b_M_isMet 73 = .ok (.iconst 4, 1) := by decide +kernel
theorem d_M_isMet_74 : decode b_M_isMet 74 = .ok (.iload_n 2, 1) := by decide +kernel
theorem d_M_isMet_75 : decode b_M_isMet 75 = .ok (.imul, 1) := by decide +kernel
theorem d_M_isMet_76 : decode b_M_isMet 76 = .ok (.iload_n 3, 1) := by decide +kernel
theorem d_M_isMet_77 : decode b_M_isMet 77 = .ok (.iadd, 1) := by decide +kernel
theorem d_M_isMet_78 : decode b_M_isMet 78 = .ok (.iaload, 1) := by decide +kernel
theorem d_M_isMet_79 : decode b_M_isMet 79 = .ok (.iand, 1) := by decide +kernel
theorem d_M_isMet_80 : decode b_M_isMet 80 = .ok (.aload_n 0, 1) := by decide +kernel
theorem d_M_isMet_81 : decode b_M_isMet 81 = .ok (.getfield 31, 3) := by decide +kernel
theorem d_M_isMet_84 : decode b_M_isMet 84 = .ok (.iconst 4, 1) := by decide +kernel
theorem d_M_isMet_85 : decode b_M_isMet 85 = .ok (.iload_n 2, 1) := by decide +kernel
theorem d_M_isMet_86 : decode b_M_isMet 86 = .ok (.imul, 1) := by decide +kernel
theorem d_M_isMet_87 : decode b_M_isMet 87 = .ok (.iload_n 3, 1) := by decide +kernel
theorem d_M_isMet_88 : decode b_M_isMet 88 = .ok (.iadd, 1) := by decide +kernel
theorem d_M_isMet_89 : decode b_M_isMet 89 = .ok (.iaload, 1) := by decide +kernel
theorem d_M_isMet_90 : decode b_M_isMet 90 = .ok (.if_icmp .ne 7, 3) := by decide +kernel
theorem d_M_isMet_93 : decode b_M_isMet 93 = .ok (.iconst 1, 1) := by decide +kernel
theorem d_M_isMet_94 : decode b_M_isMet 94 = .ok (.goto 4, 3) := by decide +kernel
theorem d_M_isMet_97 : decode b_M_isMet 97 = .ok (.iconst 0, 1) := by decide +kernel
theorem d_M_isMet_98 : decode b_M_isMet 98 = .ok (.ireturn, 1) := by decide +kernel
theorem d_M_areMet_0 : decode b_M_areMet 0 = .ok (.aload_n 0, 1) := by decide +kernel
theorem d_M_areMet_1 : decode b_M_areMet 1 = .ok (.aload_n 1, 1) := by decide +kernel
theorem d_M_areMet_2 : decode b_M_areMet 2 = .ok (.iload_n 2, 1) := by decide +kernel
theorem d_M_areMet_3 : decode b_M_areMet 3 = .ok (.iconst 1, 1) := by decide +kernel
theorem d_M_areMet_4 : decode b_M_areMet 4 = .ok (.invokevirtual 97, 3) := by decide +kernel
theorem d_M_areMet_7 : decode b_M_areMet 7 = .ok (.ifCond .eq 27, 3) := by decide +kernel
theorem d_M_areMet_10 : decode b_M_areMet 10 = .ok (.aload_n 0, 1) := by decide +kernel
theorem d_M_areMet_11 : decode b_M_areMet 11 = .ok (.aload_n 1, 1) := by decide +kernel
theorem d_M_areMet_12 : decode b_M_areMet 12 = .ok (.iload_n 2, 1) := by decide +kernel
theorem d_M_areMet_13 : decode b_M_areMet 13 = .ok (.iconst 2, 1) := by decide +kernel
theorem d_M_areMet_14 : decode b_M_areMet 14 = .ok (.invokevirtual 97, 3) := by decide +kernel
theorem d_M_areMet_17 : decode b_M_areMet 17 = .ok (.ifCond .eq 17, 3) := by decide +kernel
theorem d_M_areMet_20 : decode b_M_areMet 20 = .ok (.aload_n 0, 1) := by decide +kernel
theorem d_M_areMet_21 : decode b_M_areMet 21 = .ok (.aload_n 1, 1) := by decide +kernel
theorem d_M_areMet_22 : decode b_M_areMet 22 = .ok (.iload_n 2, 1) := by decide +kernel
theorem d_M_areMet_23 : decode b_M_areMet 23 = .ok (.iconst 3, 1) := by decide +kernel
theorem d_M_areMet_24 : decode b_M_areMet 24 = .ok (.invokevirtual 97, 3) := by decide +kernel
theorem d_M_areMet_27 : decode b_M_areMet 27 = .ok (.ifCond .eq 7, 3) := by decide +kernel
theorem d_M_areMet_30 : decode b_M_areMet 30 = .ok (.iconst 1, 1) := by decide +kernel
theorem d_M_areMet_31 : decode b_M_areMet 31 = .ok (.goto 4, 3) := by decide +kernel
theorem d_M_areMet_34 : decode b_M_areMet 34 = .ok (.iconst 0, 1) := by decide +kernel
theorem d_M_areMet_35 : decode b_M_areMet 35 = .ok (.ireturn, 1) := by decide +kernel
theorem d_M_unmetTo_0 : decode b_M_unmetTo 0 = .ok (.iconst 0, 1) := by decide +kernel
theorem d_M_unmetTo_1 : decode b_M_unmetTo 1 = .ok (.istore_n 3, 1) := by decide +kernel
theorem d_M_unmetTo_2 : decode b_M_unmetTo 2 = .ok (.iconst 0, 1) := by decide +kernel
theorem d_M_unmetTo_3 : decode b_M_unmetTo 3 = .ok (.istore 4, 2) := by decide +kernel
theorem d_M_unmetTo_5 : decode b_M_unmetTo 5 = .ok (.iload 4, 2) := by decide +kernel
theorem d_M_unmetTo_7 : decode b_M_unmetTo 7 = .ok (.aload_n 0, 1) := by decide +kernel
theorem d_M_unmetTo_8 : decode b_M_unmetTo 8 = .ok (.getfield 83, 3) := by decide +kernel
theorem d_M_unmetTo_11 : decode b_M_unmetTo 11 = .ok (.if_icmp .ge 96, 3) := by decide +kernel
theorem d_M_unmetTo_14 : decode b_M_unmetTo 14 = .ok (.aload_n 1, 1) := by decide +kernel
theorem d_M_unmetTo_15 : decode b_M_unmetTo 15 = .ok (.bipush 6, 2) := by decide +kernel
theorem d_M_unmetTo_17 : decode b_M_unmetTo 17 = .ok (.aload_n 0, 1) := by decide +kernel
theorem d_M_unmetTo_18 : decode b_M_unmetTo 18 = .ok (.getfield 51, 3) := by decide +kernel
theorem d_M_unmetTo_21 : decode b_M_unmetTo 21 = .ok (.iload 4, 2) := by decide +kernel
theorem d_M_unmetTo_23 : decode b_M_unmetTo 23 = .ok (.iaload, 1) := by decide +kernel
theorem d_M_unmetTo_24 : decode b_M_unmetTo 24 = .ok (.imul, 1) := by decide +kernel
theorem d_M_unmetTo_25 : decode b_M_unmetTo 25 = .ok (.aload_n 0, 1) := by decide +kernel
theorem d_M_unmetTo_26 : decode b_M_unmetTo 26 = .ok (.getfield 48, 3) := by decide +kernel
theorem d_M_unmetTo_29 : decode b_M_unmetTo 29 = .ok (.iload 4, 2) := by decide +kernel
theorem d_M_unmetTo_31 : decode b_M_unmetTo 31 = .ok (.iaload, 1) := by decide +kernel
theorem d_M_unmetTo_32 : decode b_M_unmetTo 32 = .ok (.iadd, 1) := by decide +kernel
theorem d_M_unmetTo_33 : decode b_M_unmetTo 33 = .ok (.iaload, 1) := by decide +kernel
theorem d_M_unmetTo_34 : decode b_M_unmetTo 34 = .ok (.aload_n 0, 1) := by decide +kernel
theorem d_M_unmetTo_35 : decode b_M_unmetTo 35 = .ok (.getfield 54, 3) := by decide +kernel
theorem d_M_unmetTo_38 : decode b_M_unmetTo 38 = .ok (.iload 4, 2) := by decide +kernel
theorem d_M_unmetTo_40 : decode b_M_unmetTo 40 = .ok (.iaload, 1) := by decide +kernel
theorem d_M_unmetTo_41 : decode b_M_unmetTo 41 = .ok (.if_icmp .ne 7, 3) := by decide +kernel
theorem d_M_unmetTo_44 : decode b_M_unmetTo 44 = .ok (.iconst 1, 1) := by decide +kernel
theorem d_M_unmetTo_45 : decode b_M_unmetTo 45 = .ok (.goto 4, 3) := by decide +kernel
theorem d_M_unmetTo_48 : decode b_M_unmetTo 48 = .ok (.iconst 0, 1) := by decide +kernel
theorem d_M_unmetTo_49 : decode b_M_unmetTo 49 = .ok (.istore 5, 2) := by decide +kernel
theorem d_M_unmetTo_51 : decode b_M_unmetTo 51 = .ok (.iload_n 3, 1) := by decide +kernel
theorem d_M_unmetTo_52 : decode b_M_unmetTo 52 = .ok (.aload_n 0, 1) := by decide +kernel
theorem d_M_unmetTo_53 : decode b_M_unmetTo 53 = .ok (.getfield 51, 3) := by decide +kernel
theorem d_M_unmetTo_56 : decode b_M_unmetTo 56 = .ok (.iload 4, 2) := by decide +kernel
theorem d_M_unmetTo_58 : decode b_M_unmetTo 58 = .ok (.iaload, 1) := by decide +kernel
theorem d_M_unmetTo_59 : decode b_M_unmetTo 59 = .ok (.aload_n 0, 1) := by decide +kernel
theorem d_M_unmetTo_60 : decode b_M_unmetTo 60 = .ok (.getfield 66, 3) := by decide +kernel
theorem d_M_unmetTo_63 : decode b_M_unmetTo 63 = .ok (.imul, 1) := by decide +kernel
theorem d_M_unmetTo_64 : decode b_M_unmetTo 64 = .ok (.aload_n 0, 1) := by decide +kernel
theorem d_M_unmetTo_65 : decode b_M_unmetTo 65 = .ok (.getfield 48, 3) := by decide +kernel
theorem d_M_unmetTo_68 : decode b_M_unmetTo 68 = .ok (.iload 4, 2) := by decide +kernel
theorem d_M_unmetTo_70 : decode b_M_unmetTo 70 = .ok (.iaload, 1) := by decide +kernel
theorem d_M_unmetTo_71 : decode b_M_unmetTo 71 = .ok (.iadd, 1) := by decide +kernel
theorem d_M_unmetTo_72 : decode b_M_unmetTo 72 = .ok (.iload_n 2, 1) := by decide +kernel
theorem d_M_unmetTo_73 : decode b_M_unmetTo 73 = .ok (.if_icmp .gt 25, 3) := by decide +kernel
theorem d_M_unmetTo_76 : decode b_M_unmetTo 76 = .ok (.iload 5, 2) := by decide +kernel
theorem d_M_unmetTo_78 : decode b_M_unmetTo 78 = .ok (.aload_n 0, 1) := by decide +kernel
theorem d_M_unmetTo_79 : decode b_M_unmetTo 79 = .ok (.getfield 57, 3) := by decide +kernel
theorem d_M_unmetTo_82 : decode b_M_unmetTo 82 = .ok (.iload 4, 2) := by decide +kernel
theorem d_M_unmetTo_84 : decode b_M_unmetTo 84 = .ok (.baload, 1) := by decide +kernel
theorem d_M_unmetTo_85 : decode b_M_unmetTo 85 = .ok (.if_icmp .eq 13, 3) := by decide +kernel
theorem d_M_unmetTo_88 : decode b_M_unmetTo 88 = .ok (.aload_n 0, 1) := by decide +kernel
theorem d_M_unmetTo_89 : decode b_M_unmetTo 89 = .ok (.getfield 60, 3) := by decide +kernel
theorem d_M_unmetTo_92 : decode b_M_unmetTo 92 = .ok (.iload 4, 2) := by decide +kernel
theorem d_M_unmetTo_94 : decode b_M_unmetTo 94 = .ok (.iaload, 1) := by decide +kernel
theorem d_M_unmetTo_95 : decode b_M_unmetTo 95 = .ok (.goto 4, 3) := by decide +kernel
theorem d_M_unmetTo_98 : decode b_M_unmetTo 98 = .ok (.iconst 0, 1) := by decide +kernel
theorem d_M_unmetTo_99 : decode b_M_unmetTo 99 = .ok (.iadd, 1) := by decide +kernel
theorem d_M_unmetTo_100 : decode b_M_unmetTo 100 = .ok (.istore_n 3, 1) := by decide +kernel
theorem d_M_unmetTo_101 : decode b_M_unmetTo 101 = .ok (.iinc 4 1, 3) := by decide +kernel
theorem d_M_unmetTo_104 : decode b_M_unmetTo 104 = .ok (.goto (-99), 3) := by decide +kernel
theorem d_M_unmetTo_107 : decode b_M_unmetTo 107 = .ok (.iload_n 3, 1) := by decide +kernel
theorem d_M_unmetTo_108 : decode b_M_unmetTo 108 = .ok (.ireturn, 1) := by decide +kernel
theorem d_M_wrongWith_0 : decode b_M_wrongWith 0 = .ok (.iconst 0, 1) := by decide +kernel
theorem d_M_wrongWith_1 : decode b_M_wrongWith 1 = .ok (.istore_n 2, 1) := by decide +kernel
theorem d_M_wrongWith_2 : decode b_M_wrongWith 2 = .ok (.iload_n 2, 1) := by decide +kernel
theorem d_M_wrongWith_3 : decode b_M_wrongWith 3 = .ok (.aload_n 0, 1) := by decide +kernel
theorem d_M_wrongWith_4 : decode b_M_wrongWith 4 = .ok (.getfield 73, 3) := by decide +kernel
theorem d_M_wrongWith_7 : decode b_M_wrongWith 7 = .ok (.if_icmp .ge 42, 3) := by decide +kernel
theorem d_M_wrongWith_10 : decode b_M_wrongWith 10 = .ok (.iconst 1, 1) := by decide +kernel
theorem d_M_wrongWith_11 : decode b_M_wrongWith 11 = .ok (.istore_n 3, 1) := by decide +kernel
theorem d_M_wrongWith_12 : decode b_M_wrongWith 12 = .ok (.iload_n 3, 1) := by decide +kernel
theorem d_M_wrongWith_13 : decode b_M_wrongWith 13 = .ok (.iconst 4, 1) := by decide +kernel
theorem d_M_wrongWith_14 : decode b_M_wrongWith 14 = .ok (.if_icmp .ge 29, 3) := by decide +kernel
theorem d_M_wrongWith_17 : decode b_M_wrongWith 17 = .ok (.aload_n 0, 1) := by decide +kernel
theorem d_M_wrongWith_18 : decode b_M_wrongWith 18 = .ok (.aload_n 1, 1) := by decide +kernel
theorem d_M_wrongWith_19 : decode b_M_wrongWith 19 = .ok (.iload_n 2, 1) := by decide +kernel
theorem d_M_wrongWith_20 : decode b_M_wrongWith 20 = .ok (.iload_n 3, 1) := by decide +kernel
theorem d_M_wrongWith_21 : decode b_M_wrongWith 21 = .ok (.invokevirtual 97, 3) := by decide +kernel
theorem d_M_wrongWith_24 : decode b_M_wrongWith 24 = .ok (.ifCond .ne 13, 3) := by decide +kernel
theorem d_M_wrongWith_27 : decode b_M_wrongWith 27 = .ok (.bipush 100, 2) := by decide +kernel
theorem d_M_wrongWith_29 : decode b_M_wrongWith 29 = .ok (.bipush 10, 2) := by decide +kernel
theorem d_M_wrongWith_31 : decode b_M_wrongWith 31 = .ok (.iload_n 3, 1) := by decide +kernel
theorem d_M_wrongWith_32 : decode b_M_wrongWith 32 = .ok (.imul, 1) := by decide +kernel
theorem d_M_wrongWith_33 : decode b_M_wrongWith 33 = .ok (.iadd, 1) := by decide +kernel
theorem d_M_wrongWith_34 : decode b_M_wrongWith 34 = .ok (.iload_n 2, 1) := by decide +kernel
theorem d_M_wrongWith_35 : decode b_M_wrongWith 35 = .ok (.iadd, 1) := by decide +kernel
theorem d_M_wrongWith_36 : decode b_M_wrongWith 36 = .ok (.ireturn, 1) := by decide +kernel
theorem d_M_wrongWith_37 : decode b_M_wrongWith 37 = .ok (.iinc 3 1, 3) := by decide +kernel
theorem d_M_wrongWith_40 : decode b_M_wrongWith 40 = .ok (.goto (-28), 3) := by decide +kernel
theorem d_M_wrongWith_43 : decode b_M_wrongWith 43 = .ok (.iinc 2 1, 3) := by decide +kernel
theorem d_M_wrongWith_46 : decode b_M_wrongWith 46 = .ok (.goto (-44), 3) := by decide +kernel
theorem d_M_wrongWith_49 : decode b_M_wrongWith 49 = .ok (.iconst 2, 1) := by decide +kernel
theorem d_M_wrongWith_50 : decode b_M_wrongWith 50 = .ok (.istore_n 2, 1) := by decide +kernel
theorem d_M_wrongWith_51 : decode b_M_wrongWith 51 = .ok (.iload_n 2, 1) := by decide +kernel
theorem d_M_wrongWith_52 : decode b_M_wrongWith 52 = .ok (.bipush 6, 2) := by decide +kernel
theorem d_M_wrongWith_54 : decode b_M_wrongWith 54 = .ok (.if_icmp .ge 211, 3) := by decide +kernel
theorem d_M_wrongWith_57 : decode b_M_wrongWith 57 = .ok (.iconst 0, 1) := by decide +kernel
theorem d_M_wrongWith_58 : decode b_M_wrongWith 58 = .ok (.istore_n 3, 1) := by decide +kernel
theorem d_M_wrongWith_59 : decode b_M_wrongWith 59 = .ok (.iload_n 3, 1) := by decide +kernel
theorem d_M_wrongWith_60 : decode b_M_wrongWith 60 = .ok (.aload_n 0, 1) := by decide +kernel
theorem d_M_wrongWith_61 : decode b_M_wrongWith 61 = .ok (.getfield 66, 3) := by decide +kernel
theorem d_M_wrongWith_64 : decode b_M_wrongWith 64 = .ok (.if_icmp .ge 195, 3) := by decide +kernel
theorem d_M_wrongWith_67 : decode b_M_wrongWith 67 = .ok (.iconst 0, 1) := by decide +kernel
theorem d_M_wrongWith_68 : decode b_M_wrongWith 68 = .ok (.istore 4, 2) := by decide +kernel
theorem d_M_wrongWith_70 : decode b_M_wrongWith 70 = .ok (.iconst 0, 1) := by decide +kernel
theorem d_M_wrongWith_71 : decode b_M_wrongWith 71 = .ok (.istore 5, 2) := by decide +kernel
theorem d_M_wrongWith_73 : decode b_M_wrongWith 73 = .ok (.iload 5, 2) := by decide +kernel
theorem d_M_wrongWith_75 : decode b_M_wrongWith 75 = .ok (.aload_n 0, 1) := by decide +kernel
theorem d_M_wrongWith_76 : decode b_M_wrongWith 76 = .ok (.getfield 73, 3) := by decide +kernel
theorem d_M_wrongWith_79 : decode b_M_wrongWith 79 = .ok (.if_icmp .ge 132, 3) := by decide +kernel
theorem d_M_wrongWith_82 : decode b_M_wrongWith 82 = .ok (.aload_n 1, 1) := by decide +kernel
theorem d_M_wrongWith_83 : decode b_M_wrongWith 83 = .ok (.bipush 6, 2) := by decide +kernel
theorem d_M_wrongWith_85 : decode b_M_wrongWith 85 = .ok (.iload 5, 2) := by decide +kernel
theorem d_M_wrongWith_87 : decode b_M_wrongWith 87 = .ok (.imul, 1) := by decide +kernel
theorem d_M_wrongWith_88 : decode b_M_wrongWith 88 = .ok (.iload_n 3, 1) := by decide +kernel
theorem d_M_wrongWith_89 : decode b_M_wrongWith 89 = .ok (.iadd, 1) := by decide +kernel
theorem d_M_wrongWith_90 : decode b_M_wrongWith 90 = .ok (.iaload, 1) := by decide +kernel
theorem d_M_wrongWith_91 : decode b_M_wrongWith 91 = .ok (.istore 6, 2) := by decide +kernel
theorem d_M_wrongWith_93 : decode b_M_wrongWith 93 = .ok (.iload 6, 2) := by decide +kernel
theorem d_M_wrongWith_95 : decode b_M_wrongWith 95 = .ok (.ifCond .le 8, 3) := by decide +kernel
theorem d_M_wrongWith_98 : decode b_M_wrongWith 98 = .ok (.iload 5, 2) := by decide +kernel
theorem d_M_wrongWith_100 : decode b_M_wrongWith 100 = .ok (.goto 5, 3) := by decide +kernel
theorem d_M_wrongWith_103 : decode b_M_wrongWith 103 = .ok (.iload 4, 2) := by decide +kernel
theorem d_M_wrongWith_105 : decode b_M_wrongWith 105 = .ok (.istore 4, 2) := by decide +kernel
theorem d_M_wrongWith_107 : decode b_M_wrongWith 107 = .ok (.iload_n 2, 1) := by decide +kernel
theorem d_M_wrongWith_108 : decode b_M_wrongWith 108 = .ok (.iconst 2, 1) := by decide +kernel
theorem d_M_wrongWith_109 : decode b_M_wrongWith 109 = .ok (.if_icmp .ne 14, 3) := by decide +kernel
theorem d_M_wrongWith_112 : decode b_M_wrongWith 112 = .ok (.aload_n 0, 1) := by decide +kernel
theorem d_M_wrongWith_113 : decode b_M_wrongWith 113 = .ok (.aload_n 1, 1) := by decide +kernel
theorem d_M_wrongWith_114 : decode b_M_wrongWith 114 = .ok (.iload_n 3, 1) := by decide +kernel
theorem d_M_wrongWith_115 : decode b_M_wrongWith 115 = .ok (.iload 5, 2) := by decide +kernel
theorem d_M_wrongWith_117 : decode b_M_wrongWith 117 = .ok (.invokevirtual 101, 3) := by decide +kernel
theorem d_M_wrongWith_120 : decode b_M_wrongWith 120 = .ok (.goto 65, 3) := by decide +kernel
theorem d_M_wrongWith_123 : decode b_M_wrongWith 123 = .ok (.iload_n 2, 1) := by decide +kernel
theorem d_M_wrongWith_124 : decode b_M_wrongWith 124 = .ok (.iconst 4, 1) := by decide +kernel
theorem d_M_wrongWith_125 : decode b_M_wrongWith 125 = .ok (.if_icmp .ne 25, 3) := by decide +kernel
theorem d_M_wrongWith_128 : decode b_M_wrongWith 128 = .ok (.aload_n 1, 1) := by decide +kernel
theorem d_M_wrongWith_129 : decode b_M_wrongWith 129 = .ok (.iload_n 3, 1) := by decide +kernel
theorem d_M_wrongWith_130 : decode b_M_wrongWith 130 = .ok (.iload 5, 2) := by decide +kernel
theorem d_M_wrongWith_132 : decode b_M_wrongWith 132 = .ok (.invokestatic 104, 3) := by decide +kernel
theorem d_M_wrongWith_135 : decode b_M_wrongWith 135 = .ok (.aload_n 0, 1) := by decide +kernel
theorem d_M_wrongWith_136 : decode b_M_wrongWith 136 = .ok (.getfield 45, 3) := by decide +kernel
theorem d_M_wrongWith_139 : decode b_M_wrongWith 139 = .ok (.if_icmp .le 7, 3) := by decide +kernel
theorem d_M_wrongWith_142 : decode b_M_wrongWith 142 = .ok (.iconst 1, 1) := by decide +kernel
theorem d_M_wrongWith_143 : decode b_M_wrongWith 143 = .ok (.goto 42, 3) := by decide +kernel
theorem d_M_wrongWith_146 : decode b_M_wrongWith 146 = .ok (.iconst 0, 1) := by decide +kernel
theorem d_M_wrongWith_147 : decode b_M_wrongWith 147 = .ok (.goto 38, 3) := by decide +kernel
theorem d_M_wrongWith_150 : decode b_M_wrongWith 150 = .ok (.iload_n 2, 1) := by decide +kernel
theorem d_M_wrongWith_151 : decode b_M_wrongWith 151 = .ok (.iconst 5, 1) := by decide +kernel
theorem d_M_wrongWith_152 : decode b_M_wrongWith 152 = .ok (.if_icmp .ne 32, 3) := by decide +kernel
theorem d_M_wrongWith_155 : decode b_M_wrongWith 155 = .ok (.iload 6, 2) := by decide +kernel
theorem d_M_wrongWith_157 : decode b_M_wrongWith 157 = .ok (.ifCond .le 27, 3) := by decide +kernel
theorem d_M_wrongWith_160 : decode b_M_wrongWith 160 = .ok (.aload_n 0, 1) := by decide +kernel
theorem d_M_wrongWith_161 : decode b_M_wrongWith 161 = .ok (.getfield 34, 3) := by decide +kernel
theorem d_M_wrongWith_164 : decode b_M_wrongWith 164 = .ok (.bipush 24, 2) := by decide +kernel
theorem d_M_wrongWith_166 : decode b_M_wrongWith 166 = .ok (.iload 5, 2) := by decide +kernel
theorem d_M_wrongWith_168 : decode b_M_wrongWith 168 = .ok (.imul, 1) := by decide +kernel
theorem d_M_wrongWith_169 : decode b_M_wrongWith 169 = .ok (.iconst 4, 1) := by decide +kernel
theorem d_M_wrongWith_170 : decode b_M_wrongWith 170 = .ok (.iload_n 3, 1) := by decide +kernel
theorem d_M_wrongWith_171 : decode b_M_wrongWith 171 = .ok (.imul, 1) := by decide +kernel
theorem d_M_wrongWith_172 : decode b_M_wrongWith 172 = .ok (.iadd, 1) := by decide +kernel
theorem d_M_wrongWith_173 : decode b_M_wrongWith 173 = .ok (.iload 6, 2) := by decide +kernel
theorem d_M_wrongWith_175 : decode b_M_wrongWith 175 = .ok (.iadd, 1) := by decide +kernel
theorem d_M_wrongWith_176 : decode b_M_wrongWith 176 = .ok (.baload, 1) := by decide +kernel
theorem d_M_wrongWith_177 : decode b_M_wrongWith 177 = .ok (.ifCond .eq 7, 3) := by decide +kernel
theorem d_M_wrongWith_180 : decode b_M_wrongWith 180 = .ok (.iconst 1, 1) := by decide +kernel
theorem d_M_wrongWith_181 : decode b_M_wrongWith 181 = .ok (.goto 4, 3) := by decide +kernel
theorem d_M_wrongWith_184 : decode b_M_wrongWith 184 = .ok (.iconst 0, 1) := by decide +kernel
theorem d_M_wrongWith_185 : decode b_M_wrongWith 185 = .ok (.istore 7, 2) := by decide +kernel
theorem d_M_wrongWith_187 : decode b_M_wrongWith 187 = .ok (.iload 7, 2) := by decide +kernel
theorem d_M_wrongWith_189 : decode b_M_wrongWith 189 = .ok (.ifCond .eq 16, 3) := by decide +kernel
theorem d_M_wrongWith_192 : decode b_M_wrongWith 192 = .ok (.bipush 100, 2) := by decide +kernel
theorem d_M_wrongWith_194 : decode b_M_wrongWith 194 = .ok (.iload_n 2, 1) := by decide +kernel
theorem d_M_wrongWith_195 : decode b_M_wrongWith 195 = .ok (.imul, 1) := by decide +kernel
theorem d_M_wrongWith_196 : decode b_M_wrongWith 196 = .ok (.bipush 10, 2) := by decide +kernel
theorem d_M_wrongWith_198 : decode b_M_wrongWith 198 = .ok (.iload_n 3, 1) := by decide +kernel
theorem d_M_wrongWith_199 : decode b_M_wrongWith 199 = .ok (.imul, 1) := by decide +kernel
theorem d_M_wrongWith_200 : decode b_M_wrongWith 200 = .ok (.iadd, 1) := by decide +kernel
theorem d_M_wrongWith_201 : decode b_M_wrongWith 201 = .ok (.iload 5, 2) := by decide +kernel
theorem d_M_wrongWith_203 : decode b_M_wrongWith 203 = .ok (.iadd, 1) := by decide +kernel
theorem d_M_wrongWith_204 : decode b_M_wrongWith 204 = .ok (.ireturn, 1) := by decide +kernel
theorem d_M_wrongWith_205 : decode b_M_wrongWith 205 = .ok (.iinc 5 1, 3) := by decide +kernel
theorem d_M_wrongWith_208 : decode b_M_wrongWith 208 = .ok (.goto (-135), 3) := by decide +kernel
theorem d_M_wrongWith_211 : decode b_M_wrongWith 211 = .ok (.iload_n 2, 1) := by decide +kernel
theorem d_M_wrongWith_212 : decode b_M_wrongWith 212 = .ok (.iconst 3, 1) := by decide +kernel
theorem d_M_wrongWith_213 : decode b_M_wrongWith 213 = .ok (.if_icmp .ne 40, 3) := by decide +kernel
theorem d_M_wrongWith_216 : decode b_M_wrongWith 216 = .ok (.aload_n 0, 1) := by decide +kernel
theorem d_M_wrongWith_217 : decode b_M_wrongWith 217 = .ok (.getfield 73, 3) := by decide +kernel
theorem d_M_wrongWith_220 : decode b_M_wrongWith 220 = .ok (.ifCond .le 33, 3) := by decide +kernel
theorem d_M_wrongWith_223 : decode b_M_wrongWith 223 = .ok (.aload_n 1, 1) := by decide +kernel
theorem d_M_wrongWith_224 : decode b_M_wrongWith 224 = .ok (.iload_n 3, 1) := by decide +kernel
theorem d_M_wrongWith_225 : decode b_M_wrongWith 225 = .ok (.aload_n 0, 1) := by decide +kernel
theorem d_M_wrongWith_226 : decode b_M_wrongWith 226 = .ok (.getfield 73, 3) := by decide +kernel
theorem d_M_wrongWith_229 : decode b_M_wrongWith 229 = .ok (.iconst 1, 1) := by decide +kernel
theorem d_M_wrongWith_230 : decode b_M_wrongWith 230 = .ok (.isub, 1) := by decide +kernel
theorem d_M_wrongWith_231 : decode b_M_wrongWith 231 = .ok (.invokestatic 108, 3) := by decide +kernel
theorem d_M_wrongWith_234 : decode b_M_wrongWith 234 = .ok (.aload_n 0, 1) := by decide +kernel
theorem d_M_wrongWith_235 : decode b_M_wrongWith 235 = .ok (.getfield 42, 3) := by decide +kernel
theorem d_M_wrongWith_238 : decode b_M_wrongWith 238 = .ok (.if_icmp .le 15, 3) := by decide +kernel
theorem d_M_wrongWith_241 : decode b_M_wrongWith 241 = .ok (.sipush 300, 3) := by decide +kernel
theorem d_M_wrongWith_244 : decode b_M_wrongWith 244 = .ok (.bipush 10, 2) := by decide +kernel
theorem d_M_wrongWith_246 : decode b_M_wrongWith 246 = .ok (.iload_n 3, 1) := by decide +kernel
theorem d_M_wrongWith_247 : decode b_M_wrongWith 247 = .ok (.imul, 1) := by decide +kernel
theorem d_M_wrongWith_248 : decode b_M_wrongWith 248 = .ok (.iadd, 1) := by decide +kernel
theorem d_M_wrongWith_249 : decode b_M_wrongWith 249 = .ok (.iload 4, 2) := by decide +kernel
theorem d_M_wrongWith_251 : decode b_M_wrongWith 251 = .ok (.iadd, 1) := by decide +kernel
theorem d_M_wrongWith_252 : decode b_M_wrongWith 252 = .ok (.ireturn, 1) := by decide +kernel
theorem d_M_wrongWith_253 : decode b_M_wrongWith 253 = .ok (.iinc 3 1, 3) := by decide +kernel
theorem d_M_wrongWith_256 : decode b_M_wrongWith 256 = .ok (.goto (-197), 3) := by decide +kernel
theorem d_M_wrongWith_259 : decode b_M_wrongWith 259 = .ok (.iinc 2 1, 3) := by decide +kernel
theorem d_M_wrongWith_262 : decode b_M_wrongWith 262 = .ok (.goto (-211), 3) := by decide +kernel
theorem d_M_wrongWith_265 : decode b_M_wrongWith 265 = .ok (.iconst 0, 1) := by decide +kernel
theorem d_M_wrongWith_266 : decode b_M_wrongWith 266 = .ok (.ireturn, 1) := by decide +kernel
theorem d_M_givesUp_0 : decode b_M_givesUp 0 = .ok (.iload_n 1, 1) := by decide +kernel
theorem d_M_givesUp_1 : decode b_M_givesUp 1 = .ok (.aload_n 0, 1) := by decide +kernel
theorem d_M_givesUp_2 : decode b_M_givesUp 2 = .ok (.getfield 66, 3) := by decide +kernel
theorem d_M_givesUp_5 : decode b_M_givesUp 5 = .ok (.idiv, 1) := by decide +kernel
theorem d_M_givesUp_6 : decode b_M_givesUp 6 = .ok (.istore_n 3, 1) := by decide +kernel
theorem d_M_givesUp_7 : decode b_M_givesUp 7 = .ok (.iload_n 1, 1) := by decide +kernel
theorem d_M_givesUp_8 : decode b_M_givesUp 8 = .ok (.aload_n 0, 1) := by decide +kernel
theorem d_M_givesUp_9 : decode b_M_givesUp 9 = .ok (.getfield 66, 3) := by decide +kernel
theorem d_M_givesUp_12 : decode b_M_givesUp 12 = .ok (.irem, 1) := by decide +kernel
theorem d_M_givesUp_13 : decode b_M_givesUp 13 = .ok (.istore 4, 2) := by decide +kernel
theorem d_M_givesUp_15 : decode b_M_givesUp 15 = .ok (.aload_n 0, 1) := by decide +kernel
theorem d_M_givesUp_16 : decode b_M_givesUp 16 = .ok (.getfield 19, 3) := by decide +kernel
theorem d_M_givesUp_19 : decode b_M_givesUp 19 = .ok (.bipush 6, 2) := by decide +kernel
theorem d_M_givesUp_21 : decode b_M_givesUp 21 = .ok (.iload_n 3, 1) := by decide +kernel
theorem d_M_givesUp_22 : decode b_M_givesUp 22 = .ok (.imul, 1) := by decide +kernel
theorem d_M_givesUp_23 : decode b_M_givesUp 23 = .ok (.iload 4, 2) := by decide +kernel
theorem d_M_givesUp_25 : decode b_M_givesUp 25 = .ok (.iadd, 1) := by decide +kernel
theorem d_M_givesUp_26 : decode b_M_givesUp 26 = .ok (.iaload, 1) := by decide +kernel
theorem d_M_givesUp_27 : decode b_M_givesUp 27 = .ok (.istore 5, 2) := by decide +kernel
theorem d_M_givesUp_29 : decode b_M_givesUp 29 = .ok (.aload_n 0, 1) := by decide +kernel
theorem d_M_givesUp_30 : decode b_M_givesUp 30 = .ok (.aload_n 0, 1) := by decide +kernel
theorem d_M_givesUp_31 : decode b_M_givesUp 31 = .ok (.getfield 19, 3) := by decide +kernel
theorem d_M_givesUp_34 : decode b_M_givesUp 34 = .ok (.iload 4, 2) := by decide +kernel
theorem d_M_givesUp_36 : decode b_M_givesUp 36 = .ok (.iload_n 3, 1) := by decide +kernel
theorem d_M_givesUp_37 : decode b_M_givesUp 37 = .ok (.invokevirtual 101, 3) := by decide +kernel
theorem d_M_givesUp_40 : decode b_M_givesUp 40 = .ok (.ifCond .ne 37, 3) := by decide +kernel
theorem d_M_givesUp_43 : decode b_M_givesUp 43 = .ok (.aload_n 0, 1) := by decide +kernel
theorem d_M_givesUp_44 : decode b_M_givesUp 44 = .ok (.getfield 19, 3) := by decide +kernel
theorem d_M_givesUp_47 : decode b_M_givesUp 47 = .ok (.iload 4, 2) := by decide +kernel
theorem d_M_givesUp_49 : decode b_M_givesUp 49 = .ok (.iload_n 3, 1) := by decide +kernel
theorem d_M_givesUp_50 : decode b_M_givesUp 50 = .ok (.invokestatic 108, 3) := by decide +kernel
theorem d_M_givesUp_53 : decode b_M_givesUp 53 = .ok (.aload_n 0, 1) := by decide +kernel
theorem d_M_givesUp_54 : decode b_M_givesUp 54 = .ok (.getfield 42, 3) := by decide +kernel
theorem d_M_givesUp_57 : decode b_M_givesUp 57 = .ok (.if_icmp .gt 20, 3) := by decide +kernel
theorem d_M_givesUp_60 : decode b_M_givesUp 60 = .ok (.aload_n 0, 1) := by decide +kernel
theorem d_M_givesUp_61 : decode b_M_givesUp 61 = .ok (.getfield 19, 3) := by decide +kernel
theorem d_M_givesUp_64 : decode b_M_givesUp 64 = .ok (.iload 4, 2) := by decide +kernel
theorem d_M_givesUp_66 : decode b_M_givesUp 66 = .ok (.iload_n 3, 1) := by decide +kernel
theorem d_M_givesUp_67 : decode b_M_givesUp 67 = .ok (.invokestatic 104, 3) := by decide +kernel
theorem d_M_givesUp_70 : decode b_M_givesUp 70 = .ok (.aload_n 0, 1) := by decide +kernel
theorem d_M_givesUp_71 : decode b_M_givesUp 71 = .ok (.getfield 45, 3) := by decide +kernel
theorem d_M_givesUp_74 : decode b_M_givesUp 74 = .ok (.if_icmp .le 5, 3) := by decide +kernel
theorem d_M_givesUp_77 : decode b_M_givesUp 77 = .ok (.iconst 1, 1) := by decide +kernel
theorem d_M_givesUp_78 : decode b_M_givesUp 78 = .ok (.ireturn, 1) := by decide +kernel
theorem d_M_givesUp_79 : decode b_M_givesUp 79 = .ok (.iload 5, 2) := by decide +kernel
theorem d_M_givesUp_81 : decode b_M_givesUp 81 = .ok (.ifCond .le 25, 3) := by decide +kernel
theorem d_M_givesUp_84 : decode b_M_givesUp 84 = .ok (.aload_n 0, 1) := by decide +kernel
theorem d_M_givesUp_85 : decode b_M_givesUp 85 = .ok (.getfield 34, 3) := by decide +kernel
theorem d_M_givesUp_88 : decode b_M_givesUp 88 = .ok (.bipush 24, 2) := by decide +kernel
theorem d_M_givesUp_90 : decode b_M_givesUp 90 = .ok (.iload_n 3, 1) := by decide +kernel
theorem d_M_givesUp_91 : decode b_M_givesUp 91 = .ok (.imul, 1) := by decide +kernel
theorem d_M_givesUp_92 : decode b_M_givesUp 92 = .ok (.iconst 4, 1) := by decide +kernel
theorem d_M_givesUp_93 : decode b_M_givesUp 93 = .ok (.iload 4, 2) := by decide +kernel
theorem d_M_givesUp_95 : decode b_M_givesUp 95 = .ok (.imul, 1) := by decide +kernel
theorem d_M_givesUp_96 : decode b_M_givesUp 96 = .ok (.iadd, 1) := by decide +kernel
theorem d_M_givesUp_97 : decode b_M_givesUp 97 = .ok (.iload 5, 2) := by decide +kernel
theorem d_M_givesUp_99 : decode b_M_givesUp 99 = .ok (.iadd, 1) := by decide +kernel
theorem d_M_givesUp_100 : decode b_M_givesUp 100 = .ok (.baload, 1) := by decide +kernel
theorem d_M_givesUp_101 : decode b_M_givesUp 101 = .ok (.ifCond .eq 5, 3) := by decide +kernel
theorem d_M_givesUp_104 : decode b_M_givesUp 104 = .ok (.iconst 1, 1) := by decide +kernel
theorem d_M_givesUp_105 : decode b_M_givesUp 105 = .ok (.ireturn, 1) := by decide +kernel
theorem d_M_givesUp_106 : decode b_M_givesUp 106 = .ok (.iload 4, 2) := by decide +kernel
theorem d_M_givesUp_108 : decode b_M_givesUp 108 = .ok (.aload_n 0, 1) := by decide +kernel
theorem d_M_givesUp_109 : decode b_M_givesUp 109 = .ok (.getfield 66, 3) := by decide +kernel
theorem d_M_givesUp_112 : decode b_M_givesUp 112 = .ok (.iconst 1, 1) := by decide +kernel
theorem d_M_givesUp_113 : decode b_M_givesUp 113 = .ok (.isub, 1) := by decide +kernel
theorem d_M_givesUp_114 : decode b_M_givesUp 114 = .ok (.if_icmp .ne 17, 3) := by decide +kernel
theorem d_M_givesUp_117 : decode b_M_givesUp 117 = .ok (.aload_n 0, 1) := by decide +kernel
theorem d_M_givesUp_118 : decode b_M_givesUp 118 = .ok (.aload_n 0, 1) := by decide +kernel
theorem d_M_givesUp_119 : decode b_M_givesUp 119 = .ok (.getfield 19, 3) := by decide +kernel
theorem d_M_givesUp_122 : decode b_M_givesUp 122 = .ok (.iload_n 3, 1) := by decide +kernel
theorem d_M_givesUp_123 : decode b_M_givesUp 123 = .ok (.invokevirtual 111, 3) := by decide +kernel
theorem d_M_givesUp_126 : decode b_M_givesUp 126 = .ok (.ifCond .ne 5, 3) := by decide +kernel
theorem d_M_givesUp_129 : decode b_M_givesUp 129 = .ok (.iconst 1, 1) := by decide +kernel
theorem d_M_givesUp_130 : decode b_M_givesUp 130 = .ok (.ireturn, 1) := by decide +kernel
theorem d_M_givesUp_131 : decode b_M_givesUp 131 = .ok (.iload_n 2, 1) := by decide +kernel
theorem d_M_givesUp_132 : decode b_M_givesUp 132 = .ok (.ifCond .lt 20, 3) := by decide +kernel
theorem d_M_givesUp_135 : decode b_M_givesUp 135 = .ok (.aload_n 0, 1) := by decide +kernel
theorem d_M_givesUp_136 : decode b_M_givesUp 136 = .ok (.aload_n 0, 1) := by decide +kernel
theorem d_M_givesUp_137 : decode b_M_givesUp 137 = .ok (.getfield 19, 3) := by decide +kernel
theorem d_M_givesUp_140 : decode b_M_givesUp 140 = .ok (.iload_n 1, 1) := by decide +kernel
theorem d_M_givesUp_141 : decode b_M_givesUp 141 = .ok (.invokevirtual 115, 3) := by decide +kernel
theorem d_M_givesUp_144 : decode b_M_givesUp 144 = .ok (.iload_n 2, 1) := by decide +kernel
theorem d_M_givesUp_145 : decode b_M_givesUp 145 = .ok (.if_icmp .lt 7, 3) := by decide +kernel
theorem d_M_givesUp_148 : decode b_M_givesUp 148 = .ok (.iconst 1, 1) := by decide +kernel
theorem d_M_givesUp_149 : decode b_M_givesUp 149 = .ok (.goto 4, 3) := by decide +kernel
theorem d_M_givesUp_152 : decode b_M_givesUp 152 = .ok (.iconst 0, 1) := by decide +kernel
theorem d_M_givesUp_153 : decode b_M_givesUp 153 = .ok (.ireturn, 1) := by decide +kernel
theorem d_M_search_0 : decode b_M_search 0 = .ok (.iconst (-1), 1) := by decide +kernel
theorem d_M_search_1 : decode b_M_search 1 = .ok (.istore_n 2, 1) := by decide +kernel
theorem d_M_search_2 : decode b_M_search 2 = .ok (.iconst 0, 1) := by decide +kernel
theorem d_M_search_3 : decode b_M_search 3 = .ok (.istore_n 3, 1) := by decide +kernel
theorem d_M_search_4 : decode b_M_search 4 = .ok (.aload_n 0, 1) := by decide +kernel
theorem d_M_search_5 : decode b_M_search 5 = .ok (.getfield 66, 3) := by decide +kernel
theorem d_M_search_8 : decode b_M_search 8 = .ok (.aload_n 0, 1) := by decide +kernel
theorem d_M_search_9 : decode b_M_search 9 = .ok (.getfield 73, 3) := by decide +kernel
theorem d_M_search_12 : decode b_M_search 12 = .ok (.imul, 1) := by decide +kernel
theorem d_M_search_13 : decode b_M_search 13 = .ok (.iconst 1, 1) := by decide +kernel
theorem d_M_search_14 : decode b_M_search 14 = .ok (.isub, 1) := by decide +kernel
theorem d_M_search_15 : decode b_M_search 15 = .ok (.istore 4, 2) := by decide +kernel
theorem d_M_search_17 : decode b_M_search 17 = .ok (.iconst 0, 1) := by decide +kernel
theorem d_M_search_18 : decode b_M_search 18 = .ok (.istore 5, 2) := by decide +kernel
theorem d_M_search_20 : decode b_M_search 20 = .ok (.iload_n 3, 1) := by decide +kernel
theorem d_M_search_21 : decode b_M_search 21 = .ok (.ifCond .lt 257, 3) := by decide +kernel
theorem d_M_search_24 : decode b_M_search 24 = .ok (.bipush 6, 2) := by decide +kernel
theorem d_M_search_26 : decode b_M_search 26 = .ok (.iload_n 3, 1) := by decide +kernel
theorem d_M_search_27 : decode b_M_search 27 = .ok (.aload_n 0, 1) := by decide +kernel
theorem d_M_search_28 : decode b_M_search 28 = .ok (.getfield 66, 3) := by decide +kernel
theorem d_M_search_31 : decode b_M_search 31 = .ok (.idiv, 1) := by decide +kernel
theorem d_M_search_32 : decode b_M_search 32 = .ok (.imul, 1) := by decide +kernel
theorem d_M_search_33 : decode b_M_search 33 = .ok (.iload_n 3, 1) := by decide +kernel
theorem d_M_search_34 : decode b_M_search 34 = .ok (.aload_n 0, 1) := by decide +kernel
theorem d_M_search_35 : decode b_M_search 35 = .ok (.getfield 66, 3) := by decide +kernel
theorem d_M_search_38 : decode b_M_search 38 = .ok (.irem, 1) := by decide +kernel
theorem d_M_search_39 : decode b_M_search 39 = .ok (.iadd, 1) := by decide +kernel
theorem d_M_search_40 : decode b_M_search 40 = .ok (.istore 6, 2) := by decide +kernel
theorem d_M_search_42 : decode b_M_search 42 = .ok (.iload_n 3, 1) := by decide +kernel
theorem d_M_search_43 : decode b_M_search 43 = .ok (.aload_n 0, 1) := by decide +kernel
theorem d_M_search_44 : decode b_M_search 44 = .ok (.getfield 66, 3) := by decide +kernel
theorem d_M_search_47 : decode b_M_search 47 = .ok (.idiv, 1) := by decide +kernel
theorem d_M_search_48 : decode b_M_search 48 = .ok (.aload_n 0, 1) := by decide +kernel
theorem d_M_search_49 : decode b_M_search 49 = .ok (.getfield 80, 3) := by decide +kernel
theorem d_M_search_52 : decode b_M_search 52 = .ok (.if_icmp .ge 7, 3) := by decide +kernel
theorem d_M_search_55 : decode b_M_search 55 = .ok (.iconst 1, 1) := by decide +kernel
theorem d_M_search_56 : decode b_M_search 56 = .ok (.goto 4, 3) := by decide +kernel
theorem d_M_search_59 : decode b_M_search 59 = .ok (.iconst 0, 1) := by decide +kernel
theorem d_M_search_60 : decode b_M_search 60 = .ok (.istore 7, 2) := by decide +kernel
theorem d_M_search_62 : decode b_M_search 62 = .ok (.iload 7, 2) := by decide +kernel
theorem d_M_search_64 : decode b_M_search 64 = .ok (.ifCond .eq 13, 3) := by decide +kernel
theorem d_M_search_67 : decode b_M_search 67 = .ok (.aload_n 0, 1) := by decide +kernel
theorem d_M_search_68 : decode b_M_search 68 = .ok (.getfield 16, 3) := by decide +kernel
theorem d_M_search_71 : decode b_M_search 71 = .ok (.iload 6, 2) := by decide +kernel
theorem d_M_search_73 : decode b_M_search 73 = .ok (.iaload, 1) := by decide +kernel
theorem d_M_search_74 : decode b_M_search 74 = .ok (.goto 5, 3) := by decide +kernel
theorem d_M_search_77 : decode b_M_search 77 = .ok (.iload 5, 2) := by decide +kernel
theorem d_M_search_79 : decode b_M_search 79 = .ok (.istore 8, 2) := by decide +kernel
theorem d_M_search_81 : decode b_M_search 81 = .ok (.iload 7, 2) := by decide +kernel
theorem d_M_search_83 : decode b_M_search 83 = .ok (.ifCond .eq 11, 3) := by decide +kernel
theorem d_M_search_86 : decode b_M_search 86 = .ok (.iload 5, 2) := by decide +kernel
theorem d_M_search_88 : decode b_M_search 88 = .ok (.ifCond .le 64, 3) := by decide +kernel
theorem d_M_search_91 : decode b_M_search 91 = .ok (.goto 9, 3) := by decide +kernel
theorem d_M_search_94 : decode b_M_search 94 = .ok (.iload 5, 2) := by decide +kernel
theorem d_M_search_96 : decode b_M_search 96 = .ok (.iconst 3, 1) := by decide +kernel
theorem d_M_search_97 : decode b_M_search 97 = .ok (.if_icmp .le 55, 3) := by decide +kernel
theorem d_M_search_100 : decode b_M_search 100 = .ok (.iinc 3 (-1), 3) := by decide +kernel
theorem d_M_search_103 : decode b_M_search 103 = .ok (.iload_n 3, 1) := by decide +kernel
theorem d_M_search_104 : decode b_M_search 104 = .ok (.ifCond .lt 171, 3) := by decide +kernel
theorem d_M_search_107 : decode b_M_search 107 = .ok (.iload_n 3, 1) := by decide +kernel
theorem d_M_search_108 : decode b_M_search 108 = .ok (.aload_n 0, 1) := by decide +kernel
theorem d_M_search_109 : decode b_M_search 109 = .ok (.getfield 66, 3) := by decide +kernel
theorem d_M_search_112 : decode b_M_search 112 = .ok (.idiv, 1) := by decide +kernel
theorem d_M_search_113 : decode b_M_search 113 = .ok (.aload_n 0, 1) := by decide +kernel
theorem d_M_search_114 : decode b_M_search 114 = .ok (.getfield 80, 3) := by decide +kernel
theorem d_M_search_117 : decode b_M_search 117 = .ok (.if_icmp .ge 7, 3) := by decide +kernel
theorem d_M_search_120 : decode b_M_search 120 = .ok (.iconst 1, 1) := by decide +kernel
theorem d_M_search_121 : decode b_M_search 121 = .ok (.goto 26, 3) := by decide +kernel
theorem d_M_search_124 : decode b_M_search 124 = .ok (.aload_n 0, 1) := by decide +kernel
theorem d_M_search_125 : decode b_M_search 125 = .ok (.getfield 19, 3) := by decide +kernel
theorem d_M_search_128 : decode b_M_search 128 = .ok (.bipush 6, 2) := by decide +kernel
theorem d_M_search_130 : decode b_M_search 130 = .ok (.iload_n 3, 1) := by decide +kernel
theorem d_M_search_131 : decode b_M_search 131 = .ok (.aload_n 0, 1) := by decide +kernel
theorem d_M_search_132 : decode b_M_search 132 = .ok (.getfield 66, 3) := by decide +kernel
theorem d_M_search_135 : decode b_M_search 135 = .ok (.idiv, 1) := by decide +kernel
theorem d_M_search_136 : decode b_M_search 136 = .ok (.imul, 1) := by decide +kernel
theorem d_M_search_137 : decode b_M_search 137 = .ok (.iload_n 3, 1) := by decide +kernel
theorem d_M_search_138 : decode b_M_search 138 = .ok (.aload_n 0, 1) := by decide +kernel
theorem d_M_search_139 : decode b_M_search 139 = .ok (.getfield 66, 3) := by decide +kernel
theorem d_M_search_142 : decode b_M_search 142 = .ok (.irem, 1) := by decide +kernel
theorem d_M_search_143 : decode b_M_search 143 = .ok (.iadd, 1) := by decide +kernel
theorem d_M_search_144 : decode b_M_search 144 = .ok (.iaload, 1) := by decide +kernel
theorem d_M_search_145 : decode b_M_search 145 = .ok (.iconst 1, 1) := by decide +kernel
theorem d_M_search_146 : decode b_M_search 146 = .ok (.iadd, 1) := by decide +kernel
theorem d_M_search_147 : decode b_M_search 147 = .ok (.istore 5, 2) := by decide +kernel
theorem d_M_search_149 : decode b_M_search 149 = .ok (.goto 126, 3) := by decide +kernel
theorem d_M_search_152 : decode b_M_search 152 = .ok (.aload_n 0, 1) := by decide +kernel
theorem d_M_search_153 : decode b_M_search 153 = .ok (.getfield 119, 3) := by decide +kernel
theorem d_M_search_156 : decode b_M_search 156 = .ok (.iload_n 1, 1) := by decide +kernel
theorem d_M_search_157 : decode b_M_search 157 = .ok (.if_icmp .ne 10, 3) := by decide +kernel
theorem d_M_search_160 : decode b_M_search 160 = .ok (.aload_n 0, 1) := by decide +kernel
theorem d_M_search_161 : decode b_M_search 161 = .ok (.iconst 0, 1) := by decide +kernel
theorem d_M_search_162 : decode b_M_search 162 = .ok (.putfield 122, 3) := by decide +kernel
theorem d_M_search_165 : decode b_M_search 165 = .ok (.iload_n 2, 1) := by decide +kernel
theorem d_M_search_166 : decode b_M_search 166 = .ok (.ireturn, 1) := by decide +kernel
theorem d_M_search_167 : decode b_M_search 167 = .ok (.aload_n 0, 1) := by decide +kernel
theorem d_M_search_168 : decode b_M_search 168 = .ok (.dup, 1) := by decide +kernel
theorem d_M_search_169 : decode b_M_search 169 = .ok (.getfield 119, 3) := by decide +kernel
theorem d_M_search_172 : decode b_M_search 172 = .ok (.iconst 1, 1) := by decide +kernel
theorem d_M_search_173 : decode b_M_search 173 = .ok (.iadd, 1) := by decide +kernel
theorem d_M_search_174 : decode b_M_search 174 = .ok (.putfield 119, 3) := by decide +kernel
theorem d_M_search_177 : decode b_M_search 177 = .ok (.aload_n 0, 1) := by decide +kernel
theorem d_M_search_178 : decode b_M_search 178 = .ok (.getfield 19, 3) := by decide +kernel
theorem d_M_search_181 : decode b_M_search 181 = .ok (.iload 6, 2) := by decide +kernel
theorem d_M_search_183 : decode b_M_search 183 = .ok (.iload 8, 2) := by decide +kernel
theorem d_M_search_185 : decode b_M_search 185 = .ok (.iastore, 1) := by decide +kernel
theorem d_M_search_186 : decode b_M_search 186 = .ok (.iload 7, 2) := by decide +kernel
theorem d_M_search_188 : decode b_M_search 188 = .ok (.ifCond .eq 7, 3) := by decide +kernel
theorem d_M_search_191 : decode b_M_search 191 = .ok (.iconst 1, 1) := by decide +kernel
theorem d_M_search_192 : decode b_M_search 192 = .ok (.goto 7, 3) := by decide +kernel
theorem d_M_search_195 : decode b_M_search 195 = .ok (.iload 8, 2) := by decide +kernel
theorem d_M_search_197 : decode b_M_search 197 = .ok (.iconst 1, 1) := by decide +kernel
theorem d_M_search_198 : decode b_M_search 198 = .ok (.iadd, 1) := by decide +kernel
theorem d_M_search_199 : decode b_M_search 199 = .ok (.istore 5, 2) := by decide +kernel
theorem d_M_search_201 : decode b_M_search 201 = .ok (.aload_n 0, 1) := by decide +kernel
theorem d_M_search_202 : decode b_M_search 202 = .ok (.iload_n 3, 1) := by decide +kernel
theorem d_M_search_203 : decode b_M_search 203 = .ok (.iload_n 2, 1) := by decide +kernel
theorem d_M_search_204 : decode b_M_search 204 = .ok (.invokevirtual 126, 3) := by decide +kernel
theorem d_M_search_207 : decode b_M_search 207 = .ok (.ifCond .ne 68, 3) := by decide +kernel
theorem d_M_search_210 : decode b_M_search 210 = .ok (.iload_n 3, 1) := by decide +kernel
theorem d_M_search_211 : decode b_M_search 211 = .ok (.iload 4, 2) := by decide +kernel
theorem d_M_search_213 : decode b_M_search 213 = .ok (.if_icmp .ne 56, 3) := by decide +kernel
theorem d_M_search_216 : decode b_M_search 216 = .ok (.aload_n 0, 1) := by decide +kernel
theorem d_M_search_217 : decode b_M_search 217 = .ok (.dup, 1) := by decide +kernel
theorem d_M_search_218 : decode b_M_search 218 = .ok (.getfield 130, 3) := by decide +kernel
theorem d_M_search_221 : decode b_M_search 221 = .ok (.iconst 1, 1) := by decide +kernel
theorem d_M_search_222 : decode b_M_search 222 = .ok (.iadd, 1) := by decide +kernel
theorem d_M_search_223 : decode b_M_search 223 = .ok (.putfield 130, 3) := by decide +kernel
theorem d_M_search_226 : decode b_M_search 226 = .ok (.aload_n 0, 1) := by decide +kernel
theorem d_M_search_227 : decode b_M_search 227 = .ok (.aload_n 0, 1) := by decide +kernel
theorem d_M_search_228 : decode b_M_search 228 = .ok (.getfield 19, 3) := by decide +kernel
theorem d_M_search_231 : decode b_M_search 231 = .ok (.iload_n 3, 1) := by decide +kernel
theorem d_M_search_232 : decode b_M_search 232 = .ok (.invokevirtual 115, 3) := by decide +kernel
theorem d_M_search_235 : decode b_M_search 235 = .ok (.istore_n 2, 1) := by decide +kernel
theorem d_M_search_236 : decode b_M_search 236 = .ok (.iconst 0, 1) := by decide +kernel
theorem d_M_search_237 : decode b_M_search 237 = .ok (.istore 9, 2) := by decide +kernel
theorem d_M_search_239 : decode b_M_search 239 = .ok (.iload 9, 2) := by decide +kernel
theorem d_M_search_241 : decode b_M_search 241 = .ok (.bipush 42, 2) := by decide +kernel
theorem d_M_search_243 : decode b_M_search 243 = .ok (.if_icmp .ge 23, 3) := by decide +kernel
theorem d_M_search_246 : decode b_M_search 246 = .ok (.aload_n 0, 1) := by decide +kernel
theorem d_M_search_247 : decode b_M_search 247 = .ok (.getfield 22, 3) := by decide +kernel
theorem d_M_search_250 : decode b_M_search 250 = .ok (.iload 9, 2) := by decide +kernel
theorem d_M_search_252 : decode b_M_search 252 = .ok (.aload_n 0, 1) := by decide +kernel
theorem d_M_search_253 : decode b_M_search 253 = .ok (.getfield 19, 3) := by decide +kernel
theorem d_M_search_256 : decode b_M_search 256 = .ok (.iload 9, 2) := by decide +kernel
theorem d_M_search_258 : decode b_M_search 258 = .ok (.iaload, 1) := by decide +kernel
theorem d_M_search_259 : decode b_M_search 259 = .ok (.iastore, 1) := by decide +kernel
theorem d_M_search_260 : decode b_M_search 260 = .ok (.iinc 9 1, 3) := by decide +kernel
theorem d_M_search_263 : decode b_M_search 263 = .ok (.goto (-24), 3) := by decide +kernel
theorem d_M_search_266 : decode b_M_search 266 = .ok (.goto 9, 3) := by decide +kernel
theorem d_M_search_269 : decode b_M_search 269 = .ok (.iinc 3 1, 3) := by decide +kernel
theorem d_M_search_272 : decode b_M_search 272 = .ok (.iconst 0, 1) := by decide +kernel
theorem d_M_search_273 : decode b_M_search 273 = .ok (.istore 5, 2) := by decide +kernel
theorem d_M_search_275 : decode b_M_search 275 = .ok (.goto (-255), 3) := by decide +kernel
theorem d_M_search_278 : decode b_M_search 278 = .ok (.iload_n 2, 1) := by decide +kernel
theorem d_M_search_279 : decode b_M_search 279 = .ok (.ireturn, 1) := by decide +kernel
theorem d_M_solve_0 : decode b_M_solve 0 = .ok (.aload_n 0, 1) := by decide +kernel
theorem d_M_solve_1 : decode b_M_solve 1 = .ok (.iload_n 1, 1) := by decide +kernel
theorem d_M_solve_2 : decode b_M_solve 2 = .ok (.iconst 0, 1) := by decide +kernel
theorem d_M_solve_3 : decode b_M_solve 3 = .ok (.sipush 20000, 3) := by decide +kernel
theorem d_M_solve_6 : decode b_M_solve 6 = .ok (.invokestatic 69, 3) := by decide +kernel
theorem d_M_solve_9 : decode b_M_solve 9 = .ok (.ifCond .ne 7, 3) := by decide +kernel
theorem d_M_solve_12 : decode b_M_solve 12 = .ok (.iconst 1, 1) := by decide +kernel
theorem d_M_solve_13 : decode b_M_solve 13 = .ok (.goto 4, 3) := by decide +kernel
theorem d_M_solve_16 : decode b_M_solve 16 = .ok (.iconst 0, 1) := by decide +kernel
theorem d_M_solve_17 : decode b_M_solve 17 = .ok (.iconst 0, 1) := by decide +kernel
theorem d_M_solve_18 : decode b_M_solve 18 = .ok (.iconst 0, 1) := by decide +kernel
theorem d_M_solve_19 : decode b_M_solve 19 = .ok (.iconst 0, 1) := by decide +kernel
theorem d_M_solve_20 : decode b_M_solve 20 = .ok (.invokevirtual 76, 3) := by decide +kernel
theorem d_M_solve_23 : decode b_M_solve 23 = .ok (.ifCond .eq 5, 3) := by decide +kernel
theorem d_M_solve_26 : decode b_M_solve 26 = .ok (.iconst 0, 1) := by decide +kernel
theorem d_M_solve_27 : decode b_M_solve 27 = .ok (.ireturn, 1) := by decide +kernel
theorem d_M_solve_28 : decode b_M_solve 28 = .ok (.aload_n 0, 1) := by decide +kernel
theorem d_M_solve_29 : decode b_M_solve 29 = .ok (.iconst 1, 1) := by decide +kernel
theorem d_M_solve_30 : decode b_M_solve 30 = .ok (.putfield 122, 3) := by decide +kernel
theorem d_M_solve_33 : decode b_M_solve 33 = .ok (.aload_n 0, 1) := by decide +kernel
theorem d_M_solve_34 : decode b_M_solve 34 = .ok (.iconst 0, 1) := by decide +kernel
theorem d_M_solve_35 : decode b_M_solve 35 = .ok (.putfield 119, 3) := by decide +kernel
theorem d_M_solve_38 : decode b_M_solve 38 = .ok (.aload_n 0, 1) := by decide +kernel
theorem d_M_solve_39 : decode b_M_solve 39 = .ok (.iconst 0, 1) := by decide +kernel
theorem d_M_solve_40 : decode b_M_solve 40 = .ok (.putfield 130, 3) := by decide +kernel
theorem d_M_solve_43 : decode b_M_solve 43 = .ok (.aload_n 0, 1) := by decide +kernel
theorem d_M_solve_44 : decode b_M_solve 44 = .ok (.getfield 66, 3) := by decide +kernel
theorem d_M_solve_47 : decode b_M_solve 47 = .ok (.aload_n 0, 1) := by decide +kernel
theorem d_M_solve_48 : decode b_M_solve 48 = .ok (.getfield 73, 3) := by decide +kernel
theorem d_M_solve_51 : decode b_M_solve 51 = .ok (.imul, 1) := by decide +kernel
theorem d_M_solve_52 : decode b_M_solve 52 = .ok (.ifCond .ne 66, 3) := by decide +kernel
theorem d_M_solve_55 : decode b_M_solve 55 = .ok (.iconst 1, 1) := by decide +kernel
theorem d_M_solve_56 : decode b_M_solve 56 = .ok (.istore_n 2, 1) := by decide +kernel
theorem d_M_solve_57 : decode b_M_solve 57 = .ok (.iconst 0, 1) := by decide +kernel
theorem d_M_solve_58 : decode b_M_solve 58 = .ok (.istore_n 3, 1) := by decide +kernel
theorem d_M_solve_59 : decode b_M_solve 59 = .ok (.iload_n 3, 1) := by decide +kernel
theorem d_M_solve_60 : decode b_M_solve 60 = .ok (.aload_n 0, 1) := by decide +kernel
theorem d_M_solve_61 : decode b_M_solve 61 = .ok (.getfield 73, 3) := by decide +kernel
theorem d_M_solve_64 : decode b_M_solve 64 = .ok (.if_icmp .ge 31, 3) := by decide +kernel
theorem d_M_solve_67 : decode b_M_solve 67 = .ok (.iload_n 2, 1) := by decide +kernel
theorem d_M_solve_68 : decode b_M_solve 68 = .ok (.ifCond .eq 19, 3) := by decide +kernel
theorem d_M_solve_71 : decode b_M_solve 71 = .ok (.aload_n 0, 1) := by decide +kernel
theorem d_M_solve_72 : decode b_M_solve 72 = .ok (.aload_n 0, 1) := by decide +kernel
theorem d_M_solve_73 : decode b_M_solve 73 = .ok (.getfield 16, 3) := by decide +kernel
theorem d_M_solve_76 : decode b_M_solve 76 = .ok (.iload_n 3, 1) := by decide +kernel
theorem d_M_solve_77 : decode b_M_solve 77 = .ok (.invokevirtual 111, 3) := by decide +kernel
theorem d_M_solve_80 : decode b_M_solve 80 = .ok (.ifCond .eq 7, 3) := by decide +kernel
theorem d_M_solve_83 : decode b_M_solve 83 = .ok (.iconst 1, 1) := by decide +kernel
theorem d_M_solve_84 : decode b_M_solve 84 = .ok (.goto 4, 3) := by decide +kernel
theorem d_M_solve_87 : decode b_M_solve 87 = .ok (.iconst 0, 1) := by decide +kernel
theorem d_M_solve_88 : decode b_M_solve 88 = .ok (.istore_n 2, 1) := by decide +kernel
theorem d_M_solve_89 : decode b_M_solve 89 = .ok (.iinc 3 1, 3) := by decide +kernel
theorem d_M_solve_92 : decode b_M_solve 92 = .ok (.goto (-33), 3) := by decide +kernel
theorem d_M_solve_95 : decode b_M_solve 95 = .ok (.aload_n 0, 1) := by decide +kernel
theorem d_M_solve_96 : decode b_M_solve 96 = .ok (.iload_n 2, 1) := by decide +kernel
theorem d_M_solve_97 : decode b_M_solve 97 = .ok (.ifCond .eq 7, 3) := by decide +kernel
theorem d_M_solve_100 : decode b_M_solve 100 = .ok (.iconst 1, 1) := by decide +kernel
theorem d_M_solve_101 : decode b_M_solve 101 = .ok (.goto 4, 3) := by decide +kernel
theorem d_M_solve_104 : decode b_M_solve 104 = .ok (.iconst 0, 1) := by decide +kernel
theorem d_M_solve_105 : decode b_M_solve 105 = .ok (.putfield 130, 3) := by decide +kernel
theorem d_M_solve_108 : decode b_M_solve 108 = .ok (.iload_n 2, 1) := by decide +kernel
theorem d_M_solve_109 : decode b_M_solve 109 = .ok (.ifCond .eq 7, 3) := by decide +kernel
theorem d_M_solve_112 : decode b_M_solve 112 = .ok (.iconst 0, 1) := by decide +kernel
theorem d_M_solve_113 : decode b_M_solve 113 = .ok (.goto 4, 3) := by decide +kernel
theorem d_M_solve_116 : decode b_M_solve 116 = .ok (.iconst (-1), 1) := by decide +kernel
theorem d_M_solve_117 : decode b_M_solve 117 = .ok (.ireturn, 1) := by decide +kernel
theorem d_M_solve_118 : decode b_M_solve 118 = .ok (.iconst 0, 1) := by decide +kernel
theorem d_M_solve_119 : decode b_M_solve 119 = .ok (.istore_n 2, 1) := by decide +kernel
theorem d_M_solve_120 : decode b_M_solve 120 = .ok (.iload_n 2, 1) := by decide +kernel
theorem d_M_solve_121 : decode b_M_solve 121 = .ok (.bipush 42, 2) := by decide +kernel
theorem d_M_solve_123 : decode b_M_solve 123 = .ok (.if_icmp .ge 16, 3) := by decide +kernel
theorem d_M_solve_126 : decode b_M_solve 126 = .ok (.aload_n 0, 1) := by decide +kernel
theorem d_M_solve_127 : decode b_M_solve 127 = .ok (.getfield 19, 3) := by decide +kernel
theorem d_M_solve_130 : decode b_M_solve 130 = .ok (.iload_n 2, 1) := by decide +kernel
theorem d_M_solve_131 : decode b_M_solve 131 = .ok (.iconst 0, 1) := by decide +kernel
theorem d_M_solve_132 : decode b_M_solve 132 = .ok (.iastore, 1) := by decide +kernel
theorem d_M_solve_133 : decode b_M_solve 133 = .ok (.iinc 2 1, 3) := by decide +kernel
theorem d_M_solve_136 : decode b_M_solve 136 = .ok (.goto (-16), 3) := by decide +kernel
theorem d_M_solve_139 : decode b_M_solve 139 = .ok (.aload_n 0, 1) := by decide +kernel
theorem d_M_solve_140 : decode b_M_solve 140 = .ok (.iload_n 1, 1) := by decide +kernel
theorem d_M_solve_141 : decode b_M_solve 141 = .ok (.invokevirtual 133, 3) := by decide +kernel
theorem d_M_solve_144 : decode b_M_solve 144 = .ok (.istore_n 2, 1) := by decide +kernel
theorem d_M_solve_145 : decode b_M_solve 145 = .ok (.iconst 0, 1) := by decide +kernel
theorem d_M_solve_146 : decode b_M_solve 146 = .ok (.istore_n 3, 1) := by decide +kernel
theorem d_M_solve_147 : decode b_M_solve 147 = .ok (.iload_n 3, 1) := by decide +kernel
theorem d_M_solve_148 : decode b_M_solve 148 = .ok (.bipush 42, 2) := by decide +kernel
theorem d_M_solve_150 : decode b_M_solve 150 = .ok (.if_icmp .ge 25, 3) := by decide +kernel
theorem d_M_solve_153 : decode b_M_solve 153 = .ok (.iload_n 2, 1) := by decide +kernel
theorem d_M_solve_154 : decode b_M_solve 154 = .ok (.ifCond .lt 21, 3) := by decide +kernel
theorem d_M_solve_157 : decode b_M_solve 157 = .ok (.aload_n 0, 1) := by decide +kernel
theorem d_M_solve_158 : decode b_M_solve 158 = .ok (.getfield 16, 3) := by decide +kernel
theorem d_M_solve_161 : decode b_M_solve 161 = .ok (.iload_n 3, 1) := by decide +kernel
theorem d_M_solve_162 : decode b_M_solve 162 = .ok (.aload_n 0, 1) := by decide +kernel
theorem d_M_solve_163 : decode b_M_solve 163 = .ok (.getfield 22, 3) := by decide +kernel
theorem d_M_solve_166 : decode b_M_solve 166 = .ok (.iload_n 3, 1) := by decide +kernel
theorem d_M_solve_167 : decode b_M_solve 167 = .ok (.iaload, 1) := by decide +kernel
theorem d_M_solve_168 : decode b_M_solve 168 = .ok (.iastore, 1) := by decide +kernel
theorem d_M_solve_169 : decode b_M_solve 169 = .ok (.iinc 3 1, 3) := by decide +kernel
theorem d_M_solve_172 : decode b_M_solve 172 = .ok (.goto (-25), 3) := by decide +kernel
theorem d_M_solve_175 : decode b_M_solve 175 = .ok (.iload_n 2, 1) := by decide +kernel
theorem d_M_solve_176 : decode b_M_solve 176 = .ok (.ireturn, 1) := by decide +kernel
theorem d_M_solved_0 : decode b_M_solved 0 = .ok (.aload_n 0, 1) := by decide +kernel
theorem d_M_solved_1 : decode b_M_solved 1 = .ok (.iload_n 1, 1) := by decide +kernel
theorem d_M_solved_2 : decode b_M_solved 2 = .ok (.iconst 0, 1) := by decide +kernel
theorem d_M_solved_3 : decode b_M_solved 3 = .ok (.iconst 2, 1) := by decide +kernel
theorem d_M_solved_4 : decode b_M_solved 4 = .ok (.invokestatic 69, 3) := by decide +kernel
theorem d_M_solved_7 : decode b_M_solved 7 = .ok (.ifCond .ne 7, 3) := by decide +kernel
theorem d_M_solved_10 : decode b_M_solved 10 = .ok (.iconst 1, 1) := by decide +kernel
theorem d_M_solved_11 : decode b_M_solved 11 = .ok (.goto 4, 3) := by decide +kernel
theorem d_M_solved_14 : decode b_M_solved 14 = .ok (.iconst 0, 1) := by decide +kernel
theorem d_M_solved_15 : decode b_M_solved 15 = .ok (.iconst 0, 1) := by decide +kernel
theorem d_M_solved_16 : decode b_M_solved 16 = .ok (.iconst 0, 1) := by decide +kernel
theorem d_M_solved_17 : decode b_M_solved 17 = .ok (.iconst 0, 1) := by decide +kernel
theorem d_M_solved_18 : decode b_M_solved 18 = .ok (.invokevirtual 76, 3) := by decide +kernel
theorem d_M_solved_21 : decode b_M_solved 21 = .ok (.ifCond .eq 5, 3) := by decide +kernel
theorem d_M_solved_24 : decode b_M_solved 24 = .ok (.iconst 0, 1) := by decide +kernel
theorem d_M_solved_25 : decode b_M_solved 25 = .ok (.ireturn, 1) := by decide +kernel
theorem d_M_solved_26 : decode b_M_solved 26 = .ok (.iload_n 1, 1) := by decide +kernel
theorem d_M_solved_27 : decode b_M_solved 27 = .ok (.ifCond .ne 18, 3) := by decide +kernel
theorem d_M_solved_30 : decode b_M_solved 30 = .ok (.aload_n 0, 1) := by decide +kernel
theorem d_M_solved_31 : decode b_M_solved 31 = .ok (.getfield 122, 3) := by decide +kernel
theorem d_M_solved_34 : decode b_M_solved 34 = .ok (.ifCond .eq 7, 3) := by decide +kernel
theorem d_M_solved_37 : decode b_M_solved 37 = .ok (.iconst 1, 1) := by decide +kernel
theorem d_M_solved_38 : decode b_M_solved 38 = .ok (.goto 23, 3) := by decide +kernel
theorem d_M_solved_41 : decode b_M_solved 41 = .ok (.iconst 0, 1) := by decide +kernel
theorem d_M_solved_42 : decode b_M_solved 42 = .ok (.goto 19, 3) := by decide +kernel
theorem d_M_solved_45 : decode b_M_solved 45 = .ok (.iload_n 1, 1) := by decide +kernel
theorem d_M_solved_46 : decode b_M_solved 46 = .ok (.iconst 1, 1) := by decide +kernel
theorem d_M_solved_47 : decode b_M_solved 47 = .ok (.if_icmp .ne 10, 3) := by decide +kernel
theorem d_M_solved_50 : decode b_M_solved 50 = .ok (.aload_n 0, 1) := by decide +kernel
theorem d_M_solved_51 : decode b_M_solved 51 = .ok (.getfield 119, 3) := by decide +kernel
theorem d_M_solved_54 : decode b_M_solved 54 = .ok (.goto 7, 3) := by decide +kernel
theorem d_M_solved_57 : decode b_M_solved 57 = .ok (.aload_n 0, 1) := by decide +kernel
theorem d_M_solved_58 : decode b_M_solved 58 = .ok (.getfield 130, 3) := by decide +kernel
theorem d_M_solved_61 : decode b_M_solved 61 = .ok (.ireturn, 1) := by decide +kernel
theorem d_M_swap_0 : decode b_M_swap 0 = .ok (.aload_n 0, 1) := by decide +kernel
theorem d_M_swap_1 : decode b_M_swap 1 = .ok (.iload_n 1, 1) := by decide +kernel
theorem d_M_swap_2 : decode b_M_swap 2 = .ok (.invokevirtual 90, 3) := by decide +kernel
theorem d_M_swap_5 : decode b_M_swap 5 = .ok (.ifCond .eq 24, 3) := by decide +kernel
theorem d_M_swap_8 : decode b_M_swap 8 = .ok (.aload_n 0, 1) := by decide +kernel
theorem d_M_swap_9 : decode b_M_swap 9 = .ok (.iload_n 2, 1) := by decide +kernel
theorem d_M_swap_10 : decode b_M_swap 10 = .ok (.invokevirtual 90, 3) := by decide +kernel
theorem d_M_swap_13 : decode b_M_swap 13 = .ok (.ifCond .eq 16, 3) := by decide +kernel
theorem d_M_swap_16 : decode b_M_swap 16 = .ok (.iload_n 1, 1) := by decide +kernel
theorem d_M_swap_17 : decode b_M_swap 17 = .ok (.iload_n 2, 1) := by decide +kernel
theorem d_M_swap_18 : decode b_M_swap 18 = .ok (.if_icmp .eq 11, 3) := by decide +kernel
theorem d_M_swap_21 : decode b_M_swap 21 = .ok (.aload_n 0, 1) := by decide +kernel
theorem d_M_swap_22 : decode b_M_swap 22 = .ok (.iload_n 3, 1) := by decide +kernel
theorem d_M_swap_23 : decode b_M_swap 23 = .ok (.invokevirtual 86, 3) := by decide +kernel
theorem d_M_swap_26 : decode b_M_swap 26 = .ok (.ifCond .ne 7, 3) := by decide +kernel
theorem d_M_swap_29 : decode b_M_swap 29 = .ok (.iconst 1, 1) := by decide +kernel
theorem d_M_swap_30 : decode b_M_swap 30 = .ok (.goto 4, 3) := by decide +kernel
theorem d_M_swap_33 : decode b_M_swap 33 = .ok (.iconst 0, 1) := by decide +kernel
theorem d_M_swap_34 : decode b_M_swap 34 = .ok (.istore 4, 2) := by decide +kernel
theorem d_M_swap_36 : decode b_M_swap 36 = .ok (.iload 4, 2) := by decide +kernel
theorem d_M_swap_38 : decode b_M_swap 38 = .ok (.ifCond .ne 15, 3) := by decide +kernel
theorem d_M_swap_41 : decode b_M_swap 41 = .ok (.iload_n 3, 1) := by decide +kernel
theorem d_M_swap_42 : decode b_M_swap 42 = .ok (.aload_n 0, 1) := by decide +kernel
theorem d_M_swap_43 : decode b_M_swap 43 = .ok (.getfield 80, 3) := by decide +kernel
theorem d_M_swap_46 : decode b_M_swap 46 = .ok (.if_icmp .ge 7, 3) := by decide +kernel
theorem d_M_swap_49 : decode b_M_swap 49 = .ok (.iconst 1, 1) := by decide +kernel
theorem d_M_swap_50 : decode b_M_swap 50 = .ok (.goto 4, 3) := by decide +kernel
theorem d_M_swap_53 : decode b_M_swap 53 = .ok (.iconst 0, 1) := by decide +kernel
theorem d_M_swap_54 : decode b_M_swap 54 = .ok (.istore 5, 2) := by decide +kernel
theorem d_M_swap_56 : decode b_M_swap 56 = .ok (.iload 4, 2) := by decide +kernel
theorem d_M_swap_58 : decode b_M_swap 58 = .ok (.ifCond .ne 127, 3) := by decide +kernel
theorem d_M_swap_61 : decode b_M_swap 61 = .ok (.iload 5, 2) := by decide +kernel
theorem d_M_swap_63 : decode b_M_swap 63 = .ok (.ifCond .ne 122, 3) := by decide +kernel
theorem d_M_swap_66 : decode b_M_swap 66 = .ok (.aload_n 0, 1) := by decide +kernel
theorem d_M_swap_67 : decode b_M_swap 67 = .ok (.getfield 16, 3) := by decide +kernel
theorem d_M_swap_70 : decode b_M_swap 70 = .ok (.bipush 6, 2) := by decide +kernel
theorem d_M_swap_72 : decode b_M_swap 72 = .ok (.iload_n 3, 1) := by decide +kernel
theorem d_M_swap_73 : decode b_M_swap 73 = .ok (.imul, 1) := by decide +kernel
theorem d_M_swap_74 : decode b_M_swap 74 = .ok (.iload_n 1, 1) := by decide +kernel
theorem d_M_swap_75 : decode b_M_swap 75 = .ok (.iadd, 1) := by decide +kernel
theorem d_M_swap_76 : decode b_M_swap 76 = .ok (.iaload, 1) := by decide +kernel
theorem d_M_swap_77 : decode b_M_swap 77 = .ok (.istore 6, 2) := by decide +kernel
theorem d_M_swap_79 : decode b_M_swap 79 = .ok (.aload_n 0, 1) := by decide +kernel
theorem d_M_swap_80 : decode b_M_swap 80 = .ok (.getfield 16, 3) := by decide +kernel
theorem d_M_swap_83 : decode b_M_swap 83 = .ok (.bipush 6, 2) := by decide +kernel
theorem d_M_swap_85 : decode b_M_swap 85 = .ok (.iload_n 3, 1) := by decide +kernel
theorem d_M_swap_86 : decode b_M_swap 86 = .ok (.imul, 1) := by decide +kernel
theorem d_M_swap_87 : decode b_M_swap 87 = .ok (.iload_n 1, 1) := by decide +kernel
theorem d_M_swap_88 : decode b_M_swap 88 = .ok (.iadd, 1) := by decide +kernel
theorem d_M_swap_89 : decode b_M_swap 89 = .ok (.aload_n 0, 1) := by decide +kernel
theorem d_M_swap_90 : decode b_M_swap 90 = .ok (.getfield 16, 3) := by decide +kernel
theorem d_M_swap_93 : decode b_M_swap 93 = .ok (.bipush 6, 2) := by decide +kernel
theorem d_M_swap_95 : decode b_M_swap 95 = .ok (.iload_n 3, 1) := by decide +kernel
theorem d_M_swap_96 : decode b_M_swap 96 = .ok (.imul, 1) := by decide +kernel
theorem d_M_swap_97 : decode b_M_swap 97 = .ok (.iload_n 2, 1) := by decide +kernel
theorem d_M_swap_98 : decode b_M_swap 98 = .ok (.iadd, 1) := by decide +kernel
theorem d_M_swap_99 : decode b_M_swap 99 = .ok (.iaload, 1) := by decide +kernel
theorem d_M_swap_100 : decode b_M_swap 100 = .ok (.iastore, 1) := by decide +kernel
theorem d_M_swap_101 : decode b_M_swap 101 = .ok (.aload_n 0, 1) := by decide +kernel
theorem d_M_swap_102 : decode b_M_swap 102 = .ok (.getfield 16, 3) := by decide +kernel
theorem d_M_swap_105 : decode b_M_swap 105 = .ok (.bipush 6, 2) := by decide +kernel
theorem d_M_swap_107 : decode b_M_swap 107 = .ok (.iload_n 3, 1) := by decide +kernel
theorem d_M_swap_108 : decode b_M_swap 108 = .ok (.imul, 1) := by decide +kernel
theorem d_M_swap_109 : decode b_M_swap 109 = .ok (.iload_n 2, 1) := by decide +kernel
theorem d_M_swap_110 : decode b_M_swap 110 = .ok (.iadd, 1) := by decide +kernel
theorem d_M_swap_111 : decode b_M_swap 111 = .ok (.iload 6, 2) := by decide +kernel
theorem d_M_swap_113 : decode b_M_swap 113 = .ok (.iastore, 1) := by decide +kernel
theorem d_M_swap_114 : decode b_M_swap 114 = .ok (.aload_n 0, 1) := by decide +kernel
theorem d_M_swap_115 : decode b_M_swap 115 = .ok (.aload_n 0, 1) := by decide +kernel
theorem d_M_swap_116 : decode b_M_swap 116 = .ok (.getfield 16, 3) := by decide +kernel
theorem d_M_swap_119 : decode b_M_swap 119 = .ok (.invokevirtual 137, 3) := by decide +kernel
theorem d_M_swap_122 : decode b_M_swap 122 = .ok (.ifCond .le 7, 3) := by decide +kernel
theorem d_M_swap_125 : decode b_M_swap 125 = .ok (.iconst 1, 1) := by decide +kernel
theorem d_M_swap_126 : decode b_M_swap 126 = .ok (.goto 4, 3) := by decide +kernel
theorem d_M_swap_129 : decode b_M_swap 129 = .ok (.iconst 0, 1) := by decide +kernel
theorem d_M_swap_130 : decode b_M_swap 130 = .ok (.istore 5, 2) := by decide +kernel
theorem d_M_swap_132 : decode b_M_swap 132 = .ok (.iload 5, 2) := by decide +kernel
theorem d_M_swap_134 : decode b_M_swap 134 = .ok (.ifCond .eq 51, 3) := by decide +kernel
theorem d_M_swap_137 : decode b_M_swap 137 = .ok (.aload_n 0, 1) := by decide +kernel
theorem d_M_swap_138 : decode b_M_swap 138 = .ok (.getfield 16, 3) := by decide +kernel
theorem d_M_swap_141 : decode b_M_swap 141 = .ok (.bipush 6, 2) := by decide +kernel
theorem d_M_swap_143 : decode b_M_swap 143 = .ok (.iload_n 3, 1) := by decide +kernel
theorem d_M_swap_144 : decode b_M_swap 144 = .ok (.imul, 1) := by decide +kernel
theorem d_M_swap_145 : decode b_M_swap 145 = .ok (.iload_n 1, 1) := by decide +kernel
theorem d_M_swap_146 : decode b_M_swap 146 = .ok (.iadd, 1) := by decide +kernel
theorem d_M_swap_147 : decode b_M_swap 147 = .ok (.iaload, 1) := by decide +kernel
theorem d_M_swap_148 : decode b_M_swap 148 = .ok (.istore 6, 2) := by decide +kernel
theorem d_M_swap_150 : decode b_M_swap 150 = .ok (.aload_n 0, 1) := by decide +kernel
theorem d_M_swap_151 : decode b_M_swap 151 = .ok (.getfield 16, 3) := by decide +kernel
theorem d_M_swap_154 : decode b_M_swap 154 = .ok (.bipush 6, 2) := by decide +kernel
theorem d_M_swap_156 : decode b_M_swap 156 = .ok (.iload_n 3, 1) := by decide +kernel
theorem d_M_swap_157 : decode b_M_swap 157 = .ok (.imul, 1) := by decide +kernel
theorem d_M_swap_158 : decode b_M_swap 158 = .ok (.iload_n 1, 1) := by decide +kernel
theorem d_M_swap_159 : decode b_M_swap 159 = .ok (.iadd, 1) := by decide +kernel
theorem d_M_swap_160 : decode b_M_swap 160 = .ok (.aload_n 0, 1) := by decide +kernel
theorem d_M_swap_161 : decode b_M_swap 161 = .ok (.getfield 16, 3) := by decide +kernel
theorem d_M_swap_164 : decode b_M_swap 164 = .ok (.bipush 6, 2) := by decide +kernel
theorem d_M_swap_166 : decode b_M_swap 166 = .ok (.iload_n 3, 1) := by decide +kernel
theorem d_M_swap_167 : decode b_M_swap 167 = .ok (.imul, 1) := by decide +kernel
theorem d_M_swap_168 : decode b_M_swap 168 = .ok (.iload_n 2, 1) := by decide +kernel
theorem d_M_swap_169 : decode b_M_swap 169 = .ok (.iadd, 1) := by decide +kernel
theorem d_M_swap_170 : decode b_M_swap 170 = .ok (.iaload, 1) := by decide +kernel
theorem d_M_swap_171 : decode b_M_swap 171 = .ok (.iastore, 1) := by decide +kernel
theorem d_M_swap_172 : decode b_M_swap 172 = .ok (.aload_n 0, 1) := by decide +kernel
theorem d_M_swap_173 : decode b_M_swap 173 = .ok (.getfield 16, 3) := by decide +kernel
theorem d_M_swap_176 : decode b_M_swap 176 = .ok (.bipush 6, 2) := by decide +kernel
theorem d_M_swap_178 : decode b_M_swap 178 = .ok (.iload_n 3, 1) := by decide +kernel
theorem d_M_swap_179 : decode b_M_swap 179 = .ok (.imul, 1) := by decide +kernel
theorem d_M_swap_180 : decode b_M_swap 180 = .ok (.iload_n 2, 1) := by decide +kernel
theorem d_M_swap_181 : decode b_M_swap 181 = .ok (.iadd, 1) := by decide +kernel
theorem d_M_swap_182 : decode b_M_swap 182 = .ok (.iload 6, 2) := by decide +kernel
theorem d_M_swap_184 : decode b_M_swap 184 = .ok (.iastore, 1) := by decide +kernel
theorem d_M_swap_185 : decode b_M_swap 185 = .ok (.aload_n 0, 1) := by decide +kernel
theorem d_M_swap_186 : decode b_M_swap 186 = .ok (.iload 4, 2) := by decide +kernel
theorem d_M_swap_188 : decode b_M_swap 188 = .ok (.iload 5, 2) := by decide +kernel
theorem d_M_swap_190 : decode b_M_swap 190 = .ok (.iconst 0, 1) := by decide +kernel
theorem d_M_swap_191 : decode b_M_swap 191 = .ok (.iconst 0, 1) := by decide +kernel
theorem d_M_swap_192 : decode b_M_swap 192 = .ok (.invokevirtual 76, 3) := by decide +kernel
theorem d_M_swap_195 : decode b_M_swap 195 = .ok (.pop, 1) := by decide +kernel
theorem d_M_swap_196 : decode b_M_swap 196 = .ok (.return_, 1) := by decide +kernel
theorem d_M_shift_0 : decode b_M_shift 0 = .ok (.aload_n 0, 1) := by decide +kernel
theorem d_M_shift_1 : decode b_M_shift 1 = .ok (.aload_n 0, 1) := by decide +kernel
theorem d_M_shift_2 : decode b_M_shift 2 = .ok (.iload_n 1, 1) := by decide +kernel
theorem d_M_shift_3 : decode b_M_shift 3 = .ok (.invokevirtual 90, 3) := by decide +kernel
theorem d_M_shift_6 : decode b_M_shift 6 = .ok (.ifCond .eq 11, 3) := by decide +kernel
theorem d_M_shift_9 : decode b_M_shift 9 = .ok (.aload_n 0, 1) := by decide +kernel
theorem d_M_shift_10 : decode b_M_shift 10 = .ok (.iload_n 2, 1) := by decide +kernel
theorem d_M_shift_11 : decode b_M_shift 11 = .ok (.invokevirtual 86, 3) := by decide +kernel
theorem d_M_shift_14 : decode b_M_shift 14 = .ok (.ifCond .ne 7, 3) := by decide +kernel
theorem d_M_shift_17 : decode b_M_shift 17 = .ok (.iconst 1, 1) := by decide +kernel
theorem d_M_shift_18 : decode b_M_shift 18 = .ok (.goto 4, 3) := by decide +kernel
theorem d_M_shift_21 : decode b_M_shift 21 = .ok (.iconst 0, 1) := by decide +kernel
theorem d_M_shift_22 : decode b_M_shift 22 = .ok (.iconst 0, 1) := by decide +kernel
theorem d_M_shift_23 : decode b_M_shift 23 = .ok (.iconst 0, 1) := by decide +kernel
theorem d_M_shift_24 : decode b_M_shift 24 = .ok (.iconst 0, 1) := by decide +kernel
theorem d_M_shift_25 : decode b_M_shift 25 = .ok (.invokevirtual 76, 3) := by decide +kernel
theorem d_M_shift_28 : decode b_M_shift 28 = .ok (.ifCond .eq 5, 3) := by decide +kernel
theorem d_M_shift_31 : decode b_M_shift 31 = .ok (.iconst 0, 1) := by decide +kernel
theorem d_M_shift_32 : decode b_M_shift 32 = .ok (.ireturn, 1) := by decide +kernel
theorem d_M_shift_33 : decode b_M_shift 33 = .ok (.aload_n 0, 1) := by decide +kernel
theorem d_M_shift_34 : decode b_M_shift 34 = .ok (.getfield 16, 3) := by decide +kernel
theorem d_M_shift_37 : decode b_M_shift 37 = .ok (.bipush 6, 2) := by decide +kernel
theorem d_M_shift_39 : decode b_M_shift 39 = .ok (.iload_n 2, 1) := by decide +kernel
theorem d_M_shift_40 : decode b_M_shift 40 = .ok (.imul, 1) := by decide +kernel
theorem d_M_shift_41 : decode b_M_shift 41 = .ok (.iload_n 1, 1) := by decide +kernel
theorem d_M_shift_42 : decode b_M_shift 42 = .ok (.iadd, 1) := by decide +kernel
theorem d_M_shift_43 : decode b_M_shift 43 = .ok (.iaload, 1) := by decide +kernel
theorem d_M_shift_44 : decode b_M_shift 44 = .ok (.ireturn, 1) := by decide +kernel
theorem d_M_wrong_0 : decode b_M_wrong 0 = .ok (.aload_n 0, 1) := by decide +kernel
theorem d_M_wrong_1 : decode b_M_wrong 1 = .ok (.iconst 0, 1) := by decide +kernel
theorem d_M_wrong_2 : decode b_M_wrong 2 = .ok (.putfield 63, 3) := by decide +kernel
theorem d_M_wrong_5 : decode b_M_wrong 5 = .ok (.aload_n 0, 1) := by decide +kernel
theorem d_M_wrong_6 : decode b_M_wrong 6 = .ok (.aload_n 0, 1) := by decide +kernel
theorem d_M_wrong_7 : decode b_M_wrong 7 = .ok (.getfield 16, 3) := by decide +kernel
theorem d_M_wrong_10 : decode b_M_wrong 10 = .ok (.invokevirtual 137, 3) := by decide +kernel
theorem d_M_wrong_13 : decode b_M_wrong 13 = .ok (.ireturn, 1) := by decide +kernel
theorem d_M_unmet_0 : decode b_M_unmet 0 = .ok (.aload_n 0, 1) := by decide +kernel
theorem d_M_unmet_1 : decode b_M_unmet 1 = .ok (.iconst 0, 1) := by decide +kernel
theorem d_M_unmet_2 : decode b_M_unmet 2 = .ok (.putfield 63, 3) := by decide +kernel
theorem d_M_unmet_5 : decode b_M_unmet 5 = .ok (.aload_n 0, 1) := by decide +kernel
theorem d_M_unmet_6 : decode b_M_unmet 6 = .ok (.aload_n 0, 1) := by decide +kernel
theorem d_M_unmet_7 : decode b_M_unmet 7 = .ok (.getfield 16, 3) := by decide +kernel
theorem d_M_unmet_10 : decode b_M_unmet 10 = .ok (.bipush 42, 2) := by decide +kernel
theorem d_M_unmet_12 : decode b_M_unmet 12 = .ok (.invokevirtual 115, 3) := by decide +kernel
theorem d_M_unmet_15 : decode b_M_unmet 15 = .ok (.ireturn, 1) := by decide +kernel
theorem d_M_costOf_0 : decode b_M_costOf 0 = .ok (.aload_n 0, 1) := by decide +kernel
theorem d_M_costOf_1 : decode b_M_costOf 1 = .ok (.getfield 73, 3) := by decide +kernel
theorem d_M_costOf_4 : decode b_M_costOf 4 = .ok (.ifCond .ne 7, 3) := by decide +kernel
theorem d_M_costOf_7 : decode b_M_costOf 7 = .ok (.iconst 0, 1) := by decide +kernel
theorem d_M_costOf_8 : decode b_M_costOf 8 = .ok (.goto 27, 3) := by decide +kernel
theorem d_M_costOf_11 : decode b_M_costOf 11 = .ok (.bipush 8, 2) := by decide +kernel
theorem d_M_costOf_13 : decode b_M_costOf 13 = .ok (.aload_n 0, 1) := by decide +kernel
theorem d_M_costOf_14 : decode b_M_costOf 14 = .ok (.getfield 13, 3) := by decide +kernel
theorem d_M_costOf_17 : decode b_M_costOf 17 = .ok (.iload_n 1, 1) := by decide +kernel
theorem d_M_costOf_18 : decode b_M_costOf 18 = .ok (.iaload, 1) := by decide +kernel
theorem d_M_costOf_19 : decode b_M_costOf 19 = .ok (.imul, 1) := by decide +kernel
theorem d_M_costOf_20 : decode b_M_costOf 20 = .ok (.aload_n 0, 1) := by decide +kernel
theorem d_M_costOf_21 : decode b_M_costOf 21 = .ok (.getfield 16, 3) := by decide +kernel
theorem d_M_costOf_24 : decode b_M_costOf 24 = .ok (.iload_n 1, 1) := by decide +kernel
theorem d_M_costOf_25 : decode b_M_costOf 25 = .ok (.aload_n 0, 1) := by decide +kernel
theorem d_M_costOf_26 : decode b_M_costOf 26 = .ok (.getfield 73, 3) := by decide +kernel
theorem d_M_costOf_29 : decode b_M_costOf 29 = .ok (.iconst 1, 1) := by decide +kernel
theorem d_M_costOf_30 : decode b_M_costOf 30 = .ok (.isub, 1) := by decide +kernel
theorem d_M_costOf_31 : decode b_M_costOf 31 = .ok (.invokestatic 108, 3) := by decide +kernel
theorem d_M_costOf_34 : decode b_M_costOf 34 = .ok (.imul, 1) := by decide +kernel
theorem d_M_costOf_35 : decode b_M_costOf 35 = .ok (.ireturn, 1) := by decide +kernel
theorem d_M_cost_0 : decode b_M_cost 0 = .ok (.aload_n 0, 1) := by decide +kernel
theorem d_M_cost_1 : decode b_M_cost 1 = .ok (.iconst 0, 1) := by decide +kernel
theorem d_M_cost_2 : decode b_M_cost 2 = .ok (.putfield 63, 3) := by decide +kernel
theorem d_M_cost_5 : decode b_M_cost 5 = .ok (.iconst 0, 1) := by decide +kernel
theorem d_M_cost_6 : decode b_M_cost 6 = .ok (.istore_n 1, 1) := by decide +kernel
theorem d_M_cost_7 : decode b_M_cost 7 = .ok (.iconst 0, 1) := by decide +kernel
theorem d_M_cost_8 : decode b_M_cost 8 = .ok (.istore_n 2, 1) := by decide +kernel
theorem d_M_cost_9 : decode b_M_cost 9 = .ok (.iload_n 2, 1) := by decide +kernel
theorem d_M_cost_10 : decode b_M_cost 10 = .ok (.aload_n 0, 1) := by decide +kernel
theorem d_M_cost_11 : decode b_M_cost 11 = .ok (.getfield 66, 3) := by decide +kernel
theorem d_M_cost_14 : decode b_M_cost 14 = .ok (.if_icmp .ge 17, 3) := by decide +kernel
theorem d_M_cost_17 : decode b_M_cost 17 = .ok (.iload_n 1, 1) := by decide +kernel
theorem d_M_cost_18 : decode b_M_cost 18 = .ok (.aload_n 0, 1) := by decide +kernel
theorem d_M_cost_19 : decode b_M_cost 19 = .ok (.iload_n 2, 1) := by decide +kernel
theorem d_M_cost_20 : decode b_M_cost 20 = .ok (.invokevirtual 141, 3) := by decide +kernel
theorem d_M_cost_23 : decode b_M_cost 23 = .ok (.iadd, 1) := by decide +kernel
theorem d_M_cost_24 : decode b_M_cost 24 = .ok (.istore_n 1, 1) := by decide +kernel
theorem d_M_cost_25 : decode b_M_cost 25 = .ok (.iinc 2 1, 3) := by decide +kernel
theorem d_M_cost_28 : decode b_M_cost 28 = .ok (.goto (-19), 3) := by decide +kernel
theorem d_M_cost_31 : decode b_M_cost 31 = .ok (.iload_n 1, 1) := by decide +kernel
theorem d_M_cost_32 : decode b_M_cost 32 = .ok (.ireturn, 1) := by decide +kernel
theorem d_M_share_0 : decode b_M_share 0 = .ok (.aload_n 0, 1) := by decide +kernel
theorem d_M_share_1 : decode b_M_share 1 = .ok (.invokevirtual 144, 3) := by decide +kernel
theorem d_M_share_4 : decode b_M_share 4 = .ok (.istore_n 2, 1) := by decide +kernel
theorem d_M_share_5 : decode b_M_share 5 = .ok (.aload_n 0, 1) := by decide +kernel
theorem d_M_share_6 : decode b_M_share 6 = .ok (.iload_n 1, 1) := by decide +kernel
theorem d_M_share_7 : decode b_M_share 7 = .ok (.invokevirtual 90, 3) := by decide +kernel
theorem d_M_share_10 : decode b_M_share 10 = .ok (.ifCond .ne 7, 3) := by decide +kernel
theorem d_M_share_13 : decode b_M_share 13 = .ok (.iconst 1, 1) := by decide +kernel
theorem d_M_share_14 : decode b_M_share 14 = .ok (.goto 4, 3) := by decide +kernel
theorem d_M_share_17 : decode b_M_share 17 = .ok (.iconst 0, 1) := by decide +kernel
theorem d_M_share_18 : decode b_M_share 18 = .ok (.istore_n 3, 1) := by decide +kernel
theorem d_M_share_19 : decode b_M_share 19 = .ok (.aload_n 0, 1) := by decide +kernel
theorem d_M_share_20 : decode b_M_share 20 = .ok (.iload_n 3, 1) := by decide +kernel
theorem d_M_share_21 : decode b_M_share 21 = .ok (.iload_n 2, 1) := by decide +kernel
theorem d_M_share_22 : decode b_M_share 22 = .ok (.ifCond .ne 7, 3) := by decide +kernel
theorem d_M_share_25 : decode b_M_share 25 = .ok (.iconst 1, 1) := by decide +kernel
theorem d_M_share_26 : decode b_M_share 26 = .ok (.goto 4, 3) := by decide +kernel
theorem d_M_share_29 : decode b_M_share 29 = .ok (.iconst 0, 1) := by decide +kernel
theorem d_M_share_30 : decode b_M_share 30 = .ok (.iconst 0, 1) := by decide +kernel
theorem d_M_share_31 : decode b_M_share 31 = .ok (.iconst 0, 1) := by decide +kernel
theorem d_M_share_32 : decode b_M_share 32 = .ok (.invokevirtual 76, 3) := by decide +kernel
theorem d_M_share_35 : decode b_M_share 35 = .ok (.ifCond .eq 5, 3) := by decide +kernel
theorem d_M_share_38 : decode b_M_share 38 = .ok (.iconst 0, 1) := by decide +kernel
theorem d_M_share_39 : decode b_M_share 39 = .ok (.ireturn, 1) := by decide +kernel
theorem d_M_share_40 : decode b_M_share 40 = .ok (.ldc2_w 148, 3) := by decide +kernel
theorem d_M_share_43 : decode b_M_share 43 = .ok (.aload_n 0, 1) := by decide +kernel
theorem d_M_share_44 : decode b_M_share 44 = .ok (.iload_n 1, 1) := by decide +kernel
theorem d_M_share_45 : decode b_M_share 45 = .ok (.invokevirtual 141, 3) := by decide +kernel
theorem d_M_share_48 : decode b_M_share 48 = .ok (.i2l, 1) := by decide +kernel
theorem d_M_share_49 : decode b_M_share 49 = .ok (.lmul, 1) := by decide +kernel
theorem d_M_share_50 : decode b_M_share 50 = .ok (.iload_n 2, 1) := by decide +kernel
theorem d_M_share_51 : decode b_M_share 51 = .ok (.i2l, 1) := by decide +kernel
theorem d_M_share_52 : decode b_M_share 52 = .ok (.ldiv, 1) := by decide +kernel
theorem d_M_share_53 : decode b_M_share 53 = .ok (.l2i, 1) := by decide +kernel
theorem d_M_share_54 : decode b_M_share 54 = .ok (.ireturn, 1) := by decide +kernel
theorem d_M_publish_0 : decode b_M_publish 0 = .ok (.aload_n 0, 1) := by decide +kernel
theorem d_M_publish_1 : decode b_M_publish 1 = .ok (.iconst 0, 1) := by decide +kernel
theorem d_M_publish_2 : decode b_M_publish 2 = .ok (.putfield 63, 3) := by decide +kernel
theorem d_M_publish_5 : decode b_M_publish 5 = .ok (.iconst 0, 1) := by decide +kernel
theorem d_M_publish_6 : decode b_M_publish 6 = .ok (.istore_n 1, 1) := by decide +kernel
theorem d_M_publish_7 : decode b_M_publish 7 = .ok (.iconst 0, 1) := by decide +kernel
theorem d_M_publish_8 : decode b_M_publish 8 = .ok (.istore_n 2, 1) := by decide +kernel
theorem d_M_publish_9 : decode b_M_publish 9 = .ok (.iload_n 2, 1) := by decide +kernel
theorem d_M_publish_10 : decode b_M_publish 10 = .ok (.bipush 42, 2) := by decide +kernel
theorem d_M_publish_12 : decode b_M_publish 12 = .ok (.if_icmp .ge 76, 3) := by decide +kernel
theorem d_M_publish_15 : decode b_M_publish 15 = .ok (.iload_n 2, 1) := by decide +kernel
theorem d_M_publish_16 : decode b_M_publish 16 = .ok (.bipush 6, 2) := by decide +kernel
theorem d_M_publish_18 : decode b_M_publish 18 = .ok (.idiv, 1) := by decide +kernel
theorem d_M_publish_19 : decode b_M_publish 19 = .ok (.aload_n 0, 1) := by decide +kernel
theorem d_M_publish_20 : decode b_M_publish 20 = .ok (.getfield 73, 3) := by decide +kernel
theorem d_M_publish_23 : decode b_M_publish 23 = .ok (.if_icmp .ge 18, 3) := by decide +kernel
theorem d_M_publish_26 : decode b_M_publish 26 = .ok (.iload_n 2, 1) := by decide +kernel
theorem d_M_publish_27 : decode b_M_publish 27 = .ok (.bipush 6, 2) := by decide +kernel
theorem d_M_publish_29 : decode b_M_publish 29 = .ok (.irem, 1) := by decide +kernel
theorem d_M_publish_30 : decode b_M_publish 30 = .ok (.aload_n 0, 1) := by decide +kernel
theorem d_M_publish_31 : decode b_M_publish 31 = .ok (.getfield 66, 3) := by decide +kernel
theorem d_M_publish_34 : decode b_M_publish 34 = .ok (.if_icmp .ge 7, 3) := by decide +kernel
theorem d_M_publish_37 : decode b_M_publish 37 = .ok (.iconst 1, 1) := by decide +kernel
theorem d_M_publish_38 : decode b_M_publish 38 = .ok (.goto 4, 3) := by decide +kernel
theorem d_M_publish_41 : decode b_M_publish 41 = .ok (.iconst 0, 1) := by decide +kernel
theorem d_M_publish_42 : decode b_M_publish 42 = .ok (.istore_n 3, 1) := by decide +kernel
theorem d_M_publish_43 : decode b_M_publish 43 = .ok (.iload_n 1, 1) := by decide +kernel
theorem d_M_publish_44 : decode b_M_publish 44 = .ok (.iload_n 3, 1) := by decide +kernel
theorem d_M_publish_45 : decode b_M_publish 45 = .ok (.ifCond .eq 22, 3) := by decide +kernel
theorem d_M_publish_48 : decode b_M_publish 48 = .ok (.aload_n 0, 1) := by decide +kernel
theorem d_M_publish_49 : decode b_M_publish 49 = .ok (.getfield 25, 3) := by decide +kernel
theorem d_M_publish_52 : decode b_M_publish 52 = .ok (.iload_n 2, 1) := by decide +kernel
theorem d_M_publish_53 : decode b_M_publish 53 = .ok (.iaload, 1) := by decide +kernel
theorem d_M_publish_54 : decode b_M_publish 54 = .ok (.aload_n 0, 1) := by decide +kernel
theorem d_M_publish_55 : decode b_M_publish 55 = .ok (.getfield 16, 3) := by decide +kernel
theorem d_M_publish_58 : decode b_M_publish 58 = .ok (.iload_n 2, 1) := by decide +kernel
theorem d_M_publish_59 : decode b_M_publish 59 = .ok (.iaload, 1) := by decide +kernel
theorem d_M_publish_60 : decode b_M_publish 60 = .ok (.if_icmp .eq 7, 3) := by decide +kernel
theorem d_M_publish_63 : decode b_M_publish 63 = .ok (.iconst 1, 1) := by decide +kernel
theorem d_M_publish_64 : decode b_M_publish 64 = .ok (.goto 4, 3) := by decide +kernel
theorem d_M_publish_67 : decode b_M_publish 67 = .ok (.iconst 0, 1) := by decide +kernel
theorem d_M_publish_68 : decode b_M_publish 68 = .ok (.iadd, 1) := by decide +kernel
theorem d_M_publish_69 : decode b_M_publish 69 = .ok (.istore_n 1, 1) := by decide +kernel
theorem d_M_publish_70 : decode b_M_publish 70 = .ok (.aload_n 0, 1) := by decide +kernel
theorem d_M_publish_71 : decode b_M_publish 71 = .ok (.getfield 25, 3) := by decide +kernel
theorem d_M_publish_74 : decode b_M_publish 74 = .ok (.iload_n 2, 1) := by decide +kernel
theorem d_M_publish_75 : decode b_M_publish 75 = .ok (.aload_n 0, 1) := by decide +kernel
theorem d_M_publish_76 : decode b_M_publish 76 = .ok (.getfield 16, 3) := by decide +kernel
theorem d_M_publish_79 : decode b_M_publish 79 = .ok (.iload_n 2, 1) := by decide +kernel
theorem d_M_publish_80 : decode b_M_publish 80 = .ok (.iaload, 1) := by decide +kernel
theorem d_M_publish_81 : decode b_M_publish 81 = .ok (.iastore, 1) := by decide +kernel
theorem d_M_publish_82 : decode b_M_publish 82 = .ok (.iinc 2 1, 3) := by decide +kernel
theorem d_M_publish_85 : decode b_M_publish 85 = .ok (.goto (-76), 3) := by decide +kernel
theorem d_M_publish_88 : decode b_M_publish 88 = .ok (.aload_n 0, 1) := by decide +kernel
theorem d_M_publish_89 : decode b_M_publish 89 = .ok (.dup, 1) := by decide +kernel
theorem d_M_publish_90 : decode b_M_publish 90 = .ok (.getfield 150, 3) := by decide +kernel
theorem d_M_publish_93 : decode b_M_publish 93 = .ok (.iconst 1, 1) := by decide +kernel
theorem d_M_publish_94 : decode b_M_publish 94 = .ok (.iadd, 1) := by decide +kernel
theorem d_M_publish_95 : decode b_M_publish 95 = .ok (.putfield 150, 3) := by decide +kernel
theorem d_M_publish_98 : decode b_M_publish 98 = .ok (.iload_n 1, 1) := by decide +kernel
theorem d_M_publish_99 : decode b_M_publish 99 = .ok (.ireturn, 1) := by decide +kernel
theorem d_M_count_0 : decode b_M_count 0 = .ok (.aload_n 0, 1) := by decide +kernel
theorem d_M_count_1 : decode b_M_count 1 = .ok (.iload_n 1, 1) := by decide +kernel
theorem d_M_count_2 : decode b_M_count 2 = .ok (.iconst 0, 1) := by decide +kernel
theorem d_M_count_3 : decode b_M_count 3 = .ok (.iconst 4, 1) := by decide +kernel
theorem d_M_count_4 : decode b_M_count 4 = .ok (.invokestatic 69, 3) := by decide +kernel
theorem d_M_count_7 : decode b_M_count 7 = .ok (.ifCond .ne 7, 3) := by decide +kernel
theorem d_M_count_10 : decode b_M_count 10 = .ok (.iconst 1, 1) := by decide +kernel
theorem d_M_count_11 : decode b_M_count 11 = .ok (.goto 4, 3) := by decide +kernel
theorem d_M_count_14 : decode b_M_count 14 = .ok (.iconst 0, 1) := by decide +kernel
theorem d_M_count_15 : decode b_M_count 15 = .ok (.iconst 0, 1) := by decide +kernel
theorem d_M_count_16 : decode b_M_count 16 = .ok (.iconst 0, 1) := by decide +kernel
theorem d_M_count_17 : decode b_M_count 17 = .ok (.iconst 0, 1) := by decide +kernel
theorem d_M_count_18 : decode b_M_count 18 = .ok (.invokevirtual 76, 3) := by decide +kernel
theorem d_M_count_21 : decode b_M_count 21 = .ok (.ifCond .eq 5, 3) := by decide +kernel
theorem d_M_count_24 : decode b_M_count 24 = .ok (.iconst 0, 1) := by decide +kernel
theorem d_M_count_25 : decode b_M_count 25 = .ok (.ireturn, 1) := by decide +kernel
theorem d_M_count_26 : decode b_M_count 26 = .ok (.iload_n 1, 1) := by decide +kernel
theorem d_M_count_27 : decode b_M_count 27 = .ok (.ifCond .ne 10, 3) := by decide +kernel
theorem d_M_count_30 : decode b_M_count 30 = .ok (.aload_n 0, 1) := by decide +kernel
theorem d_M_count_31 : decode b_M_count 31 = .ok (.getfield 66, 3) := by decide +kernel
theorem d_M_count_34 : decode b_M_count 34 = .ok (.goto 43, 3) := by decide +kernel
theorem d_M_count_37 : decode b_M_count 37 = .ok (.iload_n 1, 1) := by decide +kernel
theorem d_M_count_38 : decode b_M_count 38 = .ok (.iconst 1, 1) := by decide +kernel
theorem d_M_count_39 : decode b_M_count 39 = .ok (.if_icmp .ne 10, 3) := by decide +kernel
theorem d_M_count_42 : decode b_M_count 42 = .ok (.aload_n 0, 1) := by decide +kernel
theorem d_M_count_43 : decode b_M_count 43 = .ok (.getfield 73, 3) := by decide +kernel
theorem d_M_count_46 : decode b_M_count 46 = .ok (.goto 31, 3) := by decide +kernel
theorem d_M_count_49 : decode b_M_count 49 = .ok (.iload_n 1, 1) := by decide +kernel
theorem d_M_count_50 : decode b_M_count 50 = .ok (.iconst 2, 1) := by decide +kernel
theorem d_M_count_51 : decode b_M_count 51 = .ok (.if_icmp .ne 10, 3) := by decide +kernel
theorem d_M_count_54 : decode b_M_count 54 = .ok (.aload_n 0, 1) := by decide +kernel
theorem d_M_count_55 : decode b_M_count 55 = .ok (.getfield 83, 3) := by decide +kernel
theorem d_M_count_58 : decode b_M_count 58 = .ok (.goto 19, 3) := by decide +kernel
theorem d_M_count_61 : decode b_M_count 61 = .ok (.iload_n 1, 1) := by decide +kernel
theorem d_M_count_62 : decode b_M_count 62 = .ok (.iconst 3, 1) := by decide +kernel
theorem d_M_count_63 : decode b_M_count 63 = .ok (.if_icmp .ne 10, 3) := by decide +kernel
theorem d_M_count_66 : decode b_M_count 66 = .ok (.aload_n 0, 1) := by decide +kernel
theorem d_M_count_67 : decode b_M_count 67 = .ok (.getfield 80, 3) := by decide +kernel
theorem d_M_count_70 : decode b_M_count 70 = .ok (.goto 7, 3) := by decide +kernel
theorem d_M_count_73 : decode b_M_count 73 = .ok (.aload_n 0, 1) := by decide +kernel
theorem d_M_count_74 : decode b_M_count 74 = .ok (.getfield 150, 3) := by decide +kernel
theorem d_M_count_77 : decode b_M_count 77 = .ok (.ireturn, 1) := by decide +kernel
end
section
/-! The reference's world: P, G shared with the class's; X: row 0 thrown, exact, steps, rights; rows 1 tried, 2 best, 3 the wishes' persons, 4 days, 5 shifts, 6 wants, 7 weights -/
abbrev wM (am : Nat → Nat) (cm : Nat → ClassId) (P G X : Nat → Nat → Nat) : va_W := [(am 0, .inr (3, [.int (nI (X 0 0)), .int (nI (P 0 0)), .int (nI (P 0 1)), .int (nI (G 0 0)), .ref (am 1), .ref (am 2), .ref (am 3), .ref (am 4), .ref (am 5), .ref (am 6), .int (nI (G 0 1)), .ref (am 7), .ref (am 8), .ref (am 9), .int (nI (P 0 2)), .int (nI (P 0 3)), .int (nI (P 0 4)), .int (nI (P 0 5)), .ref (am 10), .ref (am 11), .ref (am 12), .ref (am 13), .ref (am 14), .int (nI (X 0 1)), .int (nI (X 0 2)), .int (nI (X 0 3))])), (am 1, .inl (cm 0, 6, .inl (fun k => nI (P 1 k)))), (am 2, .inl (cm 1, 6, .inl (fun k => nI (P 2 k)))), (am 3, .inl (cm 2, 42, .inl (fun k => nI (G 1 k)))), (am 4, .inl (cm 3, 42, .inl (fun k => nI (X 1 k)))), (am 5, .inl (cm 4, 42, .inl (fun k => nI (X 2 k)))), (am 6, .inl (cm 5, 42, .inl (fun k => nI (G 2 k)))), (am 7, .inl (cm 6, 28, .inl (fun k => nI (P 3 k)))), (am 8, .inl (cm 7, 28, .inl (fun k => nI (P 4 k)))), (am 9, .inl (cm 8, 168, .inl (fun k => nI (P 5 k)))), (am 10, .inl (cm 9, 20, .inl (fun k => nI (X 3 k)))), (am 11, .inl (cm 10, 20, .inl (fun k => nI (X 4 k)))), (am 12, .inl (cm 11, 20, .inl (fun k => nI (X 5 k)))), (am 13, .inl (cm 12, 20, .inl (fun k => nI (X 6 k)))), (am 14, .inl (cm 13, 20, .inl (fun k => nI (X 7 k))))]
abbrev wMS (am : Nat → Nat) (cm : Nat → ClassId) (P G X : Nat → Nat → Nat) (a : Nat) (cS : ClassId) (sh : Nat → Nat) : va_W := wM am cm P G X ++ [(a, .inl (cS, 42, .inl (fun k => nI (sh k))))]
abbrev tM (cm : Nat → ClassId) : List (ClassId × FieldType) := [(cm 0, .int), (cm 1, .int), (cm 2, .int), (cm 3, .int), (cm 4, .int), (cm 5, .int), (cm 6, .int), (cm 7, .int), (cm 8, .boolean), (cm 9, .int), (cm 10, .int), (cm 11, .int), (cm 12, .boolean), (cm 13, .int)]
abbrev tMS (cm : Nat → ClassId) (cS : ClassId) : List (ClassId × FieldType) := tM cm ++ [(cS, .int)]
def okG (G : Nat → Nat → Nat) : Prop := G 0 0 ≤ 7 ∧ G 0 1 ≤ 100000 ∧ (∀ k, G 1 k ≤ 3) ∧ (∀ k, G 2 k ≤ 3)
def okX (X : Nat → Nat → Nat) : Prop := X 0 0 ≤ 4 ∧ X 0 1 ≤ 1 ∧ X 0 2 ≤ 40000 ∧ X 0 3 ≤ 40000 ∧ (∀ k, X 1 k ≤ 3) ∧ (∀ k, X 2 k ≤ 3) ∧ (∀ k, X 3 k ≤ 5) ∧ (∀ k, X 4 k ≤ 6) ∧ (∀ k, X 5 k ≤ 3) ∧ (∀ k, X 6 k ≤ 1) ∧ (∀ k, X 7 k ≤ 100)
/-- 0 .. n - 1 -/
def inR (x : Int32) (n : Nat) : Bool := decide (0 ≤ x.toInt ∧ x.toInt < (n : Int))
theorem inR_eq (x : Int32) {n : Nat} (h : n < 1000) : inR x n = decide (nI 0 ≤ x ∧ x ≤ nI n - nI 1) := by
  unfold inR
  apply decide_eq_decide.mpr
  rw [Int32.le_iff_toInt_le, Int32.le_iff_toInt_le, pk_sub_toInt (by omega) (by omega), nI_toInt (by omega)]
  omega
theorem b01_l2 {b : Bool} : (if b = true then 1 else 0 : Nat) < 2 := by cases b <;> decide
/-- the weights of the wishes from w on, k of them, that sh doesn't meet, of the places up to pl -/
def utl (P X : Nat → Nat → Nat) (sh : Nat → Nat) (pl : Nat) : Nat → Nat → Nat → Nat
  | 0, _, acc => acc
  | k + 1, w, acc => utl P X sh pl k (w + 1) (acc + (if X 4 w * P 0 0 + X 3 w ≤ pl ∧ (if sh (X 4 w * 6 + X 3 w) = X 5 w then 1 else 0) ≠ X 6 w then X 7 w else 0))
def utM (P X : Nat → Nat → Nat) (sh : Nat → Nat) (pl : Nat) : Nat := utl P X sh pl (P 0 5) 0 0
end
section
set_option maxHeartbeats 4000000 in
set_option maxRecDepth 100000 in
theorem c_M_in (l : Launch) (D : va_G) (x lo hi : Int32) : Met l y_M_in w_M_in { frames := 0, cells := 0, slots := 0, locals := 0 } (ro_P [.int x, .int lo, .int hi] D ([]) ([])) (vp_Si (fun r => r = nI (if decide (lo ≤ x ∧ x ≤ hi) = true then 1 else 0))) 0 0 (fun _ => False) := by
  refine Met.ofW (cc := b_M_in) (maxL := 3) (ret := (some .boolean)) (by decide) rfl ?_
  intro p e s m args below meth c s₁ B hml hv
  obtain ⟨rfl, hN, hP, hK⟩ := hv
  have hx := B.exec
  have hb := B.bytes
  have hr := B.returns
  have hts := atoms_spec (ws := w_M_in) B.pre
  have htb : ∀ w ∈ TBG, w.before [.int x, .int lo, .int hi].toArray s = true := fun w h => hts w (List.mem_cons_of_mem _ h)
  have hown : s.vm.findClass R_M = some m.cls := findClass_of_methodNamed B.named
  have hlocks := B.notSynchronized
  have hl := lv_entry ([.int x, .int lo, .int hi]) (n := 3) (Nat.le_of_ble_eq_true rfl)
  rw [lg_entry_eq]
  generalize (lg_sl ([.int x, .int lo, .int hi]) ++ List.replicate (3 - (lg_sl ([.int x, .int lo, .int hi])).length) Slot.unset).toArray = ls at hl ⊢
  have hl : lv_has ls 3 [(0, .int x), (1, .int lo), (2, .int hi)] := hl
  refine lv_iload_n hx hb d_M_in_0 rfl (lv_at hl 0 rfl) ?_
  refine lv_iload_n hx hb d_M_in_1 rfl (lv_at hl 1 rfl) ?_
  refine lv_icmp_lt (tgt := 14) hx hb d_M_in_2 (by decide) (fun c_2 => ?_) (fun c_2 => ?_)
  · refine nr_iconst hx hb 0 d_M_in_14 (by decide) ?_
    exact W.zret (v := (nI 0)) hx hb hr rfl (fun t ht hW => ⟨_, rfl, by rw [decide_eq_false (fun h => absurd c_2 (Int32.not_lt.mpr h.1))]; rfl, ht⟩) (fun q h => by cases h) d_M_in_15
  · refine lv_iload_n hx hb d_M_in_5 rfl (lv_at hl 0 rfl) ?_
    refine lv_iload_n hx hb d_M_in_6 rfl (lv_at hl 2 rfl) ?_
    refine lv_icmp_gt (tgt := 14) hx hb d_M_in_7 (by decide) (fun c_7 => ?_) (fun c_7 => ?_)
    · refine nr_iconst hx hb 0 d_M_in_14 (by decide) ?_
      exact W.zret (v := (nI 0)) hx hb hr rfl (fun t ht hW => ⟨_, rfl, by rw [decide_eq_false (fun h => absurd c_7 (Int32.not_lt.mpr h.2))]; rfl, ht⟩) (fun q h => by cases h) d_M_in_15
    · refine nr_iconst hx hb 1 d_M_in_10 (by decide) ?_
      refine lv_goto (tgt := 15) hx hb d_M_in_11 (by decide) ?_
      exact W.zret (v := (nI 1)) hx hb hr rfl (fun t ht hW => ⟨_, rfl, by rw [decide_eq_true ⟨Int32.not_lt.mp c_2, Int32.not_lt.mp c_7⟩]; rfl, ht⟩) (fun q h => by cases h) d_M_in_15
set_option maxHeartbeats 4000000 in
set_option maxRecDepth 100000 in
theorem c_M_isPerson (l : Launch) (D : va_G) (am : Nat → Nat) (cm : Nat → ClassId) (P G X : Nat → Nat → Nat) (a : Nat) (cS : ClassId) (sh : Nat → Nat) (hP0 : okP P) (hG0 : okG G) (hX0 : okX X) (hsh : ∀ k, sh k ≤ 3) (x : Int32) : Met l y_M_isPerson w_M_isPerson { frames := 1, cells := 0, slots := 0, locals := 22 } (ro_P [.ref (am 0), .int x] D (wMS am cm P G X a cS sh) (tMS cm cS)) (vp_Si (fun r => r = nI (if inR x (P 0 0) = true then 1 else 0))) 0 0 (fun _ => False) := by
  refine Met.ofW (cc := b_M_isPerson) (maxL := 2) (ret := (some .boolean)) (by decide) rfl ?_
  intro p e s m args below meth c s₁ B hml hv
  obtain ⟨rfl, hN, hP, hK⟩ := hv
  have hx := B.exec
  have hb := B.bytes
  have hr := B.returns
  have hts := atoms_spec (ws := w_M_isPerson) B.pre
  have htb : ∀ w ∈ TBG, w.before [.ref (am 0), .int x].toArray s = true := fun w h => hts w (List.mem_cons_of_mem _ h)
  have hown : s.vm.findClass R_M = some m.cls := findClass_of_methodNamed B.named
  have hlocks := B.notSynchronized
  have hl := lv_entry ([.ref (am 0), .int x]) (n := 2) (Nat.le_of_ble_eq_true rfl)
  rw [lg_entry_eq]
  generalize (lg_sl ([.ref (am 0), .int x]) ++ List.replicate (2 - (lg_sl ([.ref (am 0), .int x])).length) Slot.unset).toArray = ls at hl ⊢
  have hl : lv_has ls 2 [(0, .ref (am 0)), (1, .int x)] := hl
  obtain ⟨h00, h01, h02, h03, h04, h05, hp1, hp2, hp3, hp4, hp5, hp6⟩ := id hP0
  obtain ⟨k00, k01, hg1, hg2⟩ := id hG0
  obtain ⟨x00, x01, x02, x03, hx1, hx2, hx3, hx4, hx5, hx6, hx7⟩ := id hX0
  refine lv_iload_n hx hb d_M_isPerson_0 rfl (lv_at hl 1 rfl) ?_
  refine nr_iconst hx hb 0 d_M_isPerson_1 (by decide) ?_
  refine lv_aload_n hx hb d_M_isPerson_2 rfl (lv_at hl 0 rfl) ?_
  refine va_get (D := D) (ci := 3) (v := .int (nI (P 0 0))) (C := R_M) (T := F_M) (N := 26) hx hb htb u_M hown hK hP 0 rfl rfl 1 (by decide) (htb _ q580) (fun _ h9 => h9) rfl d_M_isPerson_3 ?_
  refine nr_iconst hx hb 1 d_M_isPerson_6 (by decide) ?_
  refine lv_isub hx hb d_M_isPerson_7 ?_
  refine nr_calli (va_runS (As := [.int x, .int (nI 0), .int (nI (P 0 0) - nI 1)]) (rest := []) ⟨hx, hb, hml, hown, hts⟩ (c_M_in l D x (nI 0) (nI (P 0 0) - nI 1)) ⟨callB_of 3 hts (gTB q_M_in) rfl rfl rfl (htb _ q4) (htb _ q666) hd_M_in ⟨Nat.le_of_ble_eq_true rfl, Nat.le_of_ble_eq_true rfl⟩, (htb _ q667)⟩ ⟨ro_blind, ro_pre hN (hP.sub (ws' := []) [] rfl) (hK.sub (tys' := []) [] rfl)⟩ rfl rfl hl.1 rfl (lv_room (Nat.le_of_ble_eq_true rfl)) d_M_isPerson_8 ⟨Nat.le_of_ble_eq_true rfl, Nat.le_of_ble_eq_true rfl⟩) (fun r_1 hr_1 => ?_)
  subst hr_1
  exact W.zret (v := (nI (if decide ((nI 0) ≤ x ∧ x ≤ (nI (P 0 0) - nI 1)) = true then 1 else 0))) hx hb hr (nr_bool b01_l2) (fun t ht hW => ⟨_, rfl, by rw [inR_eq x (by omega)], ht⟩) (fun q h => by cases h) d_M_isPerson_11
set_option maxHeartbeats 4000000 in
set_option maxRecDepth 100000 in
theorem c_M_isDay (l : Launch) (D : va_G) (am : Nat → Nat) (cm : Nat → ClassId) (P G X : Nat → Nat → Nat) (a : Nat) (cS : ClassId) (sh : Nat → Nat) (hP0 : okP P) (hG0 : okG G) (hX0 : okX X) (hsh : ∀ k, sh k ≤ 3) (x : Int32) : Met l y_M_isDay w_M_isDay { frames := 1, cells := 0, slots := 0, locals := 22 } (ro_P [.ref (am 0), .int x] D (wMS am cm P G X a cS sh) (tMS cm cS)) (vp_Si (fun r => r = nI (if inR x (P 0 1) = true then 1 else 0))) 0 0 (fun _ => False) := by
  refine Met.ofW (cc := b_M_isDay) (maxL := 2) (ret := (some .boolean)) (by decide) rfl ?_
  intro p e s m args below meth c s₁ B hml hv
  obtain ⟨rfl, hN, hP, hK⟩ := hv
  have hx := B.exec
  have hb := B.bytes
  have hr := B.returns
  have hts := atoms_spec (ws := w_M_isDay) B.pre
  have htb : ∀ w ∈ TBG, w.before [.ref (am 0), .int x].toArray s = true := fun w h => hts w (List.mem_cons_of_mem _ h)
  have hown : s.vm.findClass R_M = some m.cls := findClass_of_methodNamed B.named
  have hlocks := B.notSynchronized
  have hl := lv_entry ([.ref (am 0), .int x]) (n := 2) (Nat.le_of_ble_eq_true rfl)
  rw [lg_entry_eq]
  generalize (lg_sl ([.ref (am 0), .int x]) ++ List.replicate (2 - (lg_sl ([.ref (am 0), .int x])).length) Slot.unset).toArray = ls at hl ⊢
  have hl : lv_has ls 2 [(0, .ref (am 0)), (1, .int x)] := hl
  obtain ⟨h00, h01, h02, h03, h04, h05, hp1, hp2, hp3, hp4, hp5, hp6⟩ := id hP0
  obtain ⟨k00, k01, hg1, hg2⟩ := id hG0
  obtain ⟨x00, x01, x02, x03, hx1, hx2, hx3, hx4, hx5, hx6, hx7⟩ := id hX0
  refine lv_iload_n hx hb d_M_isDay_0 rfl (lv_at hl 1 rfl) ?_
  refine nr_iconst hx hb 0 d_M_isDay_1 (by decide) ?_
  refine lv_aload_n hx hb d_M_isDay_2 rfl (lv_at hl 0 rfl) ?_
  refine va_get (D := D) (ci := 3) (v := .int (nI (P 0 1))) (C := R_M) (T := F_M) (N := 26) hx hb htb u_M hown hK hP 0 rfl rfl 2 (by decide) (htb _ q581) (fun _ h9 => h9) rfl d_M_isDay_3 ?_
  refine nr_iconst hx hb 1 d_M_isDay_6 (by decide) ?_
  refine lv_isub hx hb d_M_isDay_7 ?_
  refine nr_calli (va_runS (As := [.int x, .int (nI 0), .int (nI (P 0 1) - nI 1)]) (rest := []) ⟨hx, hb, hml, hown, hts⟩ (c_M_in l D x (nI 0) (nI (P 0 1) - nI 1)) ⟨callB_of 3 hts (gTB q_M_in) rfl rfl rfl (htb _ q4) (htb _ q666) hd_M_in ⟨Nat.le_of_ble_eq_true rfl, Nat.le_of_ble_eq_true rfl⟩, (htb _ q667)⟩ ⟨ro_blind, ro_pre hN (hP.sub (ws' := []) [] rfl) (hK.sub (tys' := []) [] rfl)⟩ rfl rfl hl.1 rfl (lv_room (Nat.le_of_ble_eq_true rfl)) d_M_isDay_8 ⟨Nat.le_of_ble_eq_true rfl, Nat.le_of_ble_eq_true rfl⟩) (fun r_1 hr_1 => ?_)
  subst hr_1
  exact W.zret (v := (nI (if decide ((nI 0) ≤ x ∧ x ≤ (nI (P 0 1) - nI 1)) = true then 1 else 0))) hx hb hr (nr_bool b01_l2) (fun t ht hW => ⟨_, rfl, by rw [inR_eq x (by omega)], ht⟩) (fun q h => by cases h) d_M_isDay_11
set_option maxHeartbeats 4000000 in
set_option maxRecDepth 100000 in
theorem c_M_between (l : Launch) (D : va_G) (x y : Nat) (hx3 : x ≤ 3) (hy1 : 1 ≤ y) : Met l y_M_between w_M_between { frames := 0, cells := 0, slots := 0, locals := 0 } (ro_P [.int (nI x), .int (nI y)] D ([]) ([])) (vp_Si (fun r => r = nI (16 + 8 * y - 8 * x))) 0 0 (fun _ => False) := by
  refine Met.ofW (cc := b_M_between) (maxL := 2) (ret := (some .int)) (by decide) rfl ?_
  intro p e s m args below meth c s₁ B hml hv
  obtain ⟨rfl, hN, hP, hK⟩ := hv
  have hx := B.exec
  have hb := B.bytes
  have hr := B.returns
  have hts := atoms_spec (ws := w_M_between) B.pre
  have htb : ∀ w ∈ TBG, w.before [.int (nI x), .int (nI y)].toArray s = true := fun w h => hts w (List.mem_cons_of_mem _ h)
  have hown : s.vm.findClass R_M = some m.cls := findClass_of_methodNamed B.named
  have hlocks := B.notSynchronized
  have hl := lv_entry ([.int (nI x), .int (nI y)]) (n := 2) (Nat.le_of_ble_eq_true rfl)
  rw [lg_entry_eq]
  generalize (lg_sl ([.int (nI x), .int (nI y)]) ++ List.replicate (2 - (lg_sl ([.int (nI x), .int (nI y)])).length) Slot.unset).toArray = ls at hl ⊢
  have hl : lv_has ls 2 [(0, .int (nI x)), (1, .int (nI y))] := hl
  refine nr_bipush hx hb 24 d_M_between_0 (by decide) ?_
  refine nr_bipush hx hb 8 d_M_between_2 (by decide) ?_
  refine lv_iload_n hx hb d_M_between_4 rfl (lv_at hl 1 rfl) ?_
  refine nr_imul hx hb d_M_between_5 ?_
  refine nr_top (y := nI (y * 8)) (congrArg nI (Nat.mul_comm _ _)) ?_
  refine nr_iadd hx hb d_M_between_6 ?_
  refine nr_iconst hx hb 2 d_M_between_7 (by decide) ?_
  refine nr_isub hx hb (by omega) d_M_between_8 ?_
  refine nr_bipush hx hb 6 d_M_between_9 (by decide) ?_
  refine nr_bipush hx hb 8 d_M_between_11 (by decide) ?_
  refine lv_iload_n hx hb d_M_between_13 rfl (lv_at hl 0 rfl) ?_
  refine nr_imul hx hb d_M_between_14 ?_
  refine nr_top (y := nI (x * 8)) (congrArg nI (Nat.mul_comm _ _)) ?_
  refine nr_iadd hx hb d_M_between_15 ?_
  refine nr_isub hx hb (by omega) d_M_between_16 ?_
  exact W.iret (v := (nI (((24 + (y * 8)) - 2) - (6 + (x * 8))))) hx hb hr (fun t ht hW => ⟨_, rfl, congrArg nI (by omega), ht⟩) (fun q h => by cases h) d_M_between_17
set_option maxHeartbeats 4000000 in
set_option maxRecDepth 100000 in
theorem c_M_isTired (l : Launch) (D : va_G) (am : Nat → Nat) (cm : Nat → ClassId) (P G X : Nat → Nat → Nat) (a : Nat) (cS : ClassId) (sh : Nat → Nat) (hP0 : okP P) (hG0 : okG G) (hX0 : okX X) (hsh : ∀ k, sh k ≤ 3) (p1 d : Nat) (hp : p1 < 6) (hd : d < 7) : Met l y_M_isTired w_M_isTired { frames := 1, cells := 0, slots := 0, locals := 21 } (ro_P [.ref (am 0), .ref a, .int (nI p1), .int (nI d)] D (wMS am cm P G X a cS sh) (tMS cm cS)) (vp_Si (fun r => r = nI (if breaks P (hadT sh p1 d) (sh (d * 6 + p1)) = true then 1 else 0))) 0 0 (fun _ => False) := by
  refine Met.ofW (cc := b_M_isTired) (maxL := 6) (ret := (some .boolean)) (by decide) rfl ?_
  intro p e s m args below meth c s₁ B hml hv
  obtain ⟨rfl, hN, hP, hK⟩ := hv
  have hx := B.exec
  have hb := B.bytes
  have hr := B.returns
  have hts := atoms_spec (ws := w_M_isTired) B.pre
  have htb : ∀ w ∈ TBG, w.before [.ref (am 0), .ref a, .int (nI p1), .int (nI d)].toArray s = true := fun w h => hts w (List.mem_cons_of_mem _ h)
  have hown : s.vm.findClass R_M = some m.cls := findClass_of_methodNamed B.named
  have hlocks := B.notSynchronized
  have hl := lv_entry ([.ref (am 0), .ref a, .int (nI p1), .int (nI d)]) (n := 6) (Nat.le_of_ble_eq_true rfl)
  rw [lg_entry_eq]
  generalize (lg_sl ([.ref (am 0), .ref a, .int (nI p1), .int (nI d)]) ++ List.replicate (6 - (lg_sl ([.ref (am 0), .ref a, .int (nI p1), .int (nI d)])).length) Slot.unset).toArray = ls at hl ⊢
  have hl : lv_has ls 6 [(0, .ref (am 0)), (1, .ref a), (2, .int (nI p1)), (3, .int (nI d))] := hl
  obtain ⟨h00, h01, h02, h03, h04, h05, hp1, hp2, hp3, hp4, hp5, hp6⟩ := id hP0
  obtain ⟨k00, k01, hg1, hg2⟩ := id hG0
  obtain ⟨x00, x01, x02, x03, hx1, hx2, hx3, hx4, hx5, hx6, hx7⟩ := id hX0
  refine lv_iload_n hx hb d_M_isTired_0 rfl (lv_at hl 3 rfl) ?_
  refine nr_if_ne (tgt := 6) hx hb (by omega) d_M_isTired_1 (by decide) (fun c_1 => ?_) (fun c_1 => ?_)
  · refine lv_aload_n hx hb d_M_isTired_6 rfl (lv_at hl 1 rfl) ?_
    refine nr_bipush hx hb 6 d_M_isTired_7 (by decide) ?_
    refine lv_iload_n hx hb d_M_isTired_9 rfl (lv_at hl 3 rfl) ?_
    refine nr_iconst hx hb 1 d_M_isTired_10 (by decide) ?_
    refine nr_isub hx hb (by omega) d_M_isTired_11 ?_
    refine nr_imul hx hb d_M_isTired_12 ?_
    refine nr_top (y := nI ((d - 1) * 6)) (congrArg nI (Nat.mul_comm _ _)) ?_
    refine lv_iload_n hx hb d_M_isTired_13 rfl (lv_at hl 2 rfl) ?_
    refine nr_iadd hx hb d_M_isTired_14 ?_
    refine nr_iald hx hb hK hP 15 14 rfl rfl (by omega) (by decide) d_M_isTired_15 ?_
    have hv_1 := hsh (((d - 1) * 6) + p1)
    refine lv_istore (lv' := [(4, .int (nI (sh (((d - 1) * 6) + p1)))), (0, .ref (am 0)), (1, .ref a), (2, .int (nI p1)), (3, .int (nI d))]) hx hb d_M_isTired_16 hl (by decide) rfl (fun ls hl => ?_)
    refine lv_aload_n hx hb d_M_isTired_18 rfl (lv_at hl 2 rfl) ?_
    refine nr_bipush hx hb 6 d_M_isTired_19 (by decide) ?_
    refine lv_iload_n hx hb d_M_isTired_21 rfl (lv_at hl 4 rfl) ?_
    refine nr_imul hx hb d_M_isTired_22 ?_
    refine nr_top (y := nI (d * 6)) (congrArg nI (Nat.mul_comm _ _)) ?_
    refine lv_iload_n hx hb d_M_isTired_23 rfl (lv_at hl 3 rfl) ?_
    refine nr_iadd hx hb d_M_isTired_24 ?_
    refine nr_iald hx hb hK hP 15 14 rfl rfl (by omega) (by decide) d_M_isTired_25 ?_
    have hv_2 := hsh ((d * 6) + p1)
    refine lv_istore (lv' := [(5, .int (nI (sh ((d * 6) + p1)))), (4, .int (nI (sh (((d - 1) * 6) + p1)))), (0, .ref (am 0)), (1, .ref a), (2, .int (nI p1)), (3, .int (nI d))]) hx hb d_M_isTired_26 hl (by decide) rfl (fun ls hl => ?_)
    refine lv_iload hx hb d_M_isTired_28 (lv_at hl 1 rfl) ?_
    refine nr_if_le (tgt := 56) hx hb (by omega) d_M_isTired_30 (by decide) (fun c_30 => ?_) (fun c_30 => ?_)
    · refine nr_iconst hx hb 0 d_M_isTired_56 (by decide) ?_
      exact W.zret (v := (nI 0)) hx hb hr rfl (fun t ht hW => ⟨_, rfl, by unfold hadT breaks; rw [if_neg c_1, if_neg (by simp; omega)], ht⟩) (fun q h => by cases h) d_M_isTired_57
    · refine lv_iload hx hb d_M_isTired_33 (lv_at hl 0 rfl) ?_
      refine nr_if_le (tgt := 56) hx hb (by omega) d_M_isTired_35 (by decide) (fun c_35 => ?_) (fun c_35 => ?_)
      · refine nr_iconst hx hb 0 d_M_isTired_56 (by decide) ?_
        exact W.zret (v := (nI 0)) hx hb hr rfl (fun t ht hW => ⟨_, rfl, by unfold hadT breaks; rw [if_neg c_1, if_neg (by simp; omega)], ht⟩) (fun q h => by cases h) d_M_isTired_57
      · refine lv_iload hx hb d_M_isTired_38 (lv_at hl 1 rfl) ?_
        refine lv_iload hx hb d_M_isTired_40 (lv_at hl 0 rfl) ?_
        refine nr_calli (va_runS (As := [.int (nI (sh (((d - 1) * 6) + p1))), .int (nI (sh ((d * 6) + p1)))]) (rest := []) ⟨hx, hb, hml, hown, hts⟩ (c_M_between l D (sh (((d - 1) * 6) + p1)) (sh ((d * 6) + p1)) (by omega) (by omega)) ⟨callB_of 2 hts (gTB q_M_between) rfl rfl rfl (htb _ q4) (htb _ q733) hd_M_between ⟨Nat.le_of_ble_eq_true rfl, Nat.le_of_ble_eq_true rfl⟩, (htb _ q734)⟩ ⟨ro_blind, ro_pre hN (hP.sub (ws' := []) [] rfl) (hK.sub (tys' := []) [] rfl)⟩ rfl rfl hl.1 rfl (lv_room (Nat.le_of_ble_eq_true rfl)) d_M_isTired_42 ⟨Nat.le_of_ble_eq_true rfl, Nat.le_of_ble_eq_true rfl⟩) (fun r_3 hr_3 => ?_)
        subst hr_3
        refine lv_aload_n hx hb d_M_isTired_45 rfl (lv_at hl 2 rfl) ?_
        refine va_get (D := D) (ci := 3) (v := .int (nI (P 0 2))) (C := R_M) (T := F_M) (N := 26) hx hb htb u_M hown hK hP 0 rfl rfl 14 (by decide) (htb _ q593) (fun _ h9 => h9) rfl d_M_isTired_46 ?_
        refine nr_icmp_ge (tgt := 56) hx hb (by omega) (by omega) d_M_isTired_49 (by decide) (fun c_49 => ?_) (fun c_49 => ?_)
        · refine nr_iconst hx hb 0 d_M_isTired_56 (by decide) ?_
          exact W.zret (v := (nI 0)) hx hb hr rfl (fun t ht hW => ⟨_, rfl, by unfold hadT breaks; rw [if_neg c_1, if_neg (by simp; omega)], ht⟩) (fun q h => by cases h) d_M_isTired_57
        · refine nr_iconst hx hb 1 d_M_isTired_52 (by decide) ?_
          refine lv_goto (tgt := 57) hx hb d_M_isTired_53 (by decide) ?_
          exact W.zret (v := (nI 1)) hx hb hr rfl (fun t ht hW => ⟨_, rfl, by unfold hadT breaks; rw [if_neg c_1, if_pos (by simp; omega)], ht⟩) (fun q h => by cases h) d_M_isTired_57
  · refine nr_iconst hx hb 0 d_M_isTired_4 (by decide) ?_
    exact W.zret (v := (nI 0)) hx hb hr rfl (fun t ht hW => ⟨_, rfl, by unfold hadT; rw [if_pos c_1]; simp [breaks], ht⟩) (fun q h => by cases h) d_M_isTired_5
set_option maxHeartbeats 4000000 in
set_option maxRecDepth 100000 in
theorem c_M_many (l : Launch) (D : va_G) (a : Nat) (cS : ClassId) (sh : Nat → Nat) (hsh : ∀ k, sh k ≤ 3) (p1 d : Nat) (hp : p1 < 6) (hd : d < 7) : Met l y_M_many w_M_many { frames := 0, cells := 0, slots := 0, locals := 0 } (ro_P [.ref a, .int (nI p1), .int (nI d)] D ([(a, .inl (cS, 42, .inl (fun k => nI (sh k))))]) ([(cS, .int)])) (vp_Si (fun r => r = nI (cnt sh p1 (d + 1)))) 0 0 (fun _ => False) := by
  refine Met.ofW (cc := b_M_many) (maxL := 5) (ret := (some .int)) (by decide) rfl ?_
  intro p e s m args below meth c s₁ B hml hv
  obtain ⟨rfl, hN, hP, hK⟩ := hv
  have hx := B.exec
  have hb := B.bytes
  have hr := B.returns
  have hts := atoms_spec (ws := w_M_many) B.pre
  have htb : ∀ w ∈ TBG, w.before [.ref a, .int (nI p1), .int (nI d)].toArray s = true := fun w h => hts w (List.mem_cons_of_mem _ h)
  have hown : s.vm.findClass R_M = some m.cls := findClass_of_methodNamed B.named
  have hlocks := B.notSynchronized
  have hl := lv_entry ([.ref a, .int (nI p1), .int (nI d)]) (n := 5) (Nat.le_of_ble_eq_true rfl)
  rw [lg_entry_eq]
  generalize (lg_sl ([.ref a, .int (nI p1), .int (nI d)]) ++ List.replicate (5 - (lg_sl ([.ref a, .int (nI p1), .int (nI d)])).length) Slot.unset).toArray = ls at hl ⊢
  have hl : lv_has ls 5 [(0, .ref a), (1, .int (nI p1)), (2, .int (nI d))] := hl
  refine nr_iconst hx hb 0 d_M_many_0 (by decide) ?_
  refine lv_istore_n (lv' := [(3, .int (nI 0)), (0, .ref a), (1, .int (nI p1)), (2, .int (nI d))]) hx hb d_M_many_1 rfl hl (by decide) rfl (fun ls hl => ?_)
  refine nr_iconst hx hb 0 d_M_many_2 (by decide) ?_
  refine lv_istore (lv' := [(4, .int (nI 0)), (3, .int (nI 0)), (0, .ref a), (1, .int (nI p1)), (2, .int (nI d))]) hx hb d_M_many_3 hl (by decide) rfl (fun ls hl => ?_)
  replace hl : ∃ k j acc : Nat, (j + k = d + 1) ∧ (acc = cnt sh p1 j) ∧ lv_has ls 5 [(0, .ref a), (1, .int (nI p1)), (2, .int (nI d)), (3, .int (nI acc)), (4, .int (nI j))] := ⟨d + 1, 0, 0, Nat.zero_add _, rfl, lv_sub hl [2, 3, 4, 1, 0] rfl⟩
  obtain ⟨k, j, acc, hk, hacc, hl⟩ := hl
  induction k generalizing j acc ls with
  | zero =>
    refine lv_iload hx hb d_M_many_5 (lv_at hl 4 rfl) ?_
    refine lv_iload_n hx hb d_M_many_7 rfl (lv_at hl 2 rfl) ?_
    refine nr_icmp_gt (tgt := 37) hx hb (by omega) (by omega) d_M_many_8 (by decide) (fun c_8 => ?_) (fun c_8 => by exfalso; omega)
    refine lv_iload_n hx hb d_M_many_37 rfl (lv_at hl 3 rfl) ?_
    exact W.iret (v := (nI acc)) hx hb hr (fun t ht hW => ⟨_, rfl, by rw [hacc, show j = d + 1 by omega], ht⟩) (fun q h => by cases h) d_M_many_38
  | succ k ih_5 =>
    refine lv_iload hx hb d_M_many_5 (lv_at hl 4 rfl) ?_
    refine lv_iload_n hx hb d_M_many_7 rfl (lv_at hl 2 rfl) ?_
    refine nr_icmp_gt (tgt := 37) hx hb (by omega) (by omega) d_M_many_8 (by decide) (fun c_8 => by exfalso; omega) (fun c_8 => ?_)
    refine lv_iload_n hx hb d_M_many_11 rfl (lv_at hl 3 rfl) ?_
    refine lv_aload_n hx hb d_M_many_12 rfl (lv_at hl 0 rfl) ?_
    refine nr_bipush hx hb 6 d_M_many_13 (by decide) ?_
    refine lv_iload hx hb d_M_many_15 (lv_at hl 4 rfl) ?_
    refine nr_imul hx hb d_M_many_17 ?_
    refine nr_top (y := nI (j * 6)) (congrArg nI (Nat.mul_comm _ _)) ?_
    refine lv_iload_n hx hb d_M_many_18 rfl (lv_at hl 1 rfl) ?_
    refine nr_iadd hx hb d_M_many_19 ?_
    refine nr_iald hx hb hK hP 0 0 rfl rfl (by omega) (by decide) d_M_many_20 ?_
    have hv_1 := hsh ((j * 6) + p1)
    refine nr_if_le (tgt := 28) hx hb (by omega) d_M_many_21 (by decide) (fun c_21 => ?_) (fun c_21 => ?_)
    · refine nr_iconst hx hb 0 d_M_many_28 (by decide) ?_
      refine nr_iadd hx hb d_M_many_29 ?_
      refine lv_istore_n (lv' := [(3, .int (nI (acc + 0))), (0, .ref a), (1, .int (nI p1)), (2, .int (nI d)), (4, .int (nI j))]) hx hb d_M_many_30 rfl hl (by decide) rfl (fun ls hl => ?_)
      refine nr_iinc (k := 4) (lv' := [(4, .int (nI (j + 1))), (3, .int (nI (acc + 0))), (0, .ref a), (1, .int (nI p1)), (2, .int (nI d))]) hx hb d_M_many_31 hl rfl (by decide) rfl (fun ls hl => ?_)
      refine lv_goto (tgt := 5) hx hb d_M_many_34 (by decide) ?_
      exact ih_5 _ _ _ (by omega) (by rw [cnt, ← hacc, if_pos c_21]) (lv_sub hl [2, 3, 4, 1, 0] rfl)
    · refine nr_iconst hx hb 1 d_M_many_24 (by decide) ?_
      refine lv_goto (tgt := 29) hx hb d_M_many_25 (by decide) ?_
      refine nr_iadd hx hb d_M_many_29 ?_
      refine lv_istore_n (lv' := [(3, .int (nI (acc + 1))), (0, .ref a), (1, .int (nI p1)), (2, .int (nI d)), (4, .int (nI j))]) hx hb d_M_many_30 rfl hl (by decide) rfl (fun ls hl => ?_)
      refine nr_iinc (k := 4) (lv' := [(4, .int (nI (j + 1))), (3, .int (nI (acc + 1))), (0, .ref a), (1, .int (nI p1)), (2, .int (nI d))]) hx hb d_M_many_31 hl rfl (by decide) rfl (fun ls hl => ?_)
      refine lv_goto (tgt := 5) hx hb d_M_many_34 (by decide) ?_
      exact ih_5 _ _ _ (by omega) (by rw [cnt, ← hacc, if_neg (by omega)]) (lv_sub hl [2, 3, 4, 1, 0] rfl)
set_option maxHeartbeats 4000000 in
set_option maxRecDepth 100000 in
theorem c_M_isMet (l : Launch) (D : va_G) (am : Nat → Nat) (cm : Nat → ClassId) (P G X : Nat → Nat → Nat) (a : Nat) (cS : ClassId) (sh : Nat → Nat) (hP0 : okP P) (hG0 : okG G) (hX0 : okX X) (hsh : ∀ k, sh k ≤ 3) (d sf : Nat) (hd : d < 7) (hs : sf < 4) : Met l y_M_isMet w_M_isMet { frames := 0, cells := 0, slots := 0, locals := 0 } (ro_P [.ref (am 0), .ref a, .int (nI d), .int (nI sf)] D (wMS am cm P G X a cS sh) (tMS cm cS)) (vp_Si (fun r => r = nI (if meets P sh d sf = true then 1 else 0))) 0 0 (fun _ => False) := by
  refine Met.ofW (cc := b_M_isMet) (maxL := 7) (ret := (some .boolean)) (by decide) rfl ?_
  intro p e s m args below meth c s₁ B hml hv
  obtain ⟨rfl, hN, hP, hK⟩ := hv
  have hx := B.exec
  have hb := B.bytes
  have hr := B.returns
  have hts := atoms_spec (ws := w_M_isMet) B.pre
  have htb : ∀ w ∈ TBG, w.before [.ref (am 0), .ref a, .int (nI d), .int (nI sf)].toArray s = true := fun w h => hts w (List.mem_cons_of_mem _ h)
  have hown : s.vm.findClass R_M = some m.cls := findClass_of_methodNamed B.named
  have hlocks := B.notSynchronized
  have hl := lv_entry ([.ref (am 0), .ref a, .int (nI d), .int (nI sf)]) (n := 7) (Nat.le_of_ble_eq_true rfl)
  rw [lg_entry_eq]
  generalize (lg_sl ([.ref (am 0), .ref a, .int (nI d), .int (nI sf)]) ++ List.replicate (7 - (lg_sl ([.ref (am 0), .ref a, .int (nI d), .int (nI sf)])).length) Slot.unset).toArray = ls at hl ⊢
  have hl : lv_has ls 7 [(0, .ref (am 0)), (1, .ref a), (2, .int (nI d)), (3, .int (nI sf))] := hl
  obtain ⟨h00, h01, h02, h03, h04, h05, hp1, hp2, hp3, hp4, hp5, hp6⟩ := id hP0
  obtain ⟨k00, k01, hg1, hg2⟩ := id hG0
  obtain ⟨x00, x01, x02, x03, hx1, hx2, hx3, hx4, hx5, hx6, hx7⟩ := id hX0
  refine nr_iconst hx hb 0 d_M_isMet_0 (by decide) ?_
  refine lv_istore (lv' := [(4, .int (nI 0)), (0, .ref (am 0)), (1, .ref a), (2, .int (nI d)), (3, .int (nI sf))]) hx hb d_M_isMet_1 hl (by decide) rfl (fun ls hl => ?_)
  refine nr_iconst hx hb 0 d_M_isMet_3 (by decide) ?_
  refine lv_istore (lv' := [(5, .int (nI 0)), (4, .int (nI 0)), (0, .ref (am 0)), (1, .ref a), (2, .int (nI d)), (3, .int (nI sf))]) hx hb d_M_isMet_4 hl (by decide) rfl (fun ls hl => ?_)
  refine nr_iconst hx hb 0 d_M_isMet_6 (by decide) ?_
  refine lv_istore (lv' := [(6, .int (nI 0)), (5, .int (nI 0)), (4, .int (nI 0)), (0, .ref (am 0)), (1, .ref a), (2, .int (nI d)), (3, .int (nI sf))]) hx hb d_M_isMet_7 hl (by decide) rfl (fun ls hl => ?_)
  replace hl : ∃ k i th sk : Nat, (i + k = P 0 0) ∧ (th ≤ i) ∧ (sk < 16) ∧ (mt P sh d sf k i th sk = mt P sh d sf (P 0 0) 0 0 0) ∧ lv_has ls 7 [(0, .ref (am 0)), (1, .ref a), (2, .int (nI d)), (3, .int (nI sf)), (4, .int (nI th)), (5, .int (nI sk)), (6, .int (nI i))] := ⟨P 0 0, 0, 0, 0, Nat.zero_add _, Nat.le_refl 0, by decide, rfl, lv_sub hl [3, 4, 5, 6, 2, 1, 0] rfl⟩
  obtain ⟨k, i, th, sk, hk, hth, hsk, hres, hl⟩ := hl
  induction k generalizing i th sk ls with
  | zero =>
    refine lv_iload hx hb d_M_isMet_9 (lv_at hl 6 rfl) ?_
    refine lv_aload_n hx hb d_M_isMet_11 rfl (lv_at hl 0 rfl) ?_
    refine va_get (D := D) (ci := 3) (v := .int (nI (P 0 0))) (C := R_M) (T := F_M) (N := 26) hx hb htb u_M hown hK hP 0 rfl rfl 1 (by decide) (htb _ q580) (fun _ h9 => h9) rfl d_M_isMet_12 ?_
    refine nr_icmp_ge (tgt := 52) hx hb (by omega) (by omega) d_M_isMet_15 (by decide) (fun c_15 => ?_) (fun c_15 => by exfalso; omega)
    rw [mt] at hres
    have hr1 : (mt P sh d sf (P 0 0) 0 0 0).1 = th := by rw [← hres]
    have hr2 : (mt P sh d sf (P 0 0) 0 0 0).2 = sk := by rw [← hres]
    refine lv_iload hx hb d_M_isMet_52 (lv_at hl 4 rfl) ?_
    refine lv_aload_n hx hb d_M_isMet_54 rfl (lv_at hl 0 rfl) ?_
    refine va_get (D := D) (ci := 3) (v := .ref (am 7)) (C := R_M) (T := F_M) (N := 26) hx hb htb u_M hown hK hP 0 rfl rfl 11 (by decide) (htb _ q590) (fun _ h9 => h9) rfl d_M_isMet_55 ?_
    refine nr_iconst hx hb 4 d_M_isMet_58 (by decide) ?_
    refine lv_iload_n hx hb d_M_isMet_59 rfl (lv_at hl 2 rfl) ?_
    refine nr_imul hx hb d_M_isMet_60 ?_
    refine nr_top (y := nI (d * 4)) (congrArg nI (Nat.mul_comm _ _)) ?_
    refine lv_iload_n hx hb d_M_isMet_61 rfl (lv_at hl 3 rfl) ?_
    refine nr_iadd hx hb d_M_isMet_62 ?_
    refine nr_iald hx hb hK hP 7 6 rfl rfl (by omega) (by decide) d_M_isMet_63 ?_
    have hv_1 := hp3 ((d * 4) + sf)
    refine nr_icmp_lt (tgt := 97) hx hb (by omega) (by omega) d_M_isMet_64 (by decide) (fun c_64 => ?_) (fun c_64 => ?_)
    · refine nr_iconst hx hb 0 d_M_isMet_97 (by decide) ?_
      exact W.zret (v := (nI 0)) hx hb hr rfl (fun t ht hW => ⟨_, rfl, by unfold meets; rw [hr1, hr2, if_neg (by simp; omega)], ht⟩) (fun q h => by cases h) d_M_isMet_98
    · refine lv_iload hx hb d_M_isMet_67 (lv_at hl 5 rfl) ?_
      refine lv_aload_n hx hb d_M_isMet_69 rfl (lv_at hl 0 rfl) ?_
      refine va_get (D := D) (ci := 3) (v := .ref (am 8)) (C := R_M) (T := F_M) (N := 26) hx hb htb u_M hown hK hP 0 rfl rfl 12 (by decide) (htb _ q591) (fun _ h9 => h9) rfl d_M_isMet_70 ?_
      refine nr_iconst hx hb 4 d_M_isMet_73 (by decide) ?_
      refine lv_iload_n hx hb d_M_isMet_74 rfl (lv_at hl 2 rfl) ?_
      refine nr_imul hx hb d_M_isMet_75 ?_
      refine nr_top (y := nI (d * 4)) (congrArg nI (Nat.mul_comm _ _)) ?_
      refine lv_iload_n hx hb d_M_isMet_76 rfl (lv_at hl 3 rfl) ?_
      refine nr_iadd hx hb d_M_isMet_77 ?_
      refine nr_iald hx hb hK hP 8 7 rfl rfl (by omega) (by decide) d_M_isMet_78 ?_
      have hv_2 := hp4 ((d * 4) + sf)
      refine nr_iand hx hb d_M_isMet_79 ?_
      refine lv_aload_n hx hb d_M_isMet_80 rfl (lv_at hl 0 rfl) ?_
      refine va_get (D := D) (ci := 3) (v := .ref (am 8)) (C := R_M) (T := F_M) (N := 26) hx hb htb u_M hown hK hP 0 rfl rfl 12 (by decide) (htb _ q591) (fun _ h9 => h9) rfl d_M_isMet_81 ?_
      refine nr_iconst hx hb 4 d_M_isMet_84 (by decide) ?_
      refine lv_iload_n hx hb d_M_isMet_85 rfl (lv_at hl 2 rfl) ?_
      refine nr_imul hx hb d_M_isMet_86 ?_
      refine nr_top (y := nI (d * 4)) (congrArg nI (Nat.mul_comm _ _)) ?_
      refine lv_iload_n hx hb d_M_isMet_87 rfl (lv_at hl 3 rfl) ?_
      refine nr_iadd hx hb d_M_isMet_88 ?_
      refine nr_iald hx hb hK hP 8 7 rfl rfl (by omega) (by decide) d_M_isMet_89 ?_
      have hv_3 := hp4 ((d * 4) + sf)
      refine nr_icmp_ne (tgt := 97) hx hb (Nat.lt_of_le_of_lt Nat.and_le_left (by omega)) (by omega) d_M_isMet_90 (by decide) (fun c_90 => ?_) (fun c_90 => ?_)
      · refine nr_iconst hx hb 0 d_M_isMet_97 (by decide) ?_
        exact W.zret (v := (nI 0)) hx hb hr rfl (fun t ht hW => ⟨_, rfl, by unfold meets; rw [hr1, hr2, if_neg (by simp; omega)], ht⟩) (fun q h => by cases h) d_M_isMet_98
      · refine nr_iconst hx hb 1 d_M_isMet_93 (by decide) ?_
        refine lv_goto (tgt := 98) hx hb d_M_isMet_94 (by decide) ?_
        exact W.zret (v := (nI 1)) hx hb hr rfl (fun t ht hW => ⟨_, rfl, by unfold meets; rw [hr1, hr2, if_pos (by simp; omega)], ht⟩) (fun q h => by cases h) d_M_isMet_98
  | succ k ih_9 =>
    refine lv_iload hx hb d_M_isMet_9 (lv_at hl 6 rfl) ?_
    refine lv_aload_n hx hb d_M_isMet_11 rfl (lv_at hl 0 rfl) ?_
    refine va_get (D := D) (ci := 3) (v := .int (nI (P 0 0))) (C := R_M) (T := F_M) (N := 26) hx hb htb u_M hown hK hP 0 rfl rfl 1 (by decide) (htb _ q580) (fun _ h9 => h9) rfl d_M_isMet_12 ?_
    refine nr_icmp_ge (tgt := 52) hx hb (by omega) (by omega) d_M_isMet_15 (by decide) (fun c_15 => by exfalso; omega) (fun c_15 => ?_)
    refine lv_aload_n hx hb d_M_isMet_18 rfl (lv_at hl 1 rfl) ?_
    refine nr_bipush hx hb 6 d_M_isMet_19 (by decide) ?_
    refine lv_iload_n hx hb d_M_isMet_21 rfl (lv_at hl 2 rfl) ?_
    refine nr_imul hx hb d_M_isMet_22 ?_
    refine nr_top (y := nI (d * 6)) (congrArg nI (Nat.mul_comm _ _)) ?_
    refine lv_iload hx hb d_M_isMet_23 (lv_at hl 6 rfl) ?_
    refine nr_iadd hx hb d_M_isMet_25 ?_
    refine nr_iald hx hb hK hP 15 14 rfl rfl (by omega) (by decide) d_M_isMet_26 ?_
    have hv_4 := hsh ((d * 6) + i)
    refine lv_iload_n hx hb d_M_isMet_27 rfl (lv_at hl 3 rfl) ?_
    refine nr_icmp_ne (tgt := 46) hx hb (by omega) (by omega) d_M_isMet_28 (by decide) (fun c_28 => ?_) (fun c_28 => ?_)
    · refine nr_iinc (k := 6) (lv' := [(6, .int (nI (i + 1))), (0, .ref (am 0)), (1, .ref a), (2, .int (nI d)), (3, .int (nI sf)), (4, .int (nI th)), (5, .int (nI sk))]) hx hb d_M_isMet_46 hl rfl (by decide) rfl (fun ls hl => ?_)
      refine lv_goto (tgt := 9) hx hb d_M_isMet_49 (by decide) ?_
      exact ih_9 _ _ _ _ (by omega) (by omega) hsk (by rw [← hres, mt, if_neg c_28]) (lv_sub hl [1, 2, 3, 4, 5, 6, 0] rfl)
    · refine nr_iinc (k := 4) (lv' := [(4, .int (nI (th + 1))), (0, .ref (am 0)), (1, .ref a), (2, .int (nI d)), (3, .int (nI sf)), (5, .int (nI sk)), (6, .int (nI i))]) hx hb d_M_isMet_31 hl rfl (by decide) rfl (fun ls hl => ?_)
      refine lv_iload hx hb d_M_isMet_34 (lv_at hl 5 rfl) ?_
      refine lv_aload_n hx hb d_M_isMet_36 rfl (lv_at hl 1 rfl) ?_
      refine va_get (D := D) (ci := 3) (v := .ref (am 1)) (C := R_M) (T := F_M) (N := 26) hx hb htb u_M hown hK hP 0 rfl rfl 4 (by decide) (htb _ q583) (fun _ h9 => h9) rfl d_M_isMet_37 ?_
      refine lv_iload hx hb d_M_isMet_40 (lv_at hl 6 rfl) ?_
      refine nr_iald hx hb hK hP 1 0 rfl rfl (by omega) (by decide) d_M_isMet_42 ?_
      have hv_5 := hp1 i
      refine nr_ior hx hb d_M_isMet_43 ?_
      refine lv_istore (lv' := [(5, .int (nI (sk ||| (P 1 i)))), (4, .int (nI (th + 1))), (0, .ref (am 0)), (1, .ref a), (2, .int (nI d)), (3, .int (nI sf)), (6, .int (nI i))]) hx hb d_M_isMet_44 hl (by decide) rfl (fun ls hl => ?_)
      refine nr_iinc (k := 6) (lv' := [(6, .int (nI (i + 1))), (5, .int (nI (sk ||| (P 1 i)))), (4, .int (nI (th + 1))), (0, .ref (am 0)), (1, .ref a), (2, .int (nI d)), (3, .int (nI sf))]) hx hb d_M_isMet_46 hl rfl (by decide) rfl (fun ls hl => ?_)
      refine lv_goto (tgt := 9) hx hb d_M_isMet_49 (by decide) ?_
      exact ih_9 _ _ _ _ (by omega) (by omega) (mt_lt hsk (hp1 i)) (by rw [← hres, mt, if_pos c_28]) (lv_sub hl [3, 4, 5, 6, 2, 1, 0] rfl)
set_option maxHeartbeats 4000000 in
set_option maxRecDepth 100000 in
theorem c_M_areMet (l : Launch) (D : va_G) (am : Nat → Nat) (cm : Nat → ClassId) (P G X : Nat → Nat → Nat) (a : Nat) (cS : ClassId) (sh : Nat → Nat) (hP0 : okP P) (hG0 : okG G) (hX0 : okX X) (hsh : ∀ k, sh k ≤ 3) (d : Nat) (hd : d < 7) : Met l y_M_areMet w_M_areMet { frames := 1, cells := 0, slots := 0, locals := 26 } (ro_P [.ref (am 0), .ref a, .int (nI d)] D (wMS am cm P G X a cS sh) (tMS cm cS)) (vp_Si (fun r => r = nI (if needUnmet P sh d = 0 then 1 else 0))) 0 0 (fun _ => False) := by
  refine Met.ofW (cc := b_M_areMet) (maxL := 3) (ret := (some .boolean)) (by decide) rfl ?_
  intro p e s m args below meth c s₁ B hml hv
  obtain ⟨rfl, hN, hP, hK⟩ := hv
  have hx := B.exec
  have hb := B.bytes
  have hr := B.returns
  have hts := atoms_spec (ws := w_M_areMet) B.pre
  have htb : ∀ w ∈ TBG, w.before [.ref (am 0), .ref a, .int (nI d)].toArray s = true := fun w h => hts w (List.mem_cons_of_mem _ h)
  have hown : s.vm.findClass R_M = some m.cls := findClass_of_methodNamed B.named
  have hlocks := B.notSynchronized
  have hl := lv_entry ([.ref (am 0), .ref a, .int (nI d)]) (n := 3) (Nat.le_of_ble_eq_true rfl)
  rw [lg_entry_eq]
  generalize (lg_sl ([.ref (am 0), .ref a, .int (nI d)]) ++ List.replicate (3 - (lg_sl ([.ref (am 0), .ref a, .int (nI d)])).length) Slot.unset).toArray = ls at hl ⊢
  have hl : lv_has ls 3 [(0, .ref (am 0)), (1, .ref a), (2, .int (nI d))] := hl
  obtain ⟨h00, h01, h02, h03, h04, h05, hp1, hp2, hp3, hp4, hp5, hp6⟩ := id hP0
  obtain ⟨k00, k01, hg1, hg2⟩ := id hG0
  obtain ⟨x00, x01, x02, x03, hx1, hx2, hx3, hx4, hx5, hx6, hx7⟩ := id hX0
  refine lv_aload_n hx hb d_M_areMet_0 rfl (lv_at hl 0 rfl) ?_
  refine lv_aload_n hx hb d_M_areMet_1 rfl (lv_at hl 1 rfl) ?_
  refine lv_iload_n hx hb d_M_areMet_2 rfl (lv_at hl 2 rfl) ?_
  refine nr_iconst hx hb 1 d_M_areMet_3 (by decide) ?_
  refine nr_calli (va_runV (As := [.ref a, .int (nI d), .int (nI 1)]) (rest := []) ⟨hx, hb, hml, hown, hts⟩ (c_M_isMet l D am cm P G X a cS sh hP0 hG0 hX0 hsh d 1 (by omega) (by omega)) ⟨callB_of 3 hts (gTB q_M_isMet) rfl rfl rfl (htb _ q4) (htb _ q717) hd_M_isMet ⟨Nat.le_of_ble_eq_true rfl, Nat.le_of_ble_eq_true rfl⟩, (htb _ q719), (htb _ sel_M_isMet)⟩ ⟨ro_blind, va_recv (hK.sub (tys' := []) [] rfl) hP (ci := 3) (q0 := 0) rfl rfl, ro_pre hN (hP.sub (ws' := (wMS am cm P G X a cS sh)) [0, 1, 2, 3, 4, 5, 6, 7, 8, 9, 10, 11, 12, 13, 14, 15] rfl) (hK.sub (tys' := (tMS cm cS)) [0, 1, 2, 3, 4, 5, 6, 7, 8, 9, 10, 11, 12, 13, 14] rfl)⟩ rfl rfl hl.1 rfl (lv_room (Nat.le_of_ble_eq_true rfl)) d_M_areMet_4 ⟨Nat.le_of_ble_eq_true rfl, Nat.le_of_ble_eq_true rfl⟩) (fun r_1 hr_1 => ?_)
  subst hr_1
  refine nr_if_eq (tgt := 34) hx hb b01_lt d_M_areMet_7 (by decide) (fun c_7 => ?_) (fun c_7 => ?_)
  · refine nr_iconst hx hb 0 d_M_areMet_34 (by decide) ?_
    exact W.zret (v := (nI 0)) hx hb hr rfl (fun t ht hW => ⟨_, rfl, by rw [if_neg (show ¬ needUnmet P sh d = 0 by simp [needUnmet, nu, b01_f c_7])], ht⟩) (fun q h => by cases h) d_M_areMet_35
  · refine lv_aload_n hx hb d_M_areMet_10 rfl (lv_at hl 0 rfl) ?_
    refine lv_aload_n hx hb d_M_areMet_11 rfl (lv_at hl 1 rfl) ?_
    refine lv_iload_n hx hb d_M_areMet_12 rfl (lv_at hl 2 rfl) ?_
    refine nr_iconst hx hb 2 d_M_areMet_13 (by decide) ?_
    refine nr_calli (va_runV (As := [.ref a, .int (nI d), .int (nI 2)]) (rest := []) ⟨hx, hb, hml, hown, hts⟩ (c_M_isMet l D am cm P G X a cS sh hP0 hG0 hX0 hsh d 2 (by omega) (by omega)) ⟨callB_of 3 hts (gTB q_M_isMet) rfl rfl rfl (htb _ q4) (htb _ q717) hd_M_isMet ⟨Nat.le_of_ble_eq_true rfl, Nat.le_of_ble_eq_true rfl⟩, (htb _ q719), (htb _ sel_M_isMet)⟩ ⟨ro_blind, va_recv (hK.sub (tys' := []) [] rfl) hP (ci := 3) (q0 := 0) rfl rfl, ro_pre hN (hP.sub (ws' := (wMS am cm P G X a cS sh)) [0, 1, 2, 3, 4, 5, 6, 7, 8, 9, 10, 11, 12, 13, 14, 15] rfl) (hK.sub (tys' := (tMS cm cS)) [0, 1, 2, 3, 4, 5, 6, 7, 8, 9, 10, 11, 12, 13, 14] rfl)⟩ rfl rfl hl.1 rfl (lv_room (Nat.le_of_ble_eq_true rfl)) d_M_areMet_14 ⟨Nat.le_of_ble_eq_true rfl, Nat.le_of_ble_eq_true rfl⟩) (fun r_2 hr_2 => ?_)
    subst hr_2
    refine nr_if_eq (tgt := 34) hx hb b01_lt d_M_areMet_17 (by decide) (fun c_17 => ?_) (fun c_17 => ?_)
    · refine nr_iconst hx hb 0 d_M_areMet_34 (by decide) ?_
      exact W.zret (v := (nI 0)) hx hb hr rfl (fun t ht hW => ⟨_, rfl, by rw [if_neg (show ¬ needUnmet P sh d = 0 by simp [needUnmet, nu, b01_nz c_7, b01_f c_17])], ht⟩) (fun q h => by cases h) d_M_areMet_35
    · refine lv_aload_n hx hb d_M_areMet_20 rfl (lv_at hl 0 rfl) ?_
      refine lv_aload_n hx hb d_M_areMet_21 rfl (lv_at hl 1 rfl) ?_
      refine lv_iload_n hx hb d_M_areMet_22 rfl (lv_at hl 2 rfl) ?_
      refine nr_iconst hx hb 3 d_M_areMet_23 (by decide) ?_
      refine nr_calli (va_runV (As := [.ref a, .int (nI d), .int (nI 3)]) (rest := []) ⟨hx, hb, hml, hown, hts⟩ (c_M_isMet l D am cm P G X a cS sh hP0 hG0 hX0 hsh d 3 (by omega) (by omega)) ⟨callB_of 3 hts (gTB q_M_isMet) rfl rfl rfl (htb _ q4) (htb _ q717) hd_M_isMet ⟨Nat.le_of_ble_eq_true rfl, Nat.le_of_ble_eq_true rfl⟩, (htb _ q719), (htb _ sel_M_isMet)⟩ ⟨ro_blind, va_recv (hK.sub (tys' := []) [] rfl) hP (ci := 3) (q0 := 0) rfl rfl, ro_pre hN (hP.sub (ws' := (wMS am cm P G X a cS sh)) [0, 1, 2, 3, 4, 5, 6, 7, 8, 9, 10, 11, 12, 13, 14, 15] rfl) (hK.sub (tys' := (tMS cm cS)) [0, 1, 2, 3, 4, 5, 6, 7, 8, 9, 10, 11, 12, 13, 14] rfl)⟩ rfl rfl hl.1 rfl (lv_room (Nat.le_of_ble_eq_true rfl)) d_M_areMet_24 ⟨Nat.le_of_ble_eq_true rfl, Nat.le_of_ble_eq_true rfl⟩) (fun r_3 hr_3 => ?_)
      subst hr_3
      refine nr_if_eq (tgt := 34) hx hb b01_lt d_M_areMet_27 (by decide) (fun c_27 => ?_) (fun c_27 => ?_)
      · refine nr_iconst hx hb 0 d_M_areMet_34 (by decide) ?_
        exact W.zret (v := (nI 0)) hx hb hr rfl (fun t ht hW => ⟨_, rfl, by rw [if_neg (show ¬ needUnmet P sh d = 0 by simp [needUnmet, nu, b01_nz c_7, b01_nz c_17, b01_f c_27])], ht⟩) (fun q h => by cases h) d_M_areMet_35
      · refine nr_iconst hx hb 1 d_M_areMet_30 (by decide) ?_
        refine lv_goto (tgt := 35) hx hb d_M_areMet_31 (by decide) ?_
        exact W.zret (v := (nI 1)) hx hb hr rfl (fun t ht hW => ⟨_, rfl, by rw [if_pos (show needUnmet P sh d = 0 by simp [needUnmet, nu, b01_nz c_7, b01_nz c_17, b01_nz c_27])], ht⟩) (fun q h => by cases h) d_M_areMet_35
set_option maxHeartbeats 4000000 in
set_option maxRecDepth 100000 in
theorem c_M_unmetTo (l : Launch) (D : va_G) (am : Nat → Nat) (cm : Nat → ClassId) (P G X : Nat → Nat → Nat) (a : Nat) (cS : ClassId) (sh : Nat → Nat) (hP0 : okP P) (hG0 : okG G) (hX0 : okX X) (hsh : ∀ k, sh k ≤ 3) (pl : Nat) (hpl : pl < 1000) : Met l y_M_unmetTo w_M_unmetTo { frames := 0, cells := 0, slots := 0, locals := 0 } (ro_P [.ref (am 0), .ref a, .int (nI pl)] D (wMS am cm P G X a cS sh) (tMS cm cS)) (vp_Si (fun r => r = nI (utM P X sh pl))) 0 0 (fun _ => False) := by
  refine Met.ofW (cc := b_M_unmetTo) (maxL := 6) (ret := (some .int)) (by decide) rfl ?_
  intro p e s m args below meth c s₁ B hml hv
  obtain ⟨rfl, hN, hP, hK⟩ := hv
  have hx := B.exec
  have hb := B.bytes
  have hr := B.returns
  have hts := atoms_spec (ws := w_M_unmetTo) B.pre
  have htb : ∀ w ∈ TBG, w.before [.ref (am 0), .ref a, .int (nI pl)].toArray s = true := fun w h => hts w (List.mem_cons_of_mem _ h)
  have hown : s.vm.findClass R_M = some m.cls := findClass_of_methodNamed B.named
  have hlocks := B.notSynchronized
  have hl := lv_entry ([.ref (am 0), .ref a, .int (nI pl)]) (n := 6) (Nat.le_of_ble_eq_true rfl)
  rw [lg_entry_eq]
  generalize (lg_sl ([.ref (am 0), .ref a, .int (nI pl)]) ++ List.replicate (6 - (lg_sl ([.ref (am 0), .ref a, .int (nI pl)])).length) Slot.unset).toArray = ls at hl ⊢
  have hl : lv_has ls 6 [(0, .ref (am 0)), (1, .ref a), (2, .int (nI pl))] := hl
  obtain ⟨h00, h01, h02, h03, h04, h05, hp1, hp2, hp3, hp4, hp5, hp6⟩ := id hP0
  obtain ⟨k00, k01, hg1, hg2⟩ := id hG0
  obtain ⟨x00, x01, x02, x03, hx1, hx2, hx3, hx4, hx5, hx6, hx7⟩ := id hX0
  refine nr_iconst hx hb 0 d_M_unmetTo_0 (by decide) ?_
  refine lv_istore_n (lv' := [(3, .int (nI 0)), (0, .ref (am 0)), (1, .ref a), (2, .int (nI pl))]) hx hb d_M_unmetTo_1 rfl hl (by decide) rfl (fun ls hl => ?_)
  refine nr_iconst hx hb 0 d_M_unmetTo_2 (by decide) ?_
  refine lv_istore (lv' := [(4, .int (nI 0)), (3, .int (nI 0)), (0, .ref (am 0)), (1, .ref a), (2, .int (nI pl))]) hx hb d_M_unmetTo_3 hl (by decide) rfl (fun ls hl => ?_)
  replace hl : ∃ k w acc : Nat, (w + k = P 0 5) ∧ (utl P X sh pl k w acc = utM P X sh pl) ∧ lv_has ls 6 [(0, .ref (am 0)), (1, .ref a), (2, .int (nI pl)), (3, .int (nI acc)), (4, .int (nI w))] := ⟨P 0 5, 0, 0, Nat.zero_add _, rfl, lv_sub hl [2, 3, 4, 1, 0] rfl⟩
  obtain ⟨k, w, acc, hk, hres, hl⟩ := hl
  induction k generalizing w acc ls with
  | zero =>
    refine lv_iload hx hb d_M_unmetTo_5 (lv_at hl 4 rfl) ?_
    refine lv_aload_n hx hb d_M_unmetTo_7 rfl (lv_at hl 0 rfl) ?_
    refine va_get (D := D) (ci := 3) (v := .int (nI (P 0 5))) (C := R_M) (T := F_M) (N := 26) hx hb htb u_M hown hK hP 0 rfl rfl 17 (by decide) (htb _ q596) (fun _ h9 => h9) rfl d_M_unmetTo_8 ?_
    refine nr_icmp_ge (tgt := 107) hx hb (by omega) (by omega) d_M_unmetTo_11 (by decide) (fun c_11 => ?_) (fun c_11 => by exfalso; omega)
    refine lv_iload_n hx hb d_M_unmetTo_107 rfl (lv_at hl 3 rfl) ?_
    exact W.iret (v := (nI acc)) hx hb hr (fun t ht hW => ⟨_, rfl, by rw [← hres, utl], ht⟩) (fun q h => by cases h) d_M_unmetTo_108
  | succ k ih_5 =>
    refine lv_iload hx hb d_M_unmetTo_5 (lv_at hl 4 rfl) ?_
    refine lv_aload_n hx hb d_M_unmetTo_7 rfl (lv_at hl 0 rfl) ?_
    refine va_get (D := D) (ci := 3) (v := .int (nI (P 0 5))) (C := R_M) (T := F_M) (N := 26) hx hb htb u_M hown hK hP 0 rfl rfl 17 (by decide) (htb _ q596) (fun _ h9 => h9) rfl d_M_unmetTo_8 ?_
    refine nr_icmp_ge (tgt := 107) hx hb (by omega) (by omega) d_M_unmetTo_11 (by decide) (fun c_11 => by exfalso; omega) (fun c_11 => ?_)
    refine lv_aload_n hx hb d_M_unmetTo_14 rfl (lv_at hl 1 rfl) ?_
    refine nr_bipush hx hb 6 d_M_unmetTo_15 (by decide) ?_
    refine lv_aload_n hx hb d_M_unmetTo_17 rfl (lv_at hl 0 rfl) ?_
    refine va_get (D := D) (ci := 3) (v := .ref (am 11)) (C := R_M) (T := F_M) (N := 26) hx hb htb u_M hown hK hP 0 rfl rfl 19 (by decide) (htb _ q598) (fun _ h9 => h9) rfl d_M_unmetTo_18 ?_
    refine lv_iload hx hb d_M_unmetTo_21 (lv_at hl 4 rfl) ?_
    refine nr_iald hx hb hK hP 11 10 rfl rfl (by omega) (by decide) d_M_unmetTo_23 ?_
    have hv_1 := hx4 w
    refine nr_imul hx hb d_M_unmetTo_24 ?_
    refine nr_top (y := nI ((X 4 w) * 6)) (congrArg nI (Nat.mul_comm _ _)) ?_
    refine lv_aload_n hx hb d_M_unmetTo_25 rfl (lv_at hl 0 rfl) ?_
    refine va_get (D := D) (ci := 3) (v := .ref (am 10)) (C := R_M) (T := F_M) (N := 26) hx hb htb u_M hown hK hP 0 rfl rfl 18 (by decide) (htb _ q597) (fun _ h9 => h9) rfl d_M_unmetTo_26 ?_
    refine lv_iload hx hb d_M_unmetTo_29 (lv_at hl 4 rfl) ?_
    refine nr_iald hx hb hK hP 10 9 rfl rfl (by omega) (by decide) d_M_unmetTo_31 ?_
    have hv_2 := hx3 w
    refine nr_iadd hx hb d_M_unmetTo_32 ?_
    refine nr_iald hx hb hK hP 15 14 rfl rfl (by omega) (by decide) d_M_unmetTo_33 ?_
    have hv_3 := hsh (((X 4 w) * 6) + (X 3 w))
    refine lv_aload_n hx hb d_M_unmetTo_34 rfl (lv_at hl 0 rfl) ?_
    refine va_get (D := D) (ci := 3) (v := .ref (am 12)) (C := R_M) (T := F_M) (N := 26) hx hb htb u_M hown hK hP 0 rfl rfl 20 (by decide) (htb _ q599) (fun _ h9 => h9) rfl d_M_unmetTo_35 ?_
    refine lv_iload hx hb d_M_unmetTo_38 (lv_at hl 4 rfl) ?_
    refine nr_iald hx hb hK hP 12 11 rfl rfl (by omega) (by decide) d_M_unmetTo_40 ?_
    have hv_4 := hx5 w
    refine nr_icmp_ne (tgt := 48) hx hb (by omega) (by omega) d_M_unmetTo_41 (by decide) (fun c_41 => ?_) (fun c_41 => ?_)
    · refine nr_iconst hx hb 0 d_M_unmetTo_48 (by decide) ?_
      refine lv_istore (lv' := [(5, .int (nI 0)), (0, .ref (am 0)), (1, .ref a), (2, .int (nI pl)), (3, .int (nI acc)), (4, .int (nI w))]) hx hb d_M_unmetTo_49 hl (by decide) rfl (fun ls hl => ?_)
      refine lv_iload_n hx hb d_M_unmetTo_51 rfl (lv_at hl 4 rfl) ?_
      refine lv_aload_n hx hb d_M_unmetTo_52 rfl (lv_at hl 1 rfl) ?_
      refine va_get (D := D) (ci := 3) (v := .ref (am 11)) (C := R_M) (T := F_M) (N := 26) hx hb htb u_M hown hK hP 0 rfl rfl 19 (by decide) (htb _ q598) (fun _ h9 => h9) rfl d_M_unmetTo_53 ?_
      refine lv_iload hx hb d_M_unmetTo_56 (lv_at hl 5 rfl) ?_
      refine nr_iald hx hb hK hP 11 10 rfl rfl (by omega) (by decide) d_M_unmetTo_58 ?_
      have hv_5 := hx4 w
      refine lv_aload_n hx hb d_M_unmetTo_59 rfl (lv_at hl 1 rfl) ?_
      refine va_get (D := D) (ci := 3) (v := .int (nI (P 0 0))) (C := R_M) (T := F_M) (N := 26) hx hb htb u_M hown hK hP 0 rfl rfl 1 (by decide) (htb _ q580) (fun _ h9 => h9) rfl d_M_unmetTo_60 ?_
      refine nr_imul hx hb d_M_unmetTo_63 ?_
      refine lv_aload_n hx hb d_M_unmetTo_64 rfl (lv_at hl 1 rfl) ?_
      refine va_get (D := D) (ci := 3) (v := .ref (am 10)) (C := R_M) (T := F_M) (N := 26) hx hb htb u_M hown hK hP 0 rfl rfl 18 (by decide) (htb _ q597) (fun _ h9 => h9) rfl d_M_unmetTo_65 ?_
      refine lv_iload hx hb d_M_unmetTo_68 (lv_at hl 5 rfl) ?_
      refine nr_iald hx hb hK hP 10 9 rfl rfl (by omega) (by decide) d_M_unmetTo_70 ?_
      have hv_6 := hx3 w
      refine nr_iadd hx hb d_M_unmetTo_71 ?_
      have hmul : X 4 w * P 0 0 ≤ 6 * 6 := Nat.mul_le_mul (hx4 w) h00
      refine lv_iload_n hx hb d_M_unmetTo_72 rfl (lv_at hl 3 rfl) ?_
      refine nr_icmp_gt (tgt := 98) hx hb (by omega) (by omega) d_M_unmetTo_73 (by decide) (fun c_73 => ?_) (fun c_73 => ?_)
      · refine nr_iconst hx hb 0 d_M_unmetTo_98 (by decide) ?_
        refine nr_iadd hx hb d_M_unmetTo_99 ?_
        refine lv_istore_n (lv' := [(3, .int (nI (acc + 0))), (5, .int (nI 0)), (0, .ref (am 0)), (1, .ref a), (2, .int (nI pl)), (4, .int (nI w))]) hx hb d_M_unmetTo_100 rfl hl (by decide) rfl (fun ls hl => ?_)
        refine nr_iinc (k := 5) (lv' := [(4, .int (nI (w + 1))), (3, .int (nI (acc + 0))), (5, .int (nI 0)), (0, .ref (am 0)), (1, .ref a), (2, .int (nI pl))]) hx hb d_M_unmetTo_101 hl rfl (by decide) rfl (fun ls hl => ?_)
        refine lv_goto (tgt := 5) hx hb d_M_unmetTo_104 (by decide) ?_
        exact ih_5 _ _ _ (by omega) (by rw [← hres, utl, if_neg (fun h => absurd h.1 (by omega))]) (lv_sub hl [3, 4, 5, 1, 0] rfl)
      · refine lv_iload hx hb d_M_unmetTo_76 (lv_at hl 0 rfl) ?_
        refine lv_aload_n hx hb d_M_unmetTo_78 rfl (lv_at hl 1 rfl) ?_
        refine va_get (D := D) (ci := 3) (v := .ref (am 13)) (C := R_M) (T := F_M) (N := 26) hx hb htb u_M hown hK hP 0 rfl rfl 21 (by decide) (htb _ q600) (fun _ h9 => h9) rfl d_M_unmetTo_79 ?_
        refine lv_iload hx hb d_M_unmetTo_82 (lv_at hl 5 rfl) ?_
        refine nr_zald hx hb hK hP 13 12 rfl rfl (by omega) (by decide) d_M_unmetTo_84 ?_
        have hv_7 := hx6 w
        refine nr_icmp_eq (tgt := 98) hx hb (by omega) (by omega) d_M_unmetTo_85 (by decide) (fun c_85 => ?_) (fun c_85 => ?_)
        · refine nr_iconst hx hb 0 d_M_unmetTo_98 (by decide) ?_
          refine nr_iadd hx hb d_M_unmetTo_99 ?_
          refine lv_istore_n (lv' := [(3, .int (nI (acc + 0))), (5, .int (nI 0)), (0, .ref (am 0)), (1, .ref a), (2, .int (nI pl)), (4, .int (nI w))]) hx hb d_M_unmetTo_100 rfl hl (by decide) rfl (fun ls hl => ?_)
          refine nr_iinc (k := 5) (lv' := [(4, .int (nI (w + 1))), (3, .int (nI (acc + 0))), (5, .int (nI 0)), (0, .ref (am 0)), (1, .ref a), (2, .int (nI pl))]) hx hb d_M_unmetTo_101 hl rfl (by decide) rfl (fun ls hl => ?_)
          refine lv_goto (tgt := 5) hx hb d_M_unmetTo_104 (by decide) ?_
          exact ih_5 _ _ _ (by omega) (by rw [← hres, utl, if_neg (fun h => h.2 (by rw [if_neg c_41]; exact c_85))]) (lv_sub hl [3, 4, 5, 1, 0] rfl)
        · refine lv_aload_n hx hb d_M_unmetTo_88 rfl (lv_at hl 1 rfl) ?_
          refine va_get (D := D) (ci := 3) (v := .ref (am 14)) (C := R_M) (T := F_M) (N := 26) hx hb htb u_M hown hK hP 0 rfl rfl 22 (by decide) (htb _ q601) (fun _ h9 => h9) rfl d_M_unmetTo_89 ?_
          refine lv_iload hx hb d_M_unmetTo_92 (lv_at hl 5 rfl) ?_
          refine nr_iald hx hb hK hP 14 13 rfl rfl (by omega) (by decide) d_M_unmetTo_94 ?_
          have hv_8 := hx7 w
          refine lv_goto (tgt := 99) hx hb d_M_unmetTo_95 (by decide) ?_
          refine nr_iadd hx hb d_M_unmetTo_99 ?_
          refine lv_istore_n (lv' := [(3, .int (nI (acc + (X 7 w)))), (5, .int (nI 0)), (0, .ref (am 0)), (1, .ref a), (2, .int (nI pl)), (4, .int (nI w))]) hx hb d_M_unmetTo_100 rfl hl (by decide) rfl (fun ls hl => ?_)
          refine nr_iinc (k := 5) (lv' := [(4, .int (nI (w + 1))), (3, .int (nI (acc + (X 7 w)))), (5, .int (nI 0)), (0, .ref (am 0)), (1, .ref a), (2, .int (nI pl))]) hx hb d_M_unmetTo_101 hl rfl (by decide) rfl (fun ls hl => ?_)
          refine lv_goto (tgt := 5) hx hb d_M_unmetTo_104 (by decide) ?_
          exact ih_5 _ _ _ (by omega) (by rw [← hres, utl, if_pos ⟨c_73, by rw [if_neg c_41]; exact c_85⟩]) (lv_sub hl [3, 4, 5, 1, 0] rfl)
    · refine nr_iconst hx hb 1 d_M_unmetTo_44 (by decide) ?_
      refine lv_goto (tgt := 49) hx hb d_M_unmetTo_45 (by decide) ?_
      refine lv_istore (lv' := [(5, .int (nI 1)), (0, .ref (am 0)), (1, .ref a), (2, .int (nI pl)), (3, .int (nI acc)), (4, .int (nI w))]) hx hb d_M_unmetTo_49 hl (by decide) rfl (fun ls hl => ?_)
      refine lv_iload_n hx hb d_M_unmetTo_51 rfl (lv_at hl 4 rfl) ?_
      refine lv_aload_n hx hb d_M_unmetTo_52 rfl (lv_at hl 1 rfl) ?_
      refine va_get (D := D) (ci := 3) (v := .ref (am 11)) (C := R_M) (T := F_M) (N := 26) hx hb htb u_M hown hK hP 0 rfl rfl 19 (by decide) (htb _ q598) (fun _ h9 => h9) rfl d_M_unmetTo_53 ?_
      refine lv_iload hx hb d_M_unmetTo_56 (lv_at hl 5 rfl) ?_
      refine nr_iald hx hb hK hP 11 10 rfl rfl (by omega) (by decide) d_M_unmetTo_58 ?_
      have hv_9 := hx4 w
      refine lv_aload_n hx hb d_M_unmetTo_59 rfl (lv_at hl 1 rfl) ?_
      refine va_get (D := D) (ci := 3) (v := .int (nI (P 0 0))) (C := R_M) (T := F_M) (N := 26) hx hb htb u_M hown hK hP 0 rfl rfl 1 (by decide) (htb _ q580) (fun _ h9 => h9) rfl d_M_unmetTo_60 ?_
      refine nr_imul hx hb d_M_unmetTo_63 ?_
      refine lv_aload_n hx hb d_M_unmetTo_64 rfl (lv_at hl 1 rfl) ?_
      refine va_get (D := D) (ci := 3) (v := .ref (am 10)) (C := R_M) (T := F_M) (N := 26) hx hb htb u_M hown hK hP 0 rfl rfl 18 (by decide) (htb _ q597) (fun _ h9 => h9) rfl d_M_unmetTo_65 ?_
      refine lv_iload hx hb d_M_unmetTo_68 (lv_at hl 5 rfl) ?_
      refine nr_iald hx hb hK hP 10 9 rfl rfl (by omega) (by decide) d_M_unmetTo_70 ?_
      have hv_10 := hx3 w
      refine nr_iadd hx hb d_M_unmetTo_71 ?_
      have hmul : X 4 w * P 0 0 ≤ 6 * 6 := Nat.mul_le_mul (hx4 w) h00
      refine lv_iload_n hx hb d_M_unmetTo_72 rfl (lv_at hl 3 rfl) ?_
      refine nr_icmp_gt (tgt := 98) hx hb (by omega) (by omega) d_M_unmetTo_73 (by decide) (fun c_73 => ?_) (fun c_73 => ?_)
      · refine nr_iconst hx hb 0 d_M_unmetTo_98 (by decide) ?_
        refine nr_iadd hx hb d_M_unmetTo_99 ?_
        refine lv_istore_n (lv' := [(3, .int (nI (acc + 0))), (5, .int (nI 1)), (0, .ref (am 0)), (1, .ref a), (2, .int (nI pl)), (4, .int (nI w))]) hx hb d_M_unmetTo_100 rfl hl (by decide) rfl (fun ls hl => ?_)
        refine nr_iinc (k := 5) (lv' := [(4, .int (nI (w + 1))), (3, .int (nI (acc + 0))), (5, .int (nI 1)), (0, .ref (am 0)), (1, .ref a), (2, .int (nI pl))]) hx hb d_M_unmetTo_101 hl rfl (by decide) rfl (fun ls hl => ?_)
        refine lv_goto (tgt := 5) hx hb d_M_unmetTo_104 (by decide) ?_
        exact ih_5 _ _ _ (by omega) (by rw [← hres, utl, if_neg (fun h => absurd h.1 (by omega))]) (lv_sub hl [3, 4, 5, 1, 0] rfl)
      · refine lv_iload hx hb d_M_unmetTo_76 (lv_at hl 0 rfl) ?_
        refine lv_aload_n hx hb d_M_unmetTo_78 rfl (lv_at hl 1 rfl) ?_
        refine va_get (D := D) (ci := 3) (v := .ref (am 13)) (C := R_M) (T := F_M) (N := 26) hx hb htb u_M hown hK hP 0 rfl rfl 21 (by decide) (htb _ q600) (fun _ h9 => h9) rfl d_M_unmetTo_79 ?_
        refine lv_iload hx hb d_M_unmetTo_82 (lv_at hl 5 rfl) ?_
        refine nr_zald hx hb hK hP 13 12 rfl rfl (by omega) (by decide) d_M_unmetTo_84 ?_
        have hv_11 := hx6 w
        refine nr_icmp_eq (tgt := 98) hx hb (by omega) (by omega) d_M_unmetTo_85 (by decide) (fun c_85 => ?_) (fun c_85 => ?_)
        · refine nr_iconst hx hb 0 d_M_unmetTo_98 (by decide) ?_
          refine nr_iadd hx hb d_M_unmetTo_99 ?_
          refine lv_istore_n (lv' := [(3, .int (nI (acc + 0))), (5, .int (nI 1)), (0, .ref (am 0)), (1, .ref a), (2, .int (nI pl)), (4, .int (nI w))]) hx hb d_M_unmetTo_100 rfl hl (by decide) rfl (fun ls hl => ?_)
          refine nr_iinc (k := 5) (lv' := [(4, .int (nI (w + 1))), (3, .int (nI (acc + 0))), (5, .int (nI 1)), (0, .ref (am 0)), (1, .ref a), (2, .int (nI pl))]) hx hb d_M_unmetTo_101 hl rfl (by decide) rfl (fun ls hl => ?_)
          refine lv_goto (tgt := 5) hx hb d_M_unmetTo_104 (by decide) ?_
          exact ih_5 _ _ _ (by omega) (by rw [← hres, utl, if_neg (fun h => h.2 (by rw [if_pos c_41]; exact c_85))]) (lv_sub hl [3, 4, 5, 1, 0] rfl)
        · refine lv_aload_n hx hb d_M_unmetTo_88 rfl (lv_at hl 1 rfl) ?_
          refine va_get (D := D) (ci := 3) (v := .ref (am 14)) (C := R_M) (T := F_M) (N := 26) hx hb htb u_M hown hK hP 0 rfl rfl 22 (by decide) (htb _ q601) (fun _ h9 => h9) rfl d_M_unmetTo_89 ?_
          refine lv_iload hx hb d_M_unmetTo_92 (lv_at hl 5 rfl) ?_
          refine nr_iald hx hb hK hP 14 13 rfl rfl (by omega) (by decide) d_M_unmetTo_94 ?_
          have hv_12 := hx7 w
          refine lv_goto (tgt := 99) hx hb d_M_unmetTo_95 (by decide) ?_
          refine nr_iadd hx hb d_M_unmetTo_99 ?_
          refine lv_istore_n (lv' := [(3, .int (nI (acc + (X 7 w)))), (5, .int (nI 1)), (0, .ref (am 0)), (1, .ref a), (2, .int (nI pl)), (4, .int (nI w))]) hx hb d_M_unmetTo_100 rfl hl (by decide) rfl (fun ls hl => ?_)
          refine nr_iinc (k := 5) (lv' := [(4, .int (nI (w + 1))), (3, .int (nI (acc + (X 7 w)))), (5, .int (nI 1)), (0, .ref (am 0)), (1, .ref a), (2, .int (nI pl))]) hx hb d_M_unmetTo_101 hl rfl (by decide) rfl (fun ls hl => ?_)
          refine lv_goto (tgt := 5) hx hb d_M_unmetTo_104 (by decide) ?_
          exact ih_5 _ _ _ (by omega) (by rw [← hres, utl, if_pos ⟨c_73, by rw [if_pos c_41]; exact c_85⟩]) (lv_sub hl [3, 4, 5, 1, 0] rfl)
end
section
theorem dv_n {d n p : Nat} (h : p < n) : (d * n + p) / n = d := by rw [Nat.mul_comm, Nat.mul_add_div (by omega), Nat.div_eq_of_lt h, Nat.add_zero]
theorem md_n {d n p : Nat} (h : p < n) : (d * n + p) % n = p := by rw [Nat.mul_comm, Nat.mul_add_mod, Nat.mod_eq_of_lt h]
theorem pz_z {c : Prop} [Decidable c] (h : (if c then 1 else 0 : Nat) = 0) : ¬ c := fun q => by rw [if_pos q] at h; cases h
theorem pz_nz {c : Prop} [Decidable c] (h : (if c then 1 else 0 : Nat) ≠ 0) : c := Decidable.byContradiction (fun q => h (if_neg q))
theorem pz_lt {c : Prop} [Decidable c] : (if c then 1 else 0 : Nat) < 2147483648 := by split <;> decide
theorem cnt_le (tr : Nat → Nat) (p : Nat) : ∀ k, cnt tr p k ≤ k := by
  intro k
  induction k with
  | zero => simp [cnt]
  | succ k ih => rw [cnt]; split <;> omega
theorem run_le (tr : Nat → Nat) (p : Nat) : ∀ k, run tr p k ≤ k := by
  intro k
  induction k with
  | zero => simp [run]
  | succ k ih => rw [run]; split <;> omega
theorem rowS_le {P : Nat → Nat → Nat} (h : okP P) (tr : Nat → Nat) (d : Nat) : ∀ k, rowS P tr d k ≤ 2000 * k := by
  intro k
  induction k with
  | zero => simp [rowS]
  | succ k ih => have := h.2.2.2.2.2.2.2.2.2.2.2 ((d * 6 + k) * 4 + tr (d * 6 + k)); rw [rowS]; omega
theorem daysS_le {P : Nat → Nat → Nat} (h : okP P) (tr : Nat → Nat) : ∀ k, daysS P tr k ≤ 12000 * k := by
  intro k
  induction k with
  | zero => simp [daysS]
  | succ k ih => have := rowS_le h tr k (P 0 0); have := h.1; rw [daysS]; omega
theorem unm_le {P : Nat → Nat → Nat} (h : okP P) (tr : Nat → Nat) (d p : Nat) (hd : d < 7) (hp : p < P 0 0) : unm P tr d p ≤ 100000 := by
  have := rowS_le h tr d (p + 1)
  have := daysS_le h tr d
  have := h.1
  unfold unm
  omega
set_option maxHeartbeats 4000000 in
set_option maxRecDepth 100000 in
theorem c_M_nightsTo (l : Launch) (D : va_G) (a : Nat) (cS : ClassId) (sh : Nat → Nat) (hsh : ∀ k, sh k ≤ 3) (p1 d : Nat) (hp : p1 < 6) (hd : d < 7) : Met l y_M_nightsTo w_M_nightsTo { frames := 0, cells := 0, slots := 0, locals := 0 } (ro_P [.ref a, .int (nI p1), .int (nI d)] D ([(a, .inl (cS, 42, .inl (fun k => nI (sh k))))]) ([(cS, .int)])) (vp_Si (fun r => r = nI (run sh p1 (d + 1)))) 0 0 (fun _ => False) := by
  refine Met.ofW (cc := b_M_nightsTo) (maxL := 5) (ret := (some .int)) (by decide) rfl ?_
  intro p e s m args below meth c s₁ B hml hv
  obtain ⟨rfl, hN, hP, hK⟩ := hv
  have hx := B.exec
  have hb := B.bytes
  have hr := B.returns
  have hts := atoms_spec (ws := w_M_nightsTo) B.pre
  have htb : ∀ w ∈ TBG, w.before [.ref a, .int (nI p1), .int (nI d)].toArray s = true := fun w h => hts w (List.mem_cons_of_mem _ h)
  have hown : s.vm.findClass R_M = some m.cls := findClass_of_methodNamed B.named
  have hlocks := B.notSynchronized
  have hl := lv_entry ([.ref a, .int (nI p1), .int (nI d)]) (n := 5) (Nat.le_of_ble_eq_true rfl)
  rw [lg_entry_eq]
  generalize (lg_sl ([.ref a, .int (nI p1), .int (nI d)]) ++ List.replicate (5 - (lg_sl ([.ref a, .int (nI p1), .int (nI d)])).length) Slot.unset).toArray = ls at hl ⊢
  have hl : lv_has ls 5 [(0, .ref a), (1, .int (nI p1)), (2, .int (nI d))] := hl
  refine nr_iconst hx hb 0 d_M_nightsTo_0 (by decide) ?_
  refine lv_istore_n (lv' := [(3, .int (nI 0)), (0, .ref a), (1, .int (nI p1)), (2, .int (nI d))]) hx hb d_M_nightsTo_1 rfl hl (by decide) rfl (fun ls hl => ?_)
  refine lv_iload_n hx hb d_M_nightsTo_2 rfl (lv_at hl 3 rfl) ?_
  refine nr_top (y := nI (d + 1) + (-1)) (pk_m1 d).symm ?_
  refine lv_istore (lv' := [(4, .int (nI (d + 1) + (-1))), (3, .int (nI 0)), (0, .ref a), (1, .int (nI p1)), (2, .int (nI d))]) hx hb d_M_nightsTo_3 hl (by decide) rfl (fun ls hl => ?_)
  replace hl : ∃ k acc : Nat, (k ≤ d + 1) ∧ (acc + run sh p1 k = run sh p1 (d + 1)) ∧ lv_has ls 5 [(0, .ref a), (1, .int (nI p1)), (2, .int (nI d)), (3, .int (nI acc)), (4, .int (nI k + (-1)))] := ⟨d + 1, 0, Nat.le_refl _, Nat.zero_add _, lv_sub hl [2, 3, 4, 1, 0] rfl⟩
  obtain ⟨k, acc, hk, hacc, hl⟩ := hl
  induction k generalizing acc ls with
  | zero =>
    refine lv_iload hx hb d_M_nightsTo_5 (lv_at hl 4 rfl) ?_
    refine lv_if_lt (tgt := 32) hx hb d_M_nightsTo_7 (by decide) (fun c_7 => ?_) (fun c_7 => absurd (by decide) c_7)
    refine lv_iload_n hx hb d_M_nightsTo_32 rfl (lv_at hl 3 rfl) ?_
    exact W.iret (v := (nI acc)) hx hb hr (fun t ht hW => ⟨_, rfl, by rw [← hacc, run, Nat.add_zero], ht⟩) (fun q h => by cases h) d_M_nightsTo_33
  | succ k ih_5 =>
    rw [pk_m1] at hl
    refine lv_iload hx hb d_M_nightsTo_5 (lv_at hl 4 rfl) ?_
    refine nr_if_lt (tgt := 32) hx hb (by omega) d_M_nightsTo_7 (by decide) (fun c_7 => c_7.elim) (fun c_7 => ?_)
    refine lv_aload_n hx hb d_M_nightsTo_10 rfl (lv_at hl 0 rfl) ?_
    refine nr_bipush hx hb 6 d_M_nightsTo_11 (by decide) ?_
    refine lv_iload hx hb d_M_nightsTo_13 (lv_at hl 4 rfl) ?_
    refine nr_imul hx hb d_M_nightsTo_15 ?_
    refine nr_top (y := nI (k * 6)) (congrArg nI (Nat.mul_comm _ _)) ?_
    refine lv_iload_n hx hb d_M_nightsTo_16 rfl (lv_at hl 1 rfl) ?_
    refine nr_iadd hx hb d_M_nightsTo_17 ?_
    refine nr_iald hx hb hK hP 0 0 rfl rfl (by omega) (by decide) d_M_nightsTo_18 ?_
    have hv_1 := hsh ((k * 6) + p1)
    refine nr_iconst hx hb 3 d_M_nightsTo_19 (by decide) ?_
    refine nr_icmp_ne (tgt := 32) hx hb (by omega) (by omega) d_M_nightsTo_20 (by decide) (fun c_20 => ?_) (fun c_20 => ?_)
    · refine lv_iload_n hx hb d_M_nightsTo_32 rfl (lv_at hl 3 rfl) ?_
      exact W.iret (v := (nI acc)) hx hb hr (fun t ht hW => ⟨_, rfl, by rw [← hacc, run, if_neg c_20, Nat.add_zero], ht⟩) (fun q h => by cases h) d_M_nightsTo_33
    · refine nr_iinc (k := 3) (lv' := [(3, .int (nI (acc + 1))), (0, .ref a), (1, .int (nI p1)), (2, .int (nI d)), (4, .int (nI k))]) hx hb d_M_nightsTo_23 hl rfl (by decide) rfl (fun ls hl => ?_)
      refine lv_iinc (v := (nI k + (-1))) (lv' := [(4, .int (nI k + (-1))), (3, .int (nI (acc + 1))), (0, .ref a), (1, .int (nI p1)), (2, .int (nI d))]) hx hb d_M_nightsTo_26 hl (k := 4) rfl (by rfl) (by decide) rfl (fun ls hl => ?_)
      refine lv_goto (tgt := 5) hx hb d_M_nightsTo_29 (by decide) ?_
      exact ih_5 _ _ (by omega) (by rw [← hacc, run, if_pos c_20]; omega) (lv_sub hl [2, 3, 4, 1, 0] rfl)
set_option maxHeartbeats 4000000 in
set_option maxRecDepth 100000 in
theorem c_M_givesUp (l : Launch) (D : va_G) (am : Nat → Nat) (cm : Nat → ClassId) (P G X : Nat → Nat → Nat) (hP0 : okP P) (hG0 : okG G) (hX0 : okX X) (d p1 rt le pl : Nat) (lv : Int32) (hp : p1 < P 0 0) (hd : d < P 0 1) (hpl : pl = d * P 0 0 + p1) (hle : (rt = 0 ∧ lv = -1) ∨ (0 < rt ∧ le ≤ 100000 ∧ lv = nI le)) (hut : utM P X (X 1) pl = unm P (X 1) d p1) (hb0 : ∀ c, P 5 (c * 4) = 0) : Met l y_M_givesUp w_M_givesUp { frames := 2, cells := 0, slots := 0, locals := 48 } (ro_P [.ref (am 0), .int (nI pl), .int lv] D (wM am cm P G X) (tM cm)) (vp_Si (fun r => r = nI (if gu P (X 1) d p1 rt le = true then 1 else 0))) 0 0 (fun _ => False) := by
  refine Met.ofW (cc := b_M_givesUp) (maxL := 6) (ret := (some .boolean)) (by decide) rfl ?_
  intro p e s m args below meth c s₁ B hml hv
  obtain ⟨rfl, hN, hP, hK⟩ := hv
  have hx := B.exec
  have hb := B.bytes
  have hr := B.returns
  have hts := atoms_spec (ws := w_M_givesUp) B.pre
  have htb : ∀ w ∈ TBG, w.before [.ref (am 0), .int (nI pl), .int lv].toArray s = true := fun w h => hts w (List.mem_cons_of_mem _ h)
  have hown : s.vm.findClass R_M = some m.cls := findClass_of_methodNamed B.named
  have hlocks := B.notSynchronized
  have hl := lv_entry ([.ref (am 0), .int (nI pl), .int lv]) (n := 6) (Nat.le_of_ble_eq_true rfl)
  rw [lg_entry_eq]
  generalize (lg_sl ([.ref (am 0), .int (nI pl), .int lv]) ++ List.replicate (6 - (lg_sl ([.ref (am 0), .int (nI pl), .int lv])).length) Slot.unset).toArray = ls at hl ⊢
  have hl : lv_has ls 6 [(0, .ref (am 0)), (1, .int (nI pl)), (2, .int lv)] := hl
  obtain ⟨h00, h01, h02, h03, h04, h05, hp1, hp2, hp3, hp4, hp5, hp6⟩ := id hP0
  obtain ⟨k00, k01, hg1, hg2⟩ := id hG0
  obtain ⟨x00, x01, x02, x03, hx1, hx2, hx3, hx4, hx5, hx6, hx7⟩ := id hX0
  have hdv : pl / P 0 0 = d := by rw [hpl]; exact dv_n hp
  have hmd : pl % P 0 0 = p1 := by rw [hpl]; exact md_n hp
  have hmul : d * P 0 0 ≤ 6 * 6 := Nat.mul_le_mul (by omega) h00
  have hc7 := cnt_le (X 1) p1 (d + 1)
  have hr7 := run_le (X 1) p1 (d + 1)
  have hun := unm_le hP0 (X 1) d p1 (by omega) hp
  rcases hle with ⟨hrt, rfl⟩ | ⟨hrt, hle1, rfl⟩
  · refine lv_iload_n hx hb d_M_givesUp_0 rfl (lv_at hl 1 rfl) ?_
    refine lv_aload_n hx hb d_M_givesUp_1 rfl (lv_at hl 0 rfl) ?_
    refine va_get (D := D) (ci := 3) (v := .int (nI (P 0 0))) (C := R_M) (T := F_M) (N := 26) hx hb htb u_M hown hK hP 0 rfl rfl 1 (by decide) (htb _ q580) (fun _ h9 => h9) rfl d_M_givesUp_2 ?_
    refine nr_idiv hx hb (by omega) (by omega) (by omega) d_M_givesUp_5 ?_
    refine nr_top (y := nI d) (congrArg nI hdv) ?_
    refine lv_istore_n (lv' := [(3, .int (nI d)), (0, .ref (am 0)), (1, .int (nI pl)), (2, .int (-1))]) hx hb d_M_givesUp_6 rfl hl (by decide) rfl (fun ls hl => ?_)
    refine lv_iload_n hx hb d_M_givesUp_7 rfl (lv_at hl 2 rfl) ?_
    refine lv_aload_n hx hb d_M_givesUp_8 rfl (lv_at hl 1 rfl) ?_
    refine va_get (D := D) (ci := 3) (v := .int (nI (P 0 0))) (C := R_M) (T := F_M) (N := 26) hx hb htb u_M hown hK hP 0 rfl rfl 1 (by decide) (htb _ q580) (fun _ h9 => h9) rfl d_M_givesUp_9 ?_
    refine nr_irem hx hb (by omega) (by omega) (by omega) d_M_givesUp_12 ?_
    refine nr_top (y := nI p1) (congrArg nI hmd) ?_
    refine lv_istore (lv' := [(4, .int (nI p1)), (3, .int (nI d)), (0, .ref (am 0)), (1, .int (nI pl)), (2, .int (-1))]) hx hb d_M_givesUp_13 hl (by decide) rfl (fun ls hl => ?_)
    refine lv_aload_n hx hb d_M_givesUp_15 rfl (lv_at hl 2 rfl) ?_
    refine va_get (D := D) (ci := 3) (v := .ref (am 4)) (C := R_M) (T := F_M) (N := 26) hx hb htb u_M hown hK hP 0 rfl rfl 7 (by decide) (htb _ q586) (fun _ h9 => h9) rfl d_M_givesUp_16 ?_
    refine nr_bipush hx hb 6 d_M_givesUp_19 (by decide) ?_
    refine lv_iload_n hx hb d_M_givesUp_21 rfl (lv_at hl 1 rfl) ?_
    refine nr_imul hx hb d_M_givesUp_22 ?_
    refine nr_top (y := nI (d * 6)) (congrArg nI (Nat.mul_comm _ _)) ?_
    refine lv_iload hx hb d_M_givesUp_23 (lv_at hl 0 rfl) ?_
    refine nr_iadd hx hb d_M_givesUp_25 ?_
    refine nr_iald hx hb hK hP 4 3 rfl rfl (by omega) (by decide) d_M_givesUp_26 ?_
    have hv_1 := hx1 ((d * 6) + p1)
    refine lv_istore (lv' := [(5, .int (nI (X 1 ((d * 6) + p1)))), (4, .int (nI p1)), (3, .int (nI d)), (0, .ref (am 0)), (1, .int (nI pl)), (2, .int (-1))]) hx hb d_M_givesUp_27 hl (by decide) rfl (fun ls hl => ?_)
    refine lv_aload_n hx hb d_M_givesUp_29 rfl (lv_at hl 3 rfl) ?_
    refine lv_aload_n hx hb d_M_givesUp_30 rfl (lv_at hl 3 rfl) ?_
    refine va_get (D := D) (ci := 3) (v := .ref (am 4)) (C := R_M) (T := F_M) (N := 26) hx hb htb u_M hown hK hP 0 rfl rfl 7 (by decide) (htb _ q586) (fun _ h9 => h9) rfl d_M_givesUp_31 ?_
    refine lv_iload hx hb d_M_givesUp_34 (lv_at hl 1 rfl) ?_
    refine lv_iload_n hx hb d_M_givesUp_36 rfl (lv_at hl 2 rfl) ?_
    refine nr_calli (va_runV (As := [.ref (am 4), .int (nI p1), .int (nI d)]) (rest := []) ⟨hx, hb, hml, hown, hts⟩ (c_M_isTired l D am cm P G X (am 4) (cm 3) (X 1) hP0 hG0 hX0 hx1 p1 d (by omega) (by omega)) ⟨callB_of 3 hts (gTB q_M_isTired) rfl rfl rfl (htb _ q4) (htb _ q729) hd_M_isTired ⟨Nat.le_of_ble_eq_true rfl, Nat.le_of_ble_eq_true rfl⟩, (htb _ q731), (htb _ sel_M_isTired)⟩ ⟨ro_blind, va_recv (hK.sub (tys' := []) [] rfl) hP (ci := 3) (q0 := 0) rfl rfl, ro_pre hN (hP.sub (ws' := (wMS am cm P G X (am 4) (cm 3) (X 1))) [0, 1, 2, 3, 4, 5, 6, 7, 8, 9, 10, 11, 12, 13, 14, 4] rfl) (hK.sub (tys' := (tMS cm (cm 3))) [0, 1, 2, 3, 4, 5, 6, 7, 8, 9, 10, 11, 12, 13, 3] rfl)⟩ rfl rfl hl.1 rfl (lv_room (Nat.le_of_ble_eq_true rfl)) d_M_givesUp_37 ⟨Nat.le_of_ble_eq_true rfl, Nat.le_of_ble_eq_true rfl⟩) (fun r_2 hr_2 => ?_)
    subst hr_2
    refine nr_if_ne (tgt := 77) hx hb b01_lt d_M_givesUp_40 (by decide) (fun c_40 => ?_) (fun c_40 => ?_)
    · refine nr_iconst hx hb 1 d_M_givesUp_77 (by decide) ?_
      exact W.zret (v := (nI 1)) hx hb hr rfl (fun t ht hW => ⟨_, rfl, by rw [gu, decide_eq_true (Or.inl (b01_nz c_40))]; rfl, ht⟩) (fun q h => by cases h) d_M_givesUp_78
    · refine lv_aload_n hx hb d_M_givesUp_43 rfl (lv_at hl 3 rfl) ?_
      refine va_get (D := D) (ci := 3) (v := .ref (am 4)) (C := R_M) (T := F_M) (N := 26) hx hb htb u_M hown hK hP 0 rfl rfl 7 (by decide) (htb _ q586) (fun _ h9 => h9) rfl d_M_givesUp_44 ?_
      refine lv_iload hx hb d_M_givesUp_47 (lv_at hl 1 rfl) ?_
      refine lv_iload_n hx hb d_M_givesUp_49 rfl (lv_at hl 2 rfl) ?_
      refine nr_calli (va_runS (As := [.ref (am 4), .int (nI p1), .int (nI d)]) (rest := []) ⟨hx, hb, hml, hown, hts⟩ (c_M_many l D (am 4) (cm 3) (X 1) hx1 p1 d (by omega) (by omega)) ⟨callB_of 3 hts (gTB q_M_many) rfl rfl rfl (htb _ q4) (htb _ q736) hd_M_many ⟨Nat.le_of_ble_eq_true rfl, Nat.le_of_ble_eq_true rfl⟩, (htb _ q737)⟩ ⟨ro_blind, ro_pre hN (hP.sub (ws' := [(am 4, .inl ((cm 3), 42, .inl (fun k => nI ((X 1) k))))]) [4] rfl) (hK.sub (tys' := [((cm 3), .int)]) [3] rfl)⟩ rfl rfl hl.1 rfl (lv_room (Nat.le_of_ble_eq_true rfl)) d_M_givesUp_50 ⟨Nat.le_of_ble_eq_true rfl, Nat.le_of_ble_eq_true rfl⟩) (fun r_3 hr_3 => ?_)
      subst hr_3
      refine lv_aload_n hx hb d_M_givesUp_53 rfl (lv_at hl 3 rfl) ?_
      refine va_get (D := D) (ci := 3) (v := .int (nI (P 0 3))) (C := R_M) (T := F_M) (N := 26) hx hb htb u_M hown hK hP 0 rfl rfl 15 (by decide) (htb _ q594) (fun _ h9 => h9) rfl d_M_givesUp_54 ?_
      refine nr_icmp_gt (tgt := 77) hx hb (by omega) (by omega) d_M_givesUp_57 (by decide) (fun c_57 => ?_) (fun c_57 => ?_)
      · refine nr_iconst hx hb 1 d_M_givesUp_77 (by decide) ?_
        exact W.zret (v := (nI 1)) hx hb hr rfl (fun t ht hW => ⟨_, rfl, by rw [gu, decide_eq_true (Or.inr (Or.inl c_57))]; rfl, ht⟩) (fun q h => by cases h) d_M_givesUp_78
      · refine lv_aload_n hx hb d_M_givesUp_60 rfl (lv_at hl 3 rfl) ?_
        refine va_get (D := D) (ci := 3) (v := .ref (am 4)) (C := R_M) (T := F_M) (N := 26) hx hb htb u_M hown hK hP 0 rfl rfl 7 (by decide) (htb _ q586) (fun _ h9 => h9) rfl d_M_givesUp_61 ?_
        refine lv_iload hx hb d_M_givesUp_64 (lv_at hl 1 rfl) ?_
        refine lv_iload_n hx hb d_M_givesUp_66 rfl (lv_at hl 2 rfl) ?_
        refine nr_calli (va_runS (As := [.ref (am 4), .int (nI p1), .int (nI d)]) (rest := []) ⟨hx, hb, hml, hown, hts⟩ (c_M_nightsTo l D (am 4) (cm 3) (X 1) hx1 p1 d (by omega) (by omega)) ⟨callB_of 3 hts (gTB q_M_nightsTo) rfl rfl rfl (htb _ q4) (htb _ q739) hd_M_nightsTo ⟨Nat.le_of_ble_eq_true rfl, Nat.le_of_ble_eq_true rfl⟩, (htb _ q740)⟩ ⟨ro_blind, ro_pre hN (hP.sub (ws' := [(am 4, .inl ((cm 3), 42, .inl (fun k => nI ((X 1) k))))]) [4] rfl) (hK.sub (tys' := [((cm 3), .int)]) [3] rfl)⟩ rfl rfl hl.1 rfl (lv_room (Nat.le_of_ble_eq_true rfl)) d_M_givesUp_67 ⟨Nat.le_of_ble_eq_true rfl, Nat.le_of_ble_eq_true rfl⟩) (fun r_4 hr_4 => ?_)
        subst hr_4
        refine lv_aload_n hx hb d_M_givesUp_70 rfl (lv_at hl 3 rfl) ?_
        refine va_get (D := D) (ci := 3) (v := .int (nI (P 0 4))) (C := R_M) (T := F_M) (N := 26) hx hb htb u_M hown hK hP 0 rfl rfl 16 (by decide) (htb _ q595) (fun _ h9 => h9) rfl d_M_givesUp_71 ?_
        refine nr_icmp_le (tgt := 79) hx hb (by omega) (by omega) d_M_givesUp_74 (by decide) (fun c_74 => ?_) (fun c_74 => ?_)
        · refine lv_iload hx hb d_M_givesUp_79 (lv_at hl 0 rfl) ?_
          refine nr_if_le (tgt := 106) hx hb (by omega) d_M_givesUp_81 (by decide) (fun c_81 => ?_) (fun c_81 => ?_)
          · refine lv_iload hx hb d_M_givesUp_106 (lv_at hl 1 rfl) ?_
            refine lv_aload_n hx hb d_M_givesUp_108 rfl (lv_at hl 3 rfl) ?_
            refine va_get (D := D) (ci := 3) (v := .int (nI (P 0 0))) (C := R_M) (T := F_M) (N := 26) hx hb htb u_M hown hK hP 0 rfl rfl 1 (by decide) (htb _ q580) (fun _ h9 => h9) rfl d_M_givesUp_109 ?_
            refine nr_iconst hx hb 1 d_M_givesUp_112 (by decide) ?_
            refine nr_isub hx hb (by omega) d_M_givesUp_113 ?_
            refine nr_icmp_ne (tgt := 131) hx hb (by omega) (by omega) d_M_givesUp_114 (by decide) (fun c_114 => ?_) (fun c_114 => ?_)
            · refine lv_iload_n hx hb d_M_givesUp_131 rfl (lv_at hl 5 rfl) ?_
              refine lv_if_lt (tgt := 152) hx hb d_M_givesUp_132 (by decide) (fun c_132 => ?_) (fun c_132 => absurd (by decide) c_132)
              refine nr_iconst hx hb 0 d_M_givesUp_152 (by decide) ?_
              exact W.zret (v := (nI 0)) hx hb hr rfl (fun t ht hW => ⟨_, rfl, by rw [gu, decide_eq_false (by rintro (h | h | h | h | h | h); exact b01_z c_40 h; omega; omega; exact h (by rw [c_81]; exact hb0 _); exact c_114 h.1; exact absurd h.1 (by omega))]; rfl, ht⟩) (fun q h => by cases h) d_M_givesUp_153
            · refine lv_aload_n hx hb d_M_givesUp_117 rfl (lv_at hl 3 rfl) ?_
              refine lv_aload_n hx hb d_M_givesUp_118 rfl (lv_at hl 3 rfl) ?_
              refine va_get (D := D) (ci := 3) (v := .ref (am 4)) (C := R_M) (T := F_M) (N := 26) hx hb htb u_M hown hK hP 0 rfl rfl 7 (by decide) (htb _ q586) (fun _ h9 => h9) rfl d_M_givesUp_119 ?_
              refine lv_iload_n hx hb d_M_givesUp_122 rfl (lv_at hl 2 rfl) ?_
              refine nr_calli (va_runV (As := [.ref (am 4), .int (nI d)]) (rest := []) ⟨hx, hb, hml, hown, hts⟩ (c_M_areMet l D am cm P G X (am 4) (cm 3) (X 1) hP0 hG0 hX0 hx1 d (by omega)) ⟨callB_of 2 hts (gTB q_M_areMet) rfl rfl rfl (htb _ q4) (htb _ q713) hd_M_areMet ⟨Nat.le_of_ble_eq_true rfl, Nat.le_of_ble_eq_true rfl⟩, (htb _ q715), (htb _ sel_M_areMet)⟩ ⟨ro_blind, va_recv (hK.sub (tys' := []) [] rfl) hP (ci := 3) (q0 := 0) rfl rfl, ro_pre hN (hP.sub (ws' := (wMS am cm P G X (am 4) (cm 3) (X 1))) [0, 1, 2, 3, 4, 5, 6, 7, 8, 9, 10, 11, 12, 13, 14, 4] rfl) (hK.sub (tys' := (tMS cm (cm 3))) [0, 1, 2, 3, 4, 5, 6, 7, 8, 9, 10, 11, 12, 13, 3] rfl)⟩ rfl rfl hl.1 rfl (lv_room (Nat.le_of_ble_eq_true rfl)) d_M_givesUp_123 ⟨Nat.le_of_ble_eq_true rfl, Nat.le_of_ble_eq_true rfl⟩) (fun r_5 hr_5 => ?_)
              subst hr_5
              refine nr_if_ne (tgt := 131) hx hb pz_lt d_M_givesUp_126 (by decide) (fun c_126 => ?_) (fun c_126 => ?_)
              · refine lv_iload_n hx hb d_M_givesUp_131 rfl (lv_at hl 5 rfl) ?_
                refine lv_if_lt (tgt := 152) hx hb d_M_givesUp_132 (by decide) (fun c_132 => ?_) (fun c_132 => absurd (by decide) c_132)
                refine nr_iconst hx hb 0 d_M_givesUp_152 (by decide) ?_
                exact W.zret (v := (nI 0)) hx hb hr rfl (fun t ht hW => ⟨_, rfl, by rw [gu, decide_eq_false (by rintro (h | h | h | h | h | h); exact b01_z c_40 h; omega; omega; exact h (by rw [c_81]; exact hb0 _); exact h.2 (pz_nz c_126); exact absurd h.1 (by omega))]; rfl, ht⟩) (fun q h => by cases h) d_M_givesUp_153
              · refine nr_iconst hx hb 1 d_M_givesUp_129 (by decide) ?_
                exact W.zret (v := (nI 1)) hx hb hr rfl (fun t ht hW => ⟨_, rfl, by rw [gu, decide_eq_true (Or.inr (Or.inr (Or.inr (Or.inr (Or.inl ⟨c_114, pz_z c_126⟩)))))]; rfl, ht⟩) (fun q h => by cases h) d_M_givesUp_130
          · refine lv_aload_n hx hb d_M_givesUp_84 rfl (lv_at hl 3 rfl) ?_
            refine va_get (D := D) (ci := 3) (v := .ref (am 9)) (C := R_M) (T := F_M) (N := 26) hx hb htb u_M hown hK hP 0 rfl rfl 13 (by decide) (htb _ q592) (fun _ h9 => h9) rfl d_M_givesUp_85 ?_
            refine nr_bipush hx hb 24 d_M_givesUp_88 (by decide) ?_
            refine lv_iload_n hx hb d_M_givesUp_90 rfl (lv_at hl 2 rfl) ?_
            refine nr_imul hx hb d_M_givesUp_91 ?_
            refine nr_top (y := nI (d * 24)) (congrArg nI (Nat.mul_comm _ _)) ?_
            refine nr_iconst hx hb 4 d_M_givesUp_92 (by decide) ?_
            refine lv_iload hx hb d_M_givesUp_93 (lv_at hl 1 rfl) ?_
            refine nr_imul hx hb d_M_givesUp_95 ?_
            refine nr_top (y := nI (p1 * 4)) (congrArg nI (Nat.mul_comm _ _)) ?_
            refine nr_iadd hx hb d_M_givesUp_96 ?_
            refine lv_iload hx hb d_M_givesUp_97 (lv_at hl 0 rfl) ?_
            refine nr_iadd hx hb d_M_givesUp_99 ?_
            refine nr_top (y := nI ((d * 6 + p1) * 4 + X 1 (d * 6 + p1))) (congrArg nI (by omega)) ?_
            refine nr_zald hx hb hK hP 9 8 rfl rfl (by omega) (by decide) d_M_givesUp_100 ?_
            have hv_6 := hp5 ((d * 6 + p1) * 4 + X 1 (d * 6 + p1))
            refine nr_if_eq (tgt := 106) hx hb (by omega) d_M_givesUp_101 (by decide) (fun c_101 => ?_) (fun c_101 => ?_)
            · refine lv_iload hx hb d_M_givesUp_106 (lv_at hl 1 rfl) ?_
              refine lv_aload_n hx hb d_M_givesUp_108 rfl (lv_at hl 3 rfl) ?_
              refine va_get (D := D) (ci := 3) (v := .int (nI (P 0 0))) (C := R_M) (T := F_M) (N := 26) hx hb htb u_M hown hK hP 0 rfl rfl 1 (by decide) (htb _ q580) (fun _ h9 => h9) rfl d_M_givesUp_109 ?_
              refine nr_iconst hx hb 1 d_M_givesUp_112 (by decide) ?_
              refine nr_isub hx hb (by omega) d_M_givesUp_113 ?_
              refine nr_icmp_ne (tgt := 131) hx hb (by omega) (by omega) d_M_givesUp_114 (by decide) (fun c_114 => ?_) (fun c_114 => ?_)
              · refine lv_iload_n hx hb d_M_givesUp_131 rfl (lv_at hl 5 rfl) ?_
                refine lv_if_lt (tgt := 152) hx hb d_M_givesUp_132 (by decide) (fun c_132 => ?_) (fun c_132 => absurd (by decide) c_132)
                refine nr_iconst hx hb 0 d_M_givesUp_152 (by decide) ?_
                exact W.zret (v := (nI 0)) hx hb hr rfl (fun t ht hW => ⟨_, rfl, by rw [gu, decide_eq_false (by rintro (h | h | h | h | h | h); exact b01_z c_40 h; omega; omega; exact h c_101; exact c_114 h.1; exact absurd h.1 (by omega))]; rfl, ht⟩) (fun q h => by cases h) d_M_givesUp_153
              · refine lv_aload_n hx hb d_M_givesUp_117 rfl (lv_at hl 3 rfl) ?_
                refine lv_aload_n hx hb d_M_givesUp_118 rfl (lv_at hl 3 rfl) ?_
                refine va_get (D := D) (ci := 3) (v := .ref (am 4)) (C := R_M) (T := F_M) (N := 26) hx hb htb u_M hown hK hP 0 rfl rfl 7 (by decide) (htb _ q586) (fun _ h9 => h9) rfl d_M_givesUp_119 ?_
                refine lv_iload_n hx hb d_M_givesUp_122 rfl (lv_at hl 2 rfl) ?_
                refine nr_calli (va_runV (As := [.ref (am 4), .int (nI d)]) (rest := []) ⟨hx, hb, hml, hown, hts⟩ (c_M_areMet l D am cm P G X (am 4) (cm 3) (X 1) hP0 hG0 hX0 hx1 d (by omega)) ⟨callB_of 2 hts (gTB q_M_areMet) rfl rfl rfl (htb _ q4) (htb _ q713) hd_M_areMet ⟨Nat.le_of_ble_eq_true rfl, Nat.le_of_ble_eq_true rfl⟩, (htb _ q715), (htb _ sel_M_areMet)⟩ ⟨ro_blind, va_recv (hK.sub (tys' := []) [] rfl) hP (ci := 3) (q0 := 0) rfl rfl, ro_pre hN (hP.sub (ws' := (wMS am cm P G X (am 4) (cm 3) (X 1))) [0, 1, 2, 3, 4, 5, 6, 7, 8, 9, 10, 11, 12, 13, 14, 4] rfl) (hK.sub (tys' := (tMS cm (cm 3))) [0, 1, 2, 3, 4, 5, 6, 7, 8, 9, 10, 11, 12, 13, 3] rfl)⟩ rfl rfl hl.1 rfl (lv_room (Nat.le_of_ble_eq_true rfl)) d_M_givesUp_123 ⟨Nat.le_of_ble_eq_true rfl, Nat.le_of_ble_eq_true rfl⟩) (fun r_7 hr_7 => ?_)
                subst hr_7
                refine nr_if_ne (tgt := 131) hx hb pz_lt d_M_givesUp_126 (by decide) (fun c_126 => ?_) (fun c_126 => ?_)
                · refine lv_iload_n hx hb d_M_givesUp_131 rfl (lv_at hl 5 rfl) ?_
                  refine lv_if_lt (tgt := 152) hx hb d_M_givesUp_132 (by decide) (fun c_132 => ?_) (fun c_132 => absurd (by decide) c_132)
                  refine nr_iconst hx hb 0 d_M_givesUp_152 (by decide) ?_
                  exact W.zret (v := (nI 0)) hx hb hr rfl (fun t ht hW => ⟨_, rfl, by rw [gu, decide_eq_false (by rintro (h | h | h | h | h | h); exact b01_z c_40 h; omega; omega; exact h c_101; exact h.2 (pz_nz c_126); exact absurd h.1 (by omega))]; rfl, ht⟩) (fun q h => by cases h) d_M_givesUp_153
                · refine nr_iconst hx hb 1 d_M_givesUp_129 (by decide) ?_
                  exact W.zret (v := (nI 1)) hx hb hr rfl (fun t ht hW => ⟨_, rfl, by rw [gu, decide_eq_true (Or.inr (Or.inr (Or.inr (Or.inr (Or.inl ⟨c_114, pz_z c_126⟩)))))]; rfl, ht⟩) (fun q h => by cases h) d_M_givesUp_130
            · refine nr_iconst hx hb 1 d_M_givesUp_104 (by decide) ?_
              exact W.zret (v := (nI 1)) hx hb hr rfl (fun t ht hW => ⟨_, rfl, by rw [gu, decide_eq_true (Or.inr (Or.inr (Or.inr (Or.inl c_101))))]; rfl, ht⟩) (fun q h => by cases h) d_M_givesUp_105
        · refine nr_iconst hx hb 1 d_M_givesUp_77 (by decide) ?_
          exact W.zret (v := (nI 1)) hx hb hr rfl (fun t ht hW => ⟨_, rfl, by rw [gu, decide_eq_true (Or.inr (Or.inr (Or.inl c_74)))]; rfl, ht⟩) (fun q h => by cases h) d_M_givesUp_78
  · refine lv_iload_n hx hb d_M_givesUp_0 rfl (lv_at hl 1 rfl) ?_
    refine lv_aload_n hx hb d_M_givesUp_1 rfl (lv_at hl 0 rfl) ?_
    refine va_get (D := D) (ci := 3) (v := .int (nI (P 0 0))) (C := R_M) (T := F_M) (N := 26) hx hb htb u_M hown hK hP 0 rfl rfl 1 (by decide) (htb _ q580) (fun _ h9 => h9) rfl d_M_givesUp_2 ?_
    refine nr_idiv hx hb (by omega) (by omega) (by omega) d_M_givesUp_5 ?_
    refine nr_top (y := nI d) (congrArg nI hdv) ?_
    refine lv_istore_n (lv' := [(3, .int (nI d)), (0, .ref (am 0)), (1, .int (nI pl)), (2, .int (nI le))]) hx hb d_M_givesUp_6 rfl hl (by decide) rfl (fun ls hl => ?_)
    refine lv_iload_n hx hb d_M_givesUp_7 rfl (lv_at hl 2 rfl) ?_
    refine lv_aload_n hx hb d_M_givesUp_8 rfl (lv_at hl 1 rfl) ?_
    refine va_get (D := D) (ci := 3) (v := .int (nI (P 0 0))) (C := R_M) (T := F_M) (N := 26) hx hb htb u_M hown hK hP 0 rfl rfl 1 (by decide) (htb _ q580) (fun _ h9 => h9) rfl d_M_givesUp_9 ?_
    refine nr_irem hx hb (by omega) (by omega) (by omega) d_M_givesUp_12 ?_
    refine nr_top (y := nI p1) (congrArg nI hmd) ?_
    refine lv_istore (lv' := [(4, .int (nI p1)), (3, .int (nI d)), (0, .ref (am 0)), (1, .int (nI pl)), (2, .int (nI le))]) hx hb d_M_givesUp_13 hl (by decide) rfl (fun ls hl => ?_)
    refine lv_aload_n hx hb d_M_givesUp_15 rfl (lv_at hl 2 rfl) ?_
    refine va_get (D := D) (ci := 3) (v := .ref (am 4)) (C := R_M) (T := F_M) (N := 26) hx hb htb u_M hown hK hP 0 rfl rfl 7 (by decide) (htb _ q586) (fun _ h9 => h9) rfl d_M_givesUp_16 ?_
    refine nr_bipush hx hb 6 d_M_givesUp_19 (by decide) ?_
    refine lv_iload_n hx hb d_M_givesUp_21 rfl (lv_at hl 1 rfl) ?_
    refine nr_imul hx hb d_M_givesUp_22 ?_
    refine nr_top (y := nI (d * 6)) (congrArg nI (Nat.mul_comm _ _)) ?_
    refine lv_iload hx hb d_M_givesUp_23 (lv_at hl 0 rfl) ?_
    refine nr_iadd hx hb d_M_givesUp_25 ?_
    refine nr_iald hx hb hK hP 4 3 rfl rfl (by omega) (by decide) d_M_givesUp_26 ?_
    have hv_8 := hx1 ((d * 6) + p1)
    refine lv_istore (lv' := [(5, .int (nI (X 1 ((d * 6) + p1)))), (4, .int (nI p1)), (3, .int (nI d)), (0, .ref (am 0)), (1, .int (nI pl)), (2, .int (nI le))]) hx hb d_M_givesUp_27 hl (by decide) rfl (fun ls hl => ?_)
    refine lv_aload_n hx hb d_M_givesUp_29 rfl (lv_at hl 3 rfl) ?_
    refine lv_aload_n hx hb d_M_givesUp_30 rfl (lv_at hl 3 rfl) ?_
    refine va_get (D := D) (ci := 3) (v := .ref (am 4)) (C := R_M) (T := F_M) (N := 26) hx hb htb u_M hown hK hP 0 rfl rfl 7 (by decide) (htb _ q586) (fun _ h9 => h9) rfl d_M_givesUp_31 ?_
    refine lv_iload hx hb d_M_givesUp_34 (lv_at hl 1 rfl) ?_
    refine lv_iload_n hx hb d_M_givesUp_36 rfl (lv_at hl 2 rfl) ?_
    refine nr_calli (va_runV (As := [.ref (am 4), .int (nI p1), .int (nI d)]) (rest := []) ⟨hx, hb, hml, hown, hts⟩ (c_M_isTired l D am cm P G X (am 4) (cm 3) (X 1) hP0 hG0 hX0 hx1 p1 d (by omega) (by omega)) ⟨callB_of 3 hts (gTB q_M_isTired) rfl rfl rfl (htb _ q4) (htb _ q729) hd_M_isTired ⟨Nat.le_of_ble_eq_true rfl, Nat.le_of_ble_eq_true rfl⟩, (htb _ q731), (htb _ sel_M_isTired)⟩ ⟨ro_blind, va_recv (hK.sub (tys' := []) [] rfl) hP (ci := 3) (q0 := 0) rfl rfl, ro_pre hN (hP.sub (ws' := (wMS am cm P G X (am 4) (cm 3) (X 1))) [0, 1, 2, 3, 4, 5, 6, 7, 8, 9, 10, 11, 12, 13, 14, 4] rfl) (hK.sub (tys' := (tMS cm (cm 3))) [0, 1, 2, 3, 4, 5, 6, 7, 8, 9, 10, 11, 12, 13, 3] rfl)⟩ rfl rfl hl.1 rfl (lv_room (Nat.le_of_ble_eq_true rfl)) d_M_givesUp_37 ⟨Nat.le_of_ble_eq_true rfl, Nat.le_of_ble_eq_true rfl⟩) (fun r_9 hr_9 => ?_)
    subst hr_9
    refine nr_if_ne (tgt := 77) hx hb b01_lt d_M_givesUp_40 (by decide) (fun c_40 => ?_) (fun c_40 => ?_)
    · refine nr_iconst hx hb 1 d_M_givesUp_77 (by decide) ?_
      exact W.zret (v := (nI 1)) hx hb hr rfl (fun t ht hW => ⟨_, rfl, by rw [gu, decide_eq_true (Or.inl (b01_nz c_40))]; rfl, ht⟩) (fun q h => by cases h) d_M_givesUp_78
    · refine lv_aload_n hx hb d_M_givesUp_43 rfl (lv_at hl 3 rfl) ?_
      refine va_get (D := D) (ci := 3) (v := .ref (am 4)) (C := R_M) (T := F_M) (N := 26) hx hb htb u_M hown hK hP 0 rfl rfl 7 (by decide) (htb _ q586) (fun _ h9 => h9) rfl d_M_givesUp_44 ?_
      refine lv_iload hx hb d_M_givesUp_47 (lv_at hl 1 rfl) ?_
      refine lv_iload_n hx hb d_M_givesUp_49 rfl (lv_at hl 2 rfl) ?_
      refine nr_calli (va_runS (As := [.ref (am 4), .int (nI p1), .int (nI d)]) (rest := []) ⟨hx, hb, hml, hown, hts⟩ (c_M_many l D (am 4) (cm 3) (X 1) hx1 p1 d (by omega) (by omega)) ⟨callB_of 3 hts (gTB q_M_many) rfl rfl rfl (htb _ q4) (htb _ q736) hd_M_many ⟨Nat.le_of_ble_eq_true rfl, Nat.le_of_ble_eq_true rfl⟩, (htb _ q737)⟩ ⟨ro_blind, ro_pre hN (hP.sub (ws' := [(am 4, .inl ((cm 3), 42, .inl (fun k => nI ((X 1) k))))]) [4] rfl) (hK.sub (tys' := [((cm 3), .int)]) [3] rfl)⟩ rfl rfl hl.1 rfl (lv_room (Nat.le_of_ble_eq_true rfl)) d_M_givesUp_50 ⟨Nat.le_of_ble_eq_true rfl, Nat.le_of_ble_eq_true rfl⟩) (fun r_10 hr_10 => ?_)
      subst hr_10
      refine lv_aload_n hx hb d_M_givesUp_53 rfl (lv_at hl 3 rfl) ?_
      refine va_get (D := D) (ci := 3) (v := .int (nI (P 0 3))) (C := R_M) (T := F_M) (N := 26) hx hb htb u_M hown hK hP 0 rfl rfl 15 (by decide) (htb _ q594) (fun _ h9 => h9) rfl d_M_givesUp_54 ?_
      refine nr_icmp_gt (tgt := 77) hx hb (by omega) (by omega) d_M_givesUp_57 (by decide) (fun c_57 => ?_) (fun c_57 => ?_)
      · refine nr_iconst hx hb 1 d_M_givesUp_77 (by decide) ?_
        exact W.zret (v := (nI 1)) hx hb hr rfl (fun t ht hW => ⟨_, rfl, by rw [gu, decide_eq_true (Or.inr (Or.inl c_57))]; rfl, ht⟩) (fun q h => by cases h) d_M_givesUp_78
      · refine lv_aload_n hx hb d_M_givesUp_60 rfl (lv_at hl 3 rfl) ?_
        refine va_get (D := D) (ci := 3) (v := .ref (am 4)) (C := R_M) (T := F_M) (N := 26) hx hb htb u_M hown hK hP 0 rfl rfl 7 (by decide) (htb _ q586) (fun _ h9 => h9) rfl d_M_givesUp_61 ?_
        refine lv_iload hx hb d_M_givesUp_64 (lv_at hl 1 rfl) ?_
        refine lv_iload_n hx hb d_M_givesUp_66 rfl (lv_at hl 2 rfl) ?_
        refine nr_calli (va_runS (As := [.ref (am 4), .int (nI p1), .int (nI d)]) (rest := []) ⟨hx, hb, hml, hown, hts⟩ (c_M_nightsTo l D (am 4) (cm 3) (X 1) hx1 p1 d (by omega) (by omega)) ⟨callB_of 3 hts (gTB q_M_nightsTo) rfl rfl rfl (htb _ q4) (htb _ q739) hd_M_nightsTo ⟨Nat.le_of_ble_eq_true rfl, Nat.le_of_ble_eq_true rfl⟩, (htb _ q740)⟩ ⟨ro_blind, ro_pre hN (hP.sub (ws' := [(am 4, .inl ((cm 3), 42, .inl (fun k => nI ((X 1) k))))]) [4] rfl) (hK.sub (tys' := [((cm 3), .int)]) [3] rfl)⟩ rfl rfl hl.1 rfl (lv_room (Nat.le_of_ble_eq_true rfl)) d_M_givesUp_67 ⟨Nat.le_of_ble_eq_true rfl, Nat.le_of_ble_eq_true rfl⟩) (fun r_11 hr_11 => ?_)
        subst hr_11
        refine lv_aload_n hx hb d_M_givesUp_70 rfl (lv_at hl 3 rfl) ?_
        refine va_get (D := D) (ci := 3) (v := .int (nI (P 0 4))) (C := R_M) (T := F_M) (N := 26) hx hb htb u_M hown hK hP 0 rfl rfl 16 (by decide) (htb _ q595) (fun _ h9 => h9) rfl d_M_givesUp_71 ?_
        refine nr_icmp_le (tgt := 79) hx hb (by omega) (by omega) d_M_givesUp_74 (by decide) (fun c_74 => ?_) (fun c_74 => ?_)
        · refine lv_iload hx hb d_M_givesUp_79 (lv_at hl 0 rfl) ?_
          refine nr_if_le (tgt := 106) hx hb (by omega) d_M_givesUp_81 (by decide) (fun c_81 => ?_) (fun c_81 => ?_)
          · refine lv_iload hx hb d_M_givesUp_106 (lv_at hl 1 rfl) ?_
            refine lv_aload_n hx hb d_M_givesUp_108 rfl (lv_at hl 3 rfl) ?_
            refine va_get (D := D) (ci := 3) (v := .int (nI (P 0 0))) (C := R_M) (T := F_M) (N := 26) hx hb htb u_M hown hK hP 0 rfl rfl 1 (by decide) (htb _ q580) (fun _ h9 => h9) rfl d_M_givesUp_109 ?_
            refine nr_iconst hx hb 1 d_M_givesUp_112 (by decide) ?_
            refine nr_isub hx hb (by omega) d_M_givesUp_113 ?_
            refine nr_icmp_ne (tgt := 131) hx hb (by omega) (by omega) d_M_givesUp_114 (by decide) (fun c_114 => ?_) (fun c_114 => ?_)
            · refine lv_iload_n hx hb d_M_givesUp_131 rfl (lv_at hl 5 rfl) ?_
              refine nr_if_lt (tgt := 152) hx hb (by omega) d_M_givesUp_132 (by decide) (fun c_132 => c_132.elim) (fun c_132 => ?_)
              refine lv_aload_n hx hb d_M_givesUp_135 rfl (lv_at hl 3 rfl) ?_
              refine lv_aload_n hx hb d_M_givesUp_136 rfl (lv_at hl 3 rfl) ?_
              refine va_get (D := D) (ci := 3) (v := .ref (am 4)) (C := R_M) (T := F_M) (N := 26) hx hb htb u_M hown hK hP 0 rfl rfl 7 (by decide) (htb _ q586) (fun _ h9 => h9) rfl d_M_givesUp_137 ?_
              refine lv_iload_n hx hb d_M_givesUp_140 rfl (lv_at hl 4 rfl) ?_
              refine nr_calli (va_runV (As := [.ref (am 4), .int (nI pl)]) (rest := []) ⟨hx, hb, hml, hown, hts⟩ (c_M_unmetTo l D am cm P G X (am 4) (cm 3) (X 1) hP0 hG0 hX0 hx1 pl (by omega)) ⟨callB_of 2 hts (gTB q_M_unmetTo) rfl rfl rfl (htb _ q4) (htb _ q742) hd_M_unmetTo ⟨Nat.le_of_ble_eq_true rfl, Nat.le_of_ble_eq_true rfl⟩, (htb _ q744), (htb _ sel_M_unmetTo)⟩ ⟨ro_blind, va_recv (hK.sub (tys' := []) [] rfl) hP (ci := 3) (q0 := 0) rfl rfl, ro_pre hN (hP.sub (ws' := (wMS am cm P G X (am 4) (cm 3) (X 1))) [0, 1, 2, 3, 4, 5, 6, 7, 8, 9, 10, 11, 12, 13, 14, 4] rfl) (hK.sub (tys' := (tMS cm (cm 3))) [0, 1, 2, 3, 4, 5, 6, 7, 8, 9, 10, 11, 12, 13, 3] rfl)⟩ rfl rfl hl.1 rfl (lv_room (Nat.le_of_ble_eq_true rfl)) d_M_givesUp_141 ⟨Nat.le_of_ble_eq_true rfl, Nat.le_of_ble_eq_true rfl⟩) (fun r_12 hr_12 => ?_)
              subst hr_12
              refine nr_top (y := nI (unm P (X 1) d p1)) (congrArg nI hut) ?_
              refine lv_iload_n hx hb d_M_givesUp_144 rfl (lv_at hl 5 rfl) ?_
              refine nr_icmp_lt (tgt := 152) hx hb (by omega) (by omega) d_M_givesUp_145 (by decide) (fun c_145 => ?_) (fun c_145 => ?_)
              · refine nr_iconst hx hb 0 d_M_givesUp_152 (by decide) ?_
                exact W.zret (v := (nI 0)) hx hb hr rfl (fun t ht hW => ⟨_, rfl, by rw [gu, decide_eq_false (by rintro (h | h | h | h | h | h); exact b01_z c_40 h; omega; omega; exact h (by rw [c_81]; exact hb0 _); exact c_114 h.1; exact absurd h.2 (by omega))]; rfl, ht⟩) (fun q h => by cases h) d_M_givesUp_153
              · refine nr_iconst hx hb 1 d_M_givesUp_148 (by decide) ?_
                refine lv_goto (tgt := 153) hx hb d_M_givesUp_149 (by decide) ?_
                exact W.zret (v := (nI 1)) hx hb hr rfl (fun t ht hW => ⟨_, rfl, by rw [gu, decide_eq_true (Or.inr (Or.inr (Or.inr (Or.inr (Or.inr ⟨hrt, by omega⟩)))))]; rfl, ht⟩) (fun q h => by cases h) d_M_givesUp_153
            · refine lv_aload_n hx hb d_M_givesUp_117 rfl (lv_at hl 3 rfl) ?_
              refine lv_aload_n hx hb d_M_givesUp_118 rfl (lv_at hl 3 rfl) ?_
              refine va_get (D := D) (ci := 3) (v := .ref (am 4)) (C := R_M) (T := F_M) (N := 26) hx hb htb u_M hown hK hP 0 rfl rfl 7 (by decide) (htb _ q586) (fun _ h9 => h9) rfl d_M_givesUp_119 ?_
              refine lv_iload_n hx hb d_M_givesUp_122 rfl (lv_at hl 2 rfl) ?_
              refine nr_calli (va_runV (As := [.ref (am 4), .int (nI d)]) (rest := []) ⟨hx, hb, hml, hown, hts⟩ (c_M_areMet l D am cm P G X (am 4) (cm 3) (X 1) hP0 hG0 hX0 hx1 d (by omega)) ⟨callB_of 2 hts (gTB q_M_areMet) rfl rfl rfl (htb _ q4) (htb _ q713) hd_M_areMet ⟨Nat.le_of_ble_eq_true rfl, Nat.le_of_ble_eq_true rfl⟩, (htb _ q715), (htb _ sel_M_areMet)⟩ ⟨ro_blind, va_recv (hK.sub (tys' := []) [] rfl) hP (ci := 3) (q0 := 0) rfl rfl, ro_pre hN (hP.sub (ws' := (wMS am cm P G X (am 4) (cm 3) (X 1))) [0, 1, 2, 3, 4, 5, 6, 7, 8, 9, 10, 11, 12, 13, 14, 4] rfl) (hK.sub (tys' := (tMS cm (cm 3))) [0, 1, 2, 3, 4, 5, 6, 7, 8, 9, 10, 11, 12, 13, 3] rfl)⟩ rfl rfl hl.1 rfl (lv_room (Nat.le_of_ble_eq_true rfl)) d_M_givesUp_123 ⟨Nat.le_of_ble_eq_true rfl, Nat.le_of_ble_eq_true rfl⟩) (fun r_13 hr_13 => ?_)
              subst hr_13
              refine nr_if_ne (tgt := 131) hx hb pz_lt d_M_givesUp_126 (by decide) (fun c_126 => ?_) (fun c_126 => ?_)
              · refine lv_iload_n hx hb d_M_givesUp_131 rfl (lv_at hl 5 rfl) ?_
                refine nr_if_lt (tgt := 152) hx hb (by omega) d_M_givesUp_132 (by decide) (fun c_132 => c_132.elim) (fun c_132 => ?_)
                refine lv_aload_n hx hb d_M_givesUp_135 rfl (lv_at hl 3 rfl) ?_
                refine lv_aload_n hx hb d_M_givesUp_136 rfl (lv_at hl 3 rfl) ?_
                refine va_get (D := D) (ci := 3) (v := .ref (am 4)) (C := R_M) (T := F_M) (N := 26) hx hb htb u_M hown hK hP 0 rfl rfl 7 (by decide) (htb _ q586) (fun _ h9 => h9) rfl d_M_givesUp_137 ?_
                refine lv_iload_n hx hb d_M_givesUp_140 rfl (lv_at hl 4 rfl) ?_
                refine nr_calli (va_runV (As := [.ref (am 4), .int (nI pl)]) (rest := []) ⟨hx, hb, hml, hown, hts⟩ (c_M_unmetTo l D am cm P G X (am 4) (cm 3) (X 1) hP0 hG0 hX0 hx1 pl (by omega)) ⟨callB_of 2 hts (gTB q_M_unmetTo) rfl rfl rfl (htb _ q4) (htb _ q742) hd_M_unmetTo ⟨Nat.le_of_ble_eq_true rfl, Nat.le_of_ble_eq_true rfl⟩, (htb _ q744), (htb _ sel_M_unmetTo)⟩ ⟨ro_blind, va_recv (hK.sub (tys' := []) [] rfl) hP (ci := 3) (q0 := 0) rfl rfl, ro_pre hN (hP.sub (ws' := (wMS am cm P G X (am 4) (cm 3) (X 1))) [0, 1, 2, 3, 4, 5, 6, 7, 8, 9, 10, 11, 12, 13, 14, 4] rfl) (hK.sub (tys' := (tMS cm (cm 3))) [0, 1, 2, 3, 4, 5, 6, 7, 8, 9, 10, 11, 12, 13, 3] rfl)⟩ rfl rfl hl.1 rfl (lv_room (Nat.le_of_ble_eq_true rfl)) d_M_givesUp_141 ⟨Nat.le_of_ble_eq_true rfl, Nat.le_of_ble_eq_true rfl⟩) (fun r_14 hr_14 => ?_)
                subst hr_14
                refine nr_top (y := nI (unm P (X 1) d p1)) (congrArg nI hut) ?_
                refine lv_iload_n hx hb d_M_givesUp_144 rfl (lv_at hl 5 rfl) ?_
                refine nr_icmp_lt (tgt := 152) hx hb (by omega) (by omega) d_M_givesUp_145 (by decide) (fun c_145 => ?_) (fun c_145 => ?_)
                · refine nr_iconst hx hb 0 d_M_givesUp_152 (by decide) ?_
                  exact W.zret (v := (nI 0)) hx hb hr rfl (fun t ht hW => ⟨_, rfl, by rw [gu, decide_eq_false (by rintro (h | h | h | h | h | h); exact b01_z c_40 h; omega; omega; exact h (by rw [c_81]; exact hb0 _); exact h.2 (pz_nz c_126); exact absurd h.2 (by omega))]; rfl, ht⟩) (fun q h => by cases h) d_M_givesUp_153
                · refine nr_iconst hx hb 1 d_M_givesUp_148 (by decide) ?_
                  refine lv_goto (tgt := 153) hx hb d_M_givesUp_149 (by decide) ?_
                  exact W.zret (v := (nI 1)) hx hb hr rfl (fun t ht hW => ⟨_, rfl, by rw [gu, decide_eq_true (Or.inr (Or.inr (Or.inr (Or.inr (Or.inr ⟨hrt, by omega⟩)))))]; rfl, ht⟩) (fun q h => by cases h) d_M_givesUp_153
              · refine nr_iconst hx hb 1 d_M_givesUp_129 (by decide) ?_
                exact W.zret (v := (nI 1)) hx hb hr rfl (fun t ht hW => ⟨_, rfl, by rw [gu, decide_eq_true (Or.inr (Or.inr (Or.inr (Or.inr (Or.inl ⟨c_114, pz_z c_126⟩)))))]; rfl, ht⟩) (fun q h => by cases h) d_M_givesUp_130
          · refine lv_aload_n hx hb d_M_givesUp_84 rfl (lv_at hl 3 rfl) ?_
            refine va_get (D := D) (ci := 3) (v := .ref (am 9)) (C := R_M) (T := F_M) (N := 26) hx hb htb u_M hown hK hP 0 rfl rfl 13 (by decide) (htb _ q592) (fun _ h9 => h9) rfl d_M_givesUp_85 ?_
            refine nr_bipush hx hb 24 d_M_givesUp_88 (by decide) ?_
            refine lv_iload_n hx hb d_M_givesUp_90 rfl (lv_at hl 2 rfl) ?_
            refine nr_imul hx hb d_M_givesUp_91 ?_
            refine nr_top (y := nI (d * 24)) (congrArg nI (Nat.mul_comm _ _)) ?_
            refine nr_iconst hx hb 4 d_M_givesUp_92 (by decide) ?_
            refine lv_iload hx hb d_M_givesUp_93 (lv_at hl 1 rfl) ?_
            refine nr_imul hx hb d_M_givesUp_95 ?_
            refine nr_top (y := nI (p1 * 4)) (congrArg nI (Nat.mul_comm _ _)) ?_
            refine nr_iadd hx hb d_M_givesUp_96 ?_
            refine lv_iload hx hb d_M_givesUp_97 (lv_at hl 0 rfl) ?_
            refine nr_iadd hx hb d_M_givesUp_99 ?_
            refine nr_top (y := nI ((d * 6 + p1) * 4 + X 1 (d * 6 + p1))) (congrArg nI (by omega)) ?_
            refine nr_zald hx hb hK hP 9 8 rfl rfl (by omega) (by decide) d_M_givesUp_100 ?_
            have hv_15 := hp5 ((d * 6 + p1) * 4 + X 1 (d * 6 + p1))
            refine nr_if_eq (tgt := 106) hx hb (by omega) d_M_givesUp_101 (by decide) (fun c_101 => ?_) (fun c_101 => ?_)
            · refine lv_iload hx hb d_M_givesUp_106 (lv_at hl 1 rfl) ?_
              refine lv_aload_n hx hb d_M_givesUp_108 rfl (lv_at hl 3 rfl) ?_
              refine va_get (D := D) (ci := 3) (v := .int (nI (P 0 0))) (C := R_M) (T := F_M) (N := 26) hx hb htb u_M hown hK hP 0 rfl rfl 1 (by decide) (htb _ q580) (fun _ h9 => h9) rfl d_M_givesUp_109 ?_
              refine nr_iconst hx hb 1 d_M_givesUp_112 (by decide) ?_
              refine nr_isub hx hb (by omega) d_M_givesUp_113 ?_
              refine nr_icmp_ne (tgt := 131) hx hb (by omega) (by omega) d_M_givesUp_114 (by decide) (fun c_114 => ?_) (fun c_114 => ?_)
              · refine lv_iload_n hx hb d_M_givesUp_131 rfl (lv_at hl 5 rfl) ?_
                refine nr_if_lt (tgt := 152) hx hb (by omega) d_M_givesUp_132 (by decide) (fun c_132 => c_132.elim) (fun c_132 => ?_)
                refine lv_aload_n hx hb d_M_givesUp_135 rfl (lv_at hl 3 rfl) ?_
                refine lv_aload_n hx hb d_M_givesUp_136 rfl (lv_at hl 3 rfl) ?_
                refine va_get (D := D) (ci := 3) (v := .ref (am 4)) (C := R_M) (T := F_M) (N := 26) hx hb htb u_M hown hK hP 0 rfl rfl 7 (by decide) (htb _ q586) (fun _ h9 => h9) rfl d_M_givesUp_137 ?_
                refine lv_iload_n hx hb d_M_givesUp_140 rfl (lv_at hl 4 rfl) ?_
                refine nr_calli (va_runV (As := [.ref (am 4), .int (nI pl)]) (rest := []) ⟨hx, hb, hml, hown, hts⟩ (c_M_unmetTo l D am cm P G X (am 4) (cm 3) (X 1) hP0 hG0 hX0 hx1 pl (by omega)) ⟨callB_of 2 hts (gTB q_M_unmetTo) rfl rfl rfl (htb _ q4) (htb _ q742) hd_M_unmetTo ⟨Nat.le_of_ble_eq_true rfl, Nat.le_of_ble_eq_true rfl⟩, (htb _ q744), (htb _ sel_M_unmetTo)⟩ ⟨ro_blind, va_recv (hK.sub (tys' := []) [] rfl) hP (ci := 3) (q0 := 0) rfl rfl, ro_pre hN (hP.sub (ws' := (wMS am cm P G X (am 4) (cm 3) (X 1))) [0, 1, 2, 3, 4, 5, 6, 7, 8, 9, 10, 11, 12, 13, 14, 4] rfl) (hK.sub (tys' := (tMS cm (cm 3))) [0, 1, 2, 3, 4, 5, 6, 7, 8, 9, 10, 11, 12, 13, 3] rfl)⟩ rfl rfl hl.1 rfl (lv_room (Nat.le_of_ble_eq_true rfl)) d_M_givesUp_141 ⟨Nat.le_of_ble_eq_true rfl, Nat.le_of_ble_eq_true rfl⟩) (fun r_16 hr_16 => ?_)
                subst hr_16
                refine nr_top (y := nI (unm P (X 1) d p1)) (congrArg nI hut) ?_
                refine lv_iload_n hx hb d_M_givesUp_144 rfl (lv_at hl 5 rfl) ?_
                refine nr_icmp_lt (tgt := 152) hx hb (by omega) (by omega) d_M_givesUp_145 (by decide) (fun c_145 => ?_) (fun c_145 => ?_)
                · refine nr_iconst hx hb 0 d_M_givesUp_152 (by decide) ?_
                  exact W.zret (v := (nI 0)) hx hb hr rfl (fun t ht hW => ⟨_, rfl, by rw [gu, decide_eq_false (by rintro (h | h | h | h | h | h); exact b01_z c_40 h; omega; omega; exact h c_101; exact c_114 h.1; exact absurd h.2 (by omega))]; rfl, ht⟩) (fun q h => by cases h) d_M_givesUp_153
                · refine nr_iconst hx hb 1 d_M_givesUp_148 (by decide) ?_
                  refine lv_goto (tgt := 153) hx hb d_M_givesUp_149 (by decide) ?_
                  exact W.zret (v := (nI 1)) hx hb hr rfl (fun t ht hW => ⟨_, rfl, by rw [gu, decide_eq_true (Or.inr (Or.inr (Or.inr (Or.inr (Or.inr ⟨hrt, by omega⟩)))))]; rfl, ht⟩) (fun q h => by cases h) d_M_givesUp_153
              · refine lv_aload_n hx hb d_M_givesUp_117 rfl (lv_at hl 3 rfl) ?_
                refine lv_aload_n hx hb d_M_givesUp_118 rfl (lv_at hl 3 rfl) ?_
                refine va_get (D := D) (ci := 3) (v := .ref (am 4)) (C := R_M) (T := F_M) (N := 26) hx hb htb u_M hown hK hP 0 rfl rfl 7 (by decide) (htb _ q586) (fun _ h9 => h9) rfl d_M_givesUp_119 ?_
                refine lv_iload_n hx hb d_M_givesUp_122 rfl (lv_at hl 2 rfl) ?_
                refine nr_calli (va_runV (As := [.ref (am 4), .int (nI d)]) (rest := []) ⟨hx, hb, hml, hown, hts⟩ (c_M_areMet l D am cm P G X (am 4) (cm 3) (X 1) hP0 hG0 hX0 hx1 d (by omega)) ⟨callB_of 2 hts (gTB q_M_areMet) rfl rfl rfl (htb _ q4) (htb _ q713) hd_M_areMet ⟨Nat.le_of_ble_eq_true rfl, Nat.le_of_ble_eq_true rfl⟩, (htb _ q715), (htb _ sel_M_areMet)⟩ ⟨ro_blind, va_recv (hK.sub (tys' := []) [] rfl) hP (ci := 3) (q0 := 0) rfl rfl, ro_pre hN (hP.sub (ws' := (wMS am cm P G X (am 4) (cm 3) (X 1))) [0, 1, 2, 3, 4, 5, 6, 7, 8, 9, 10, 11, 12, 13, 14, 4] rfl) (hK.sub (tys' := (tMS cm (cm 3))) [0, 1, 2, 3, 4, 5, 6, 7, 8, 9, 10, 11, 12, 13, 3] rfl)⟩ rfl rfl hl.1 rfl (lv_room (Nat.le_of_ble_eq_true rfl)) d_M_givesUp_123 ⟨Nat.le_of_ble_eq_true rfl, Nat.le_of_ble_eq_true rfl⟩) (fun r_17 hr_17 => ?_)
                subst hr_17
                refine nr_if_ne (tgt := 131) hx hb pz_lt d_M_givesUp_126 (by decide) (fun c_126 => ?_) (fun c_126 => ?_)
                · refine lv_iload_n hx hb d_M_givesUp_131 rfl (lv_at hl 5 rfl) ?_
                  refine nr_if_lt (tgt := 152) hx hb (by omega) d_M_givesUp_132 (by decide) (fun c_132 => c_132.elim) (fun c_132 => ?_)
                  refine lv_aload_n hx hb d_M_givesUp_135 rfl (lv_at hl 3 rfl) ?_
                  refine lv_aload_n hx hb d_M_givesUp_136 rfl (lv_at hl 3 rfl) ?_
                  refine va_get (D := D) (ci := 3) (v := .ref (am 4)) (C := R_M) (T := F_M) (N := 26) hx hb htb u_M hown hK hP 0 rfl rfl 7 (by decide) (htb _ q586) (fun _ h9 => h9) rfl d_M_givesUp_137 ?_
                  refine lv_iload_n hx hb d_M_givesUp_140 rfl (lv_at hl 4 rfl) ?_
                  refine nr_calli (va_runV (As := [.ref (am 4), .int (nI pl)]) (rest := []) ⟨hx, hb, hml, hown, hts⟩ (c_M_unmetTo l D am cm P G X (am 4) (cm 3) (X 1) hP0 hG0 hX0 hx1 pl (by omega)) ⟨callB_of 2 hts (gTB q_M_unmetTo) rfl rfl rfl (htb _ q4) (htb _ q742) hd_M_unmetTo ⟨Nat.le_of_ble_eq_true rfl, Nat.le_of_ble_eq_true rfl⟩, (htb _ q744), (htb _ sel_M_unmetTo)⟩ ⟨ro_blind, va_recv (hK.sub (tys' := []) [] rfl) hP (ci := 3) (q0 := 0) rfl rfl, ro_pre hN (hP.sub (ws' := (wMS am cm P G X (am 4) (cm 3) (X 1))) [0, 1, 2, 3, 4, 5, 6, 7, 8, 9, 10, 11, 12, 13, 14, 4] rfl) (hK.sub (tys' := (tMS cm (cm 3))) [0, 1, 2, 3, 4, 5, 6, 7, 8, 9, 10, 11, 12, 13, 3] rfl)⟩ rfl rfl hl.1 rfl (lv_room (Nat.le_of_ble_eq_true rfl)) d_M_givesUp_141 ⟨Nat.le_of_ble_eq_true rfl, Nat.le_of_ble_eq_true rfl⟩) (fun r_18 hr_18 => ?_)
                  subst hr_18
                  refine nr_top (y := nI (unm P (X 1) d p1)) (congrArg nI hut) ?_
                  refine lv_iload_n hx hb d_M_givesUp_144 rfl (lv_at hl 5 rfl) ?_
                  refine nr_icmp_lt (tgt := 152) hx hb (by omega) (by omega) d_M_givesUp_145 (by decide) (fun c_145 => ?_) (fun c_145 => ?_)
                  · refine nr_iconst hx hb 0 d_M_givesUp_152 (by decide) ?_
                    exact W.zret (v := (nI 0)) hx hb hr rfl (fun t ht hW => ⟨_, rfl, by rw [gu, decide_eq_false (by rintro (h | h | h | h | h | h); exact b01_z c_40 h; omega; omega; exact h c_101; exact h.2 (pz_nz c_126); exact absurd h.2 (by omega))]; rfl, ht⟩) (fun q h => by cases h) d_M_givesUp_153
                  · refine nr_iconst hx hb 1 d_M_givesUp_148 (by decide) ?_
                    refine lv_goto (tgt := 153) hx hb d_M_givesUp_149 (by decide) ?_
                    exact W.zret (v := (nI 1)) hx hb hr rfl (fun t ht hW => ⟨_, rfl, by rw [gu, decide_eq_true (Or.inr (Or.inr (Or.inr (Or.inr (Or.inr ⟨hrt, by omega⟩)))))]; rfl, ht⟩) (fun q h => by cases h) d_M_givesUp_153
                · refine nr_iconst hx hb 1 d_M_givesUp_129 (by decide) ?_
                  exact W.zret (v := (nI 1)) hx hb hr rfl (fun t ht hW => ⟨_, rfl, by rw [gu, decide_eq_true (Or.inr (Or.inr (Or.inr (Or.inr (Or.inl ⟨c_114, pz_z c_126⟩)))))]; rfl, ht⟩) (fun q h => by cases h) d_M_givesUp_130
            · refine nr_iconst hx hb 1 d_M_givesUp_104 (by decide) ?_
              exact W.zret (v := (nI 1)) hx hb hr rfl (fun t ht hW => ⟨_, rfl, by rw [gu, decide_eq_true (Or.inr (Or.inr (Or.inr (Or.inl c_101))))]; rfl, ht⟩) (fun q h => by cases h) d_M_givesUp_105
        · refine nr_iconst hx hb 1 d_M_givesUp_77 (by decide) ?_
          exact W.zret (v := (nI 1)) hx hb hr rfl (fun t ht hW => ⟨_, rfl, by rw [gu, decide_eq_true (Or.inr (Or.inr (Or.inl c_74)))]; rfl, ht⟩) (fun q h => by cases h) d_M_givesUp_78
end
