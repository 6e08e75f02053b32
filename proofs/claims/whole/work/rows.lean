section
-- ===== PART A: goes FIRST, ahead of the names: the tables' words, and 'selects' of the private methods out of them =====
/-- a private method of a class that the tables say can be made, by its rows of tables_1 -/
def lw_okq (q : MethodName × Nat) : Prop := (q.1.cls ≠ "java/lang/invoke/MethodHandle" ∧ q.1.cls ≠ "java/lang/invoke/VarHandle") ∧ Cond.instantiable q.1.cls q.2 ∈ tables_1 ∧ Cond.privateMethod q.1 ∈ tables_1 ∧ Cond.instanceMethod q.1 ∈ tables_1
theorem lw_p0 : lw_okq (⟨"FibrePairs$Connection", "tick", "(I)V"⟩, 9) := ⟨⟨by decide +kernel, by decide +kernel⟩, List.mem_of_getElem? (i := 60) (by decide +kernel), List.mem_of_getElem? (i := 123) (by decide +kernel), List.mem_of_getElem? (i := 124) (by decide +kernel)⟩
theorem lw_p1 : lw_okq (⟨"FibrePairs$Connection", "workingIsWhole", "(I)Z"⟩, 9) := ⟨⟨by decide +kernel, by decide +kernel⟩, List.mem_of_getElem? (i := 60) (by decide +kernel), List.mem_of_getElem? (i := 127) (by decide +kernel), List.mem_of_getElem? (i := 128) (by decide +kernel)⟩
theorem lw_p2 : lw_okq (⟨"FibrePairs", "changeOverAll", "()V"⟩, 5) := ⟨⟨by decide +kernel, by decide +kernel⟩, List.mem_of_getElem? (i := 14) (by decide +kernel), List.mem_of_getElem? (i := 131) (by decide +kernel), List.mem_of_getElem? (i := 132) (by decide +kernel)⟩
theorem lw_p3 : lw_okq (⟨"FibrePairs$Connection", "changeOver", "(II)V"⟩, 9) := ⟨⟨by decide +kernel, by decide +kernel⟩, List.mem_of_getElem? (i := 60) (by decide +kernel), List.mem_of_getElem? (i := 135) (by decide +kernel), List.mem_of_getElem? (i := 136) (by decide +kernel)⟩
theorem lw_p4 : lw_okq (⟨"FibrePairs$Connection", "spareIsWhole", "(I)Z"⟩, 9) := ⟨⟨by decide +kernel, by decide +kernel⟩, List.mem_of_getElem? (i := 60) (by decide +kernel), List.mem_of_getElem? (i := 139) (by decide +kernel), List.mem_of_getElem? (i := 140) (by decide +kernel)⟩
theorem lw_p5 : lw_okq (⟨"java/lang/Throwable", "fillInStackTrace", "(I)Ljava/lang/Throwable;"⟩, 6) := ⟨⟨by decide +kernel, by decide +kernel⟩, List.mem_of_getElem? (i := 193) (by decide +kernel), List.mem_of_getElem? (i := 191) (by decide +kernel), List.mem_of_getElem? (i := 192) (by decide +kernel)⟩
theorem lw_p6 : lw_okq (⟨"FibrePairs$Net", "startWith", "(I)V"⟩, 9) := ⟨⟨by decide +kernel, by decide +kernel⟩, List.mem_of_getElem? (i := 22) (by decide +kernel), List.mem_of_getElem? (i := 218) (by decide +kernel), List.mem_of_getElem? (i := 219) (by decide +kernel)⟩
theorem lw_p7 : lw_okq (⟨"FibrePairs", "requireTwoSites", "(II)V"⟩, 5) := ⟨⟨by decide +kernel, by decide +kernel⟩, List.mem_of_getElem? (i := 14) (by decide +kernel), List.mem_of_getElem? (i := 231) (by decide +kernel), List.mem_of_getElem? (i := 232) (by decide +kernel)⟩
theorem lw_p8 : lw_okq (⟨"FibrePairs$Net", "add", "(III)I"⟩, 9) := ⟨⟨by decide +kernel, by decide +kernel⟩, List.mem_of_getElem? (i := 22) (by decide +kernel), List.mem_of_getElem? (i := 265) (by decide +kernel), List.mem_of_getElem? (i := 266) (by decide +kernel)⟩
theorem lw_p9 : lw_okq (⟨"FibrePairs", "leastNotThere", "()I"⟩, 5) := ⟨⟨by decide +kernel, by decide +kernel⟩, List.mem_of_getElem? (i := 14) (by decide +kernel), List.mem_of_getElem? (i := 276) (by decide +kernel), List.mem_of_getElem? (i := 277) (by decide +kernel)⟩
theorem lw_p10 : lw_okq (⟨"FibrePairs$Connection", "ask", "(IIZ)V"⟩, 9) := ⟨⟨by decide +kernel, by decide +kernel⟩, List.mem_of_getElem? (i := 60) (by decide +kernel), List.mem_of_getElem? (i := 280) (by decide +kernel), List.mem_of_getElem? (i := 281) (by decide +kernel)⟩
theorem lw_p11 : lw_okq (⟨"FibrePairs", "lay", "(LFibrePairs$Connection;I)Z"⟩, 5) := ⟨⟨by decide +kernel, by decide +kernel⟩, List.mem_of_getElem? (i := 14) (by decide +kernel), List.mem_of_getElem? (i := 284) (by decide +kernel), List.mem_of_getElem? (i := 285) (by decide +kernel)⟩
theorem lw_p12 : lw_okq (⟨"FibrePairs", "freeOn", "(I)I"⟩, 5) := ⟨⟨by decide +kernel, by decide +kernel⟩, List.mem_of_getElem? (i := 14) (by decide +kernel), List.mem_of_getElem? (i := 288) (by decide +kernel), List.mem_of_getElem? (i := 289) (by decide +kernel)⟩
theorem lw_p13 : lw_okq (⟨"FibrePairs$Connection", "usedOn", "(I)I"⟩, 9) := ⟨⟨by decide +kernel, by decide +kernel⟩, List.mem_of_getElem? (i := 60) (by decide +kernel), List.mem_of_getElem? (i := 292) (by decide +kernel), List.mem_of_getElem? (i := 293) (by decide +kernel)⟩
theorem lw_p14 : lw_okq (⟨"FibrePairs$Net", "everyFibre", "()I"⟩, 9) := ⟨⟨by decide +kernel, by decide +kernel⟩, List.mem_of_getElem? (i := 22) (by decide +kernel), List.mem_of_getElem? (i := 296) (by decide +kernel), List.mem_of_getElem? (i := 297) (by decide +kernel)⟩
theorem lw_p15 : lw_okq (⟨"FibrePairs$Net", "bestPair", "(III)I"⟩, 9) := ⟨⟨by decide +kernel, by decide +kernel⟩, List.mem_of_getElem? (i := 22) (by decide +kernel), List.mem_of_getElem? (i := 300) (by decide +kernel), List.mem_of_getElem? (i := 301) (by decide +kernel)⟩
def lw_privs_1 : List (MethodName × Nat) := [(⟨"FibrePairs$Connection", "tick", "(I)V"⟩, 9), (⟨"FibrePairs$Connection", "workingIsWhole", "(I)Z"⟩, 9), (⟨"FibrePairs", "changeOverAll", "()V"⟩, 5), (⟨"FibrePairs$Connection", "changeOver", "(II)V"⟩, 9), (⟨"FibrePairs$Connection", "spareIsWhole", "(I)Z"⟩, 9), (⟨"java/lang/Throwable", "fillInStackTrace", "(I)Ljava/lang/Throwable;"⟩, 6), (⟨"FibrePairs$Net", "startWith", "(I)V"⟩, 9), (⟨"FibrePairs", "requireTwoSites", "(II)V"⟩, 5), (⟨"FibrePairs$Net", "add", "(III)I"⟩, 9), (⟨"FibrePairs", "leastNotThere", "()I"⟩, 5), (⟨"FibrePairs$Connection", "ask", "(IIZ)V"⟩, 9), (⟨"FibrePairs", "lay", "(LFibrePairs$Connection;I)Z"⟩, 5), (⟨"FibrePairs", "freeOn", "(I)I"⟩, 5), (⟨"FibrePairs$Connection", "usedOn", "(I)I"⟩, 9), (⟨"FibrePairs$Net", "everyFibre", "()I"⟩, 9), (⟨"FibrePairs$Net", "bestPair", "(III)I"⟩, 9)]
theorem lw_r1 : ∀ q ∈ lw_privs_1, lw_okq q := List.forall_mem_cons.mpr ⟨lw_p0, List.forall_mem_cons.mpr ⟨lw_p1, List.forall_mem_cons.mpr ⟨lw_p2, List.forall_mem_cons.mpr ⟨lw_p3, List.forall_mem_cons.mpr ⟨lw_p4, List.forall_mem_cons.mpr ⟨lw_p5, List.forall_mem_cons.mpr ⟨lw_p6, List.forall_mem_cons.mpr ⟨lw_p7, List.forall_mem_cons.mpr ⟨lw_p8, List.forall_mem_cons.mpr ⟨lw_p9, List.forall_mem_cons.mpr ⟨lw_p10, List.forall_mem_cons.mpr ⟨lw_p11, List.forall_mem_cons.mpr ⟨lw_p12, List.forall_mem_cons.mpr ⟨lw_p13, List.forall_mem_cons.mpr ⟨lw_p14, List.forall_mem_cons.mpr ⟨lw_p15, fun _ h => absurd h List.not_mem_nil⟩⟩⟩⟩⟩⟩⟩⟩⟩⟩⟩⟩⟩⟩⟩⟩
theorem lw_p16 : lw_okq (⟨"FibrePairs$Net", "bestPath", "(III)I"⟩, 9) := ⟨⟨by decide +kernel, by decide +kernel⟩, List.mem_of_getElem? (i := 22) (by decide +kernel), List.mem_of_getElem? (i := 304) (by decide +kernel), List.mem_of_getElem? (i := 305) (by decide +kernel)⟩
theorem lw_p17 : lw_okq (⟨"FibrePairs$Net", "openBothWays", "(I)V"⟩, 9) := ⟨⟨by decide +kernel, by decide +kernel⟩, List.mem_of_getElem? (i := 22) (by decide +kernel), List.mem_of_getElem? (i := 308) (by decide +kernel), List.mem_of_getElem? (i := 309) (by decide +kernel)⟩
theorem lw_p18 : lw_okq (⟨"FibrePairs$Net", "weight", "(I)I"⟩, 9) := ⟨⟨by decide +kernel, by decide +kernel⟩, List.mem_of_getElem? (i := 22) (by decide +kernel), List.mem_of_getElem? (i := 315) (by decide +kernel), List.mem_of_getElem? (i := 316) (by decide +kernel)⟩
theorem lw_p19 : lw_okq (⟨"FibrePairs$Net", "cheapestWay", "(II)I"⟩, 9) := ⟨⟨by decide +kernel, by decide +kernel⟩, List.mem_of_getElem? (i := 22) (by decide +kernel), List.mem_of_getElem? (i := 320) (by decide +kernel), List.mem_of_getElem? (i := 321) (by decide +kernel)⟩
theorem lw_p20 : lw_okq (⟨"FibrePairs$Net", "extend", "(IIII)Z"⟩, 9) := ⟨⟨by decide +kernel, by decide +kernel⟩, List.mem_of_getElem? (i := 22) (by decide +kernel), List.mem_of_getElem? (i := 327) (by decide +kernel), List.mem_of_getElem? (i := 328) (by decide +kernel)⟩
theorem lw_p21 : lw_okq (⟨"FibrePairs$Net", "openBackOnly", "(II)V"⟩, 9) := ⟨⟨by decide +kernel, by decide +kernel⟩, List.mem_of_getElem? (i := 22) (by decide +kernel), List.mem_of_getElem? (i := 331) (by decide +kernel), List.mem_of_getElem? (i := 332) (by decide +kernel)⟩
theorem lw_p22 : lw_okq (⟨"FibrePairs$Net", "touching", "(II)I"⟩, 9) := ⟨⟨by decide +kernel, by decide +kernel⟩, List.mem_of_getElem? (i := 22) (by decide +kernel), List.mem_of_getElem? (i := 335) (by decide +kernel), List.mem_of_getElem? (i := 336) (by decide +kernel)⟩
theorem lw_p23 : lw_okq (⟨"FibrePairs$Net", "otherEnd", "(II)I"⟩, 9) := ⟨⟨by decide +kernel, by decide +kernel⟩, List.mem_of_getElem? (i := 22) (by decide +kernel), List.mem_of_getElem? (i := 339) (by decide +kernel), List.mem_of_getElem? (i := 340) (by decide +kernel)⟩
theorem lw_p24 : lw_okq (⟨"FibrePairs$Connection", "settle", "(III)V"⟩, 9) := ⟨⟨by decide +kernel, by decide +kernel⟩, List.mem_of_getElem? (i := 60) (by decide +kernel), List.mem_of_getElem? (i := 344) (by decide +kernel), List.mem_of_getElem? (i := 345) (by decide +kernel)⟩
theorem lw_p25 : lw_okq (⟨"FibrePairs", "requireConnection", "(I)V"⟩, 5) := ⟨⟨by decide +kernel, by decide +kernel⟩, List.mem_of_getElem? (i := 14) (by decide +kernel), List.mem_of_getElem? (i := 355) (by decide +kernel), List.mem_of_getElem? (i := 356) (by decide +kernel)⟩
theorem lw_p26 : lw_okq (⟨"FibrePairs", "requireFibre", "(I)V"⟩, 5) := ⟨⟨by decide +kernel, by decide +kernel⟩, List.mem_of_getElem? (i := 14) (by decide +kernel), List.mem_of_getElem? (i := 366) (by decide +kernel), List.mem_of_getElem? (i := 367) (by decide +kernel)⟩
theorem lw_p27 : lw_okq (⟨"FibrePairs$Net", "step", "(III)I"⟩, 9) := ⟨⟨by decide +kernel, by decide +kernel⟩, List.mem_of_getElem? (i := 22) (by decide +kernel), List.mem_of_getElem? (i := 399) (by decide +kernel), List.mem_of_getElem? (i := 400) (by decide +kernel)⟩
theorem lw_p28 : lw_okq (⟨"FibrePairs$Net", "lengthOf", "(I)I"⟩, 9) := ⟨⟨by decide +kernel, by decide +kernel⟩, List.mem_of_getElem? (i := 22) (by decide +kernel), List.mem_of_getElem? (i := 416) (by decide +kernel), List.mem_of_getElem? (i := 417) (by decide +kernel)⟩
theorem lw_p29 : lw_okq (⟨"FibrePairs", "connectionsThere", "()I"⟩, 5) := ⟨⟨by decide +kernel, by decide +kernel⟩, List.mem_of_getElem? (i := 14) (by decide +kernel), List.mem_of_getElem? (i := 458) (by decide +kernel), List.mem_of_getElem? (i := 459) (by decide +kernel)⟩
theorem lw_p30 : lw_okq (⟨"FibrePairsModel", "noSite", "(I)Z"⟩, 24) := ⟨⟨by decide +kernel, by decide +kernel⟩, List.mem_of_getElem? (i := 463) (by decide +kernel), List.mem_of_getElem? (i := 555) (by decide +kernel), List.mem_of_getElem? (i := 556) (by decide +kernel)⟩
theorem lw_p31 : lw_okq (⟨"FibrePairsModel", "unused", "()I"⟩, 24) := ⟨⟨by decide +kernel, by decide +kernel⟩, List.mem_of_getElem? (i := 463) (by decide +kernel), List.mem_of_getElem? (i := 563) (by decide +kernel), List.mem_of_getElem? (i := 564) (by decide +kernel)⟩
def lw_privs_2 : List (MethodName × Nat) := [(⟨"FibrePairs$Net", "bestPath", "(III)I"⟩, 9), (⟨"FibrePairs$Net", "openBothWays", "(I)V"⟩, 9), (⟨"FibrePairs$Net", "weight", "(I)I"⟩, 9), (⟨"FibrePairs$Net", "cheapestWay", "(II)I"⟩, 9), (⟨"FibrePairs$Net", "extend", "(IIII)Z"⟩, 9), (⟨"FibrePairs$Net", "openBackOnly", "(II)V"⟩, 9), (⟨"FibrePairs$Net", "touching", "(II)I"⟩, 9), (⟨"FibrePairs$Net", "otherEnd", "(II)I"⟩, 9), (⟨"FibrePairs$Connection", "settle", "(III)V"⟩, 9), (⟨"FibrePairs", "requireConnection", "(I)V"⟩, 5), (⟨"FibrePairs", "requireFibre", "(I)V"⟩, 5), (⟨"FibrePairs$Net", "step", "(III)I"⟩, 9), (⟨"FibrePairs$Net", "lengthOf", "(I)I"⟩, 9), (⟨"FibrePairs", "connectionsThere", "()I"⟩, 5), (⟨"FibrePairsModel", "noSite", "(I)Z"⟩, 24), (⟨"FibrePairsModel", "unused", "()I"⟩, 24)]
theorem lw_r2 : ∀ q ∈ lw_privs_2, lw_okq q := List.forall_mem_cons.mpr ⟨lw_p16, List.forall_mem_cons.mpr ⟨lw_p17, List.forall_mem_cons.mpr ⟨lw_p18, List.forall_mem_cons.mpr ⟨lw_p19, List.forall_mem_cons.mpr ⟨lw_p20, List.forall_mem_cons.mpr ⟨lw_p21, List.forall_mem_cons.mpr ⟨lw_p22, List.forall_mem_cons.mpr ⟨lw_p23, List.forall_mem_cons.mpr ⟨lw_p24, List.forall_mem_cons.mpr ⟨lw_p25, List.forall_mem_cons.mpr ⟨lw_p26, List.forall_mem_cons.mpr ⟨lw_p27, List.forall_mem_cons.mpr ⟨lw_p28, List.forall_mem_cons.mpr ⟨lw_p29, List.forall_mem_cons.mpr ⟨lw_p30, List.forall_mem_cons.mpr ⟨lw_p31, fun _ h => absurd h List.not_mem_nil⟩⟩⟩⟩⟩⟩⟩⟩⟩⟩⟩⟩⟩⟩⟩⟩
theorem lw_p32 : lw_okq (⟨"FibrePairsModel", "find", "(IIIZ)Z"⟩, 24) := ⟨⟨by decide +kernel, by decide +kernel⟩, List.mem_of_getElem? (i := 463) (by decide +kernel), List.mem_of_getElem? (i := 567) (by decide +kernel), List.mem_of_getElem? (i := 568) (by decide +kernel)⟩
theorem lw_p33 : lw_okq (⟨"FibrePairsModel", "free", "(I)I"⟩, 24) := ⟨⟨by decide +kernel, by decide +kernel⟩, List.mem_of_getElem? (i := 463) (by decide +kernel), List.mem_of_getElem? (i := 571) (by decide +kernel), List.mem_of_getElem? (i := 572) (by decide +kernel)⟩
theorem lw_p34 : lw_okq (⟨"FibrePairsModel", "userOf", "(II)I"⟩, 24) := ⟨⟨by decide +kernel, by decide +kernel⟩, List.mem_of_getElem? (i := 463) (by decide +kernel), List.mem_of_getElem? (i := 575) (by decide +kernel), List.mem_of_getElem? (i := 576) (by decide +kernel)⟩
theorem lw_p35 : lw_okq (⟨"FibrePairsModel", "findPair", "(III)Z"⟩, 24) := ⟨⟨by decide +kernel, by decide +kernel⟩, List.mem_of_getElem? (i := 463) (by decide +kernel), List.mem_of_getElem? (i := 582) (by decide +kernel), List.mem_of_getElem? (i := 583) (by decide +kernel)⟩
theorem lw_p36 : lw_okq (⟨"FibrePairsModel", "list", "(III)V"⟩, 24) := ⟨⟨by decide +kernel, by decide +kernel⟩, List.mem_of_getElem? (i := 463) (by decide +kernel), List.mem_of_getElem? (i := 586) (by decide +kernel), List.mem_of_getElem? (i := 587) (by decide +kernel)⟩
theorem lw_p37 : lw_okq (⟨"FibrePairsModel", "lengthOf", "(I)I"⟩, 24) := ⟨⟨by decide +kernel, by decide +kernel⟩, List.mem_of_getElem? (i := 463) (by decide +kernel), List.mem_of_getElem? (i := 590) (by decide +kernel), List.mem_of_getElem? (i := 591) (by decide +kernel)⟩
theorem lw_p38 : lw_okq (⟨"FibrePairsModel", "leads", "(III)I"⟩, 24) := ⟨⟨by decide +kernel, by decide +kernel⟩, List.mem_of_getElem? (i := 463) (by decide +kernel), List.mem_of_getElem? (i := 594) (by decide +kernel), List.mem_of_getElem? (i := 595) (by decide +kernel)⟩
theorem lw_p39 : lw_okq (⟨"FibrePairsModel", "findPath", "(III)Z"⟩, 24) := ⟨⟨by decide +kernel, by decide +kernel⟩, List.mem_of_getElem? (i := 463) (by decide +kernel), List.mem_of_getElem? (i := 602) (by decide +kernel), List.mem_of_getElem? (i := 603) (by decide +kernel)⟩
theorem lw_p40 : lw_okq (⟨"FibrePairsModel", "take", "(II)V"⟩, 24) := ⟨⟨by decide +kernel, by decide +kernel⟩, List.mem_of_getElem? (i := 463) (by decide +kernel), List.mem_of_getElem? (i := 606) (by decide +kernel), List.mem_of_getElem? (i := 607) (by decide +kernel)⟩
theorem lw_p41 : lw_okq (⟨"FibrePairsModel", "noConnection", "(I)Z"⟩, 24) := ⟨⟨by decide +kernel, by decide +kernel⟩, List.mem_of_getElem? (i := 463) (by decide +kernel), List.mem_of_getElem? (i := 614) (by decide +kernel), List.mem_of_getElem? (i := 615) (by decide +kernel)⟩
theorem lw_p42 : lw_okq (⟨"FibrePairsModel", "noFibre", "(I)Z"⟩, 24) := ⟨⟨by decide +kernel, by decide +kernel⟩, List.mem_of_getElem? (i := 463) (by decide +kernel), List.mem_of_getElem? (i := 622) (by decide +kernel), List.mem_of_getElem? (i := 623) (by decide +kernel)⟩
theorem lw_p43 : lw_okq (⟨"FibrePairsModel", "settle", "()V"⟩, 24) := ⟨⟨by decide +kernel, by decide +kernel⟩, List.mem_of_getElem? (i := 463) (by decide +kernel), List.mem_of_getElem? (i := 630) (by decide +kernel), List.mem_of_getElem? (i := 631) (by decide +kernel)⟩
theorem lw_p44 : lw_okq (⟨"FibrePairsModel", "whole", "(I)Z"⟩, 24) := ⟨⟨by decide +kernel, by decide +kernel⟩, List.mem_of_getElem? (i := 463) (by decide +kernel), List.mem_of_getElem? (i := 634) (by decide +kernel), List.mem_of_getElem? (i := 635) (by decide +kernel)⟩
def lw_privs_3 : List (MethodName × Nat) := [(⟨"FibrePairsModel", "find", "(IIIZ)Z"⟩, 24), (⟨"FibrePairsModel", "free", "(I)I"⟩, 24), (⟨"FibrePairsModel", "userOf", "(II)I"⟩, 24), (⟨"FibrePairsModel", "findPair", "(III)Z"⟩, 24), (⟨"FibrePairsModel", "list", "(III)V"⟩, 24), (⟨"FibrePairsModel", "lengthOf", "(I)I"⟩, 24), (⟨"FibrePairsModel", "leads", "(III)I"⟩, 24), (⟨"FibrePairsModel", "findPath", "(III)Z"⟩, 24), (⟨"FibrePairsModel", "take", "(II)V"⟩, 24), (⟨"FibrePairsModel", "noConnection", "(I)Z"⟩, 24), (⟨"FibrePairsModel", "noFibre", "(I)Z"⟩, 24), (⟨"FibrePairsModel", "settle", "()V"⟩, 24), (⟨"FibrePairsModel", "whole", "(I)Z"⟩, 24)]
theorem lw_r3 : ∀ q ∈ lw_privs_3, lw_okq q := List.forall_mem_cons.mpr ⟨lw_p32, List.forall_mem_cons.mpr ⟨lw_p33, List.forall_mem_cons.mpr ⟨lw_p34, List.forall_mem_cons.mpr ⟨lw_p35, List.forall_mem_cons.mpr ⟨lw_p36, List.forall_mem_cons.mpr ⟨lw_p37, List.forall_mem_cons.mpr ⟨lw_p38, List.forall_mem_cons.mpr ⟨lw_p39, List.forall_mem_cons.mpr ⟨lw_p40, List.forall_mem_cons.mpr ⟨lw_p41, List.forall_mem_cons.mpr ⟨lw_p42, List.forall_mem_cons.mpr ⟨lw_p43, List.forall_mem_cons.mpr ⟨lw_p44, fun _ h => absurd h List.not_mem_nil⟩⟩⟩⟩⟩⟩⟩⟩⟩⟩⟩⟩⟩
def lw_privs : List (MethodName × Nat) := lw_privs_1 ++ (lw_privs_2 ++ (lw_privs_3))
def lw_tbl : List Cond := k2_sels lw_privs ++ tables_1
theorem lw_privs_ok : ∀ q ∈ lw_privs, lw_okq q := by
  show ∀ q ∈ lw_privs_1 ++ (lw_privs_2 ++ (lw_privs_3)), lw_okq q
  exact List.forall_mem_append.mpr ⟨lw_r1, List.forall_mem_append.mpr ⟨lw_r2, lw_r3⟩⟩
end
section
/-! 02.mini: a small machine of our own over the same instructions: a world is a list of cells, a reference is a place in it; the k-th cell lies at the address base + k. '.retAddr' stands for the script. -/
abbrev xm_I : Type := Nat × ClassFile.Instr × Nat × Nat × Nat × Nat
abbrev xm_Hd : Type := Nat × Nat × Nat × Nat × Nat
/-- a method: its name, its bytes, how many locals, what it returns, its handlers (start, end, target, catch type, class), its instructions (pc, instruction, four numbers), its fields' owner -/
abbrev xm_M : Type := MethodName × ByteArray × Nat × Option ClassFile.FieldType × List xm_Hd × List xm_I
abbrev xm_F : Type := Nat × List (Option Value) × List Value
/-- the world: its cells, how many slots were made, whether nothing was written yet in this frame -/
abbrev xm_S : Type := List va_E × Nat × Bool
abbrev xm_A : Type := (xm_F × xm_S) ⊕ (Option Value) ⊕ Nat ⊕ (Nat × List Value × List Value)
/-- a value's kind fits a field: 0 int, 1 boolean, 2 reference -/
def xm_fit : Nat → Value → Bool
  | 0, .int _ => true
  | 1, .int x => x == 0 || x == 1
  | 2, .ref _ => true
  | 2, .null => true
  | _, _ => false
def xm_cat : Value → Bool
  | .int _ => true
  | .ref _ => true
  | .null => true
  | _ => false
def xm_isO : Option ClassFile.FieldType → Bool
  | some (.object _) => true
  | _ => false
/-- one instruction (what is no step of its own world: a return, a throw, a call) -/
def xm_ins (xs : Nat → Int32) (LS : Nat) (kt : List ClassFile.FieldType) (i : ClassFile.Instr) (a b k d pc : Nat) (L : List (Option Value)) (st : List Value) (S : xm_S) : Option xm_A :=
  match i, st with
  | .iconst n, st => some (.inl ((pc + 1, L, .int (Int32.ofInt n) :: st), S))
  | .bipush n, st => some (.inl ((pc + 2, L, .int (Int8.ofInt n).toInt32 :: st), S))
  | .sipush n, st => some (.inl ((pc + 3, L, .int (Int16.ofInt n).toInt32 :: st), S))
  | .ldc _, st => some (.inl ((pc + 2, L, .int (Int32.ofNat a) :: st), S))
  | .ldc_w _, st => some (.inl ((pc + 3, L, .int (Int32.ofNat a) :: st), S))
  | .iload j, st => match L[j]? with
    | some (some (.int x)) => some (.inl ((pc + 2, L, .int x :: st), S))
    | _ => none
  | .iload_n j, st => match L[j.val]? with
    | some (some (.int x)) => some (.inl ((pc + 1, L, .int x :: st), S))
    | _ => none
  | .aload j, st => match L[j]? with
    | some (some (.ref x)) => some (.inl ((pc + 2, L, .ref x :: st), S))
    | some (some (.retAddr x)) => some (.inl ((pc + 2, L, .retAddr x :: st), S))
    | _ => none
  | .aload_n j, st => match L[j.val]? with
    | some (some (.ref x)) => some (.inl ((pc + 1, L, .ref x :: st), S))
    | some (some (.retAddr x)) => some (.inl ((pc + 1, L, .retAddr x :: st), S))
    | _ => none
  | .istore j, .int x :: st => if j < L.length then some (.inl ((pc + 2, L.set j (some (.int x)), st), S)) else none
  | .istore_n j, .int x :: st => if j.val < L.length then some (.inl ((pc + 1, L.set j.val (some (.int x)), st), S)) else none
  | .astore j, .ref x :: st => if j < L.length then some (.inl ((pc + 2, L.set j (some (.ref x)), st), S)) else none
  | .astore_n j, .ref x :: st => if j.val < L.length then some (.inl ((pc + 1, L.set j.val (some (.ref x)), st), S)) else none
  | .iinc j n, st => match L[j]? with
    | some (some (.int x)) => some (.inl ((pc + 3, L.set j (some (.int (x + Int32.ofInt n))), st), S))
    | _ => none
  | .iadd, .int y :: .int x :: st => some (.inl ((pc + 1, L, .int (x + y) :: st), S))
  | .isub, .int y :: .int x :: st => some (.inl ((pc + 1, L, .int (x - y) :: st), S))
  | .imul, .int y :: .int x :: st => some (.inl ((pc + 1, L, .int (x * y) :: st), S))
  | .iand, .int y :: .int x :: st => some (.inl ((pc + 1, L, .int (x &&& y) :: st), S))
  | .ior, .int y :: .int x :: st => some (.inl ((pc + 1, L, .int (x ||| y) :: st), S))
  | .ixor, .int y :: .int x :: st => some (.inl ((pc + 1, L, .int (x ^^^ y) :: st), S))
  | .ishl, .int y :: .int x :: st => some (.inl ((pc + 1, L, .int (x <<< (y &&& 31)) :: st), S))
  | .ishr, .int y :: .int x :: st => some (.inl ((pc + 1, L, .int (x >>> (y &&& 31)) :: st), S))
  | .iushr, .int y :: .int x :: st => some (.inl ((pc + 1, L, .int (x.toUInt32 >>> (y.toUInt32 &&& Int32.toUInt32 31)).toInt32 :: st), S))
  | .ineg, .int x :: st => some (.inl ((pc + 1, L, .int (-x) :: st), S))
  | .i2l, .int x :: st => some (.inl ((pc + 1, L, .long x.toInt64 :: st), S))
  | .lcmp, .long y :: .long x :: st => some (.inl ((pc + 1, L, .int (lg_cmp x y) :: st), S))
  | .dup, v :: st => if xm_cat v then some (.inl ((pc + 1, L, v :: v :: st), S)) else none
  | .pop, v :: st => if xm_cat v then some (.inl ((pc + 1, L, st), S)) else none
  | .ifCond .eq _, .int x :: st => some (.inl ((if x = 0 then a else pc + 3, L, st), S))
  | .ifCond .ne _, .int x :: st => some (.inl ((if ¬ x = 0 then a else pc + 3, L, st), S))
  | .ifCond .lt _, .int x :: st => some (.inl ((if x < 0 then a else pc + 3, L, st), S))
  | .ifCond .ge _, .int x :: st => some (.inl ((if 0 ≤ x then a else pc + 3, L, st), S))
  | .ifCond .gt _, .int x :: st => some (.inl ((if 0 < x then a else pc + 3, L, st), S))
  | .ifCond .le _, .int x :: st => some (.inl ((if x ≤ 0 then a else pc + 3, L, st), S))
  | .if_icmp .eq _, .int y :: .int x :: st => some (.inl ((if x = y then a else pc + 3, L, st), S))
  | .if_icmp .ne _, .int y :: .int x :: st => some (.inl ((if ¬ x = y then a else pc + 3, L, st), S))
  | .if_icmp .lt _, .int y :: .int x :: st => some (.inl ((if x < y then a else pc + 3, L, st), S))
  | .if_icmp .ge _, .int y :: .int x :: st => some (.inl ((if y ≤ x then a else pc + 3, L, st), S))
  | .if_icmp .gt _, .int y :: .int x :: st => some (.inl ((if y < x then a else pc + 3, L, st), S))
  | .if_icmp .le _, .int y :: .int x :: st => some (.inl ((if x ≤ y then a else pc + 3, L, st), S))
  | .goto _, st => some (.inl ((a, L, st), S))
  | .tableswitch dflt lo hi offs, .int x :: st => if x.toInt < lo ∨ hi < x.toInt then some (.inl ((((pc : Int) + dflt).toNat, L, st), S)) else match offs[(x.toInt - lo).toNat]? with
    | some off => some (.inl ((((pc : Int) + off).toNat, L, st), S))
    | none => none
  | .getfield _, .ref r :: st => match S.1[r]? with
    | some (.inr (ci, fs)) => if ci = a then match fs[b]? with
      | some v => some (.inl ((pc + 3, L, v :: st), S))
      | none => none
      else none
    | _ => none
  | .putfield _, v :: .ref r :: st => match S.1[r]? with
    | some (.inr (ci, fs)) => if ci = a ∧ b < fs.length ∧ xm_fit d v = true then some (.inl ((pc + 3, L, st), (S.1.set r (.inr (ci, fs.set b v)), S.2.1, false))) else none
    | _ => none
  | .iaload, .int j :: .retAddr _ :: st => if ¬ (j < 0 ∨ LS ≤ j.toNatClampNeg) then some (.inl ((pc + 1, L, .int (xs j.toNatClampNeg) :: st), S)) else none
  | .iaload, .int j :: .ref r :: st => match S.1[r]? with
    | some (.inl (q, n, .inl f)) => if kt[q]? = some .int ∧ ¬ (j < 0 ∨ n ≤ j.toNatClampNeg) then some (.inl ((pc + 1, L, .int (f j.toNatClampNeg) :: st), S)) else none
    | _ => none
  | .iastore, .int x :: .int j :: .ref r :: st => match S.1[r]? with
    | some (.inl (q, n, .inl f)) => if kt[q]? = some .int ∧ ¬ (j < 0 ∨ n ≤ j.toNatClampNeg) then some (.inl ((pc + 1, L, st), (S.1.set r (.inl (q, n, .inl (upd f j.toNatClampNeg x))), S.2.1, false))) else none
    | _ => none
  | .baload, .int j :: .ref r :: st => match S.1[r]? with
    | some (.inl (q, n, .inl f)) => if kt[q]? = some .boolean ∧ ¬ (j < 0 ∨ n ≤ j.toNatClampNeg) then some (.inl ((pc + 1, L, .int (f j.toNatClampNeg) :: st), S)) else none
    | _ => none
  | .bastore, .int x :: .int j :: .ref r :: st => match S.1[r]? with
    | some (.inl (q, n, .inl f)) => if kt[q]? = some .boolean ∧ ¬ (j < 0 ∨ n ≤ j.toNatClampNeg) then some (.inl ((pc + 1, L, st), (S.1.set r (.inl (q, n, .inl (upd f j.toNatClampNeg (vp_nar .boolean x)))), S.2.1, false))) else none
    | _ => none
  | .laload, .int j :: .ref r :: st => match S.1[r]? with
    | some (.inl (q, n, .inr (.inl f))) => if kt[q]? = some .long ∧ ¬ (j < 0 ∨ n ≤ j.toNatClampNeg) then some (.inl ((pc + 1, L, .long (f j.toNatClampNeg) :: st), S)) else none
    | _ => none
  | .lastore, .long x :: .int j :: .ref r :: st => match S.1[r]? with
    | some (.inl (q, n, .inr (.inl f))) => if kt[q]? = some .long ∧ ¬ (j < 0 ∨ n ≤ j.toNatClampNeg) then some (.inl ((pc + 1, L, st), (S.1.set r (.inl (q, n, .inr (.inl (vp_updL f j.toNatClampNeg x)))), S.2.1, false))) else none
    | _ => none
  | .aaload, .int j :: .ref r :: st => match S.1[r]? with
    | some (.inl (q, n, .inr (.inr (.inr (.inr f))))) => if xm_isO kt[q]? = true ∧ ¬ (j < 0 ∨ n ≤ j.toNatClampNeg) then some (.inl ((pc + 1, L, va_rf (f j.toNatClampNeg) :: st), S)) else none
    | _ => none
  | .arraylength, .retAddr _ :: st => some (.inl ((pc + 1, L, .int (Int32.ofNat LS) :: st), S))
  | .arraylength, .ref r :: st => match S.1[r]? with
    | some (.inl (q, x)) => if q < kt.length then some (.inl ((pc + 1, L, .int (Int32.ofNat x.1) :: st), S)) else none
    | _ => none
  | _, _ => none

/-- a blank array of a kind -/
def xm_blank : Option ClassFile.FieldType → Option ((Nat → Int32) ⊕ (Nat → Int64) ⊕ (Nat → UInt32) ⊕ (Nat → UInt64) ⊕ (Nat → Option Nat))
  | some .int => some (.inl (fun _ => 0))
  | some .boolean => some (.inl (fun _ => 0))
  | some .long => some (.inr (.inl (fun _ => 0)))
  | _ => none
/-- what makes cells, what calls, what returns, what throws -/
def xm_big (kt : List ClassFile.FieldType) (df : List (List Value)) (i : ClassFile.Instr) (a b k d pc : Nat) (L : List (Option Value)) (st : List Value) (S : xm_S) : Option xm_A :=
  match i, st with
  | .ireturn, [.int x] => if d = 0 then some (.inr (.inl (some (.int x)))) else if x = 0 ∨ x = 1 then some (.inr (.inl (some (.int x)))) else none
  | .return_, [] => some (.inr (.inl none))
  | .new _, st => if d = 1 then (if st.length ≤ 4 then some (.inr (.inr (.inl a))) else none) else match df[a]? with
    | some fs => some (.inl ((pc + 3, L, .ref S.1.length :: st), (S.1 ++ [.inr (a, fs)], S.2.1 + fs.length, false)))
    | none => none
  | .newarray _, .int n :: st => match xm_blank kt[a]? with
    | some x => if ¬ n < 0 ∧ n.toNatClampNeg ≤ 100000 then some (.inl ((pc + 2, L, .ref S.1.length :: st), (S.1 ++ [.inl (a, n.toNatClampNeg, x)], S.2.1 + n.toNatClampNeg, false))) else none
    | none => none
  | .anewarray _, .int n :: st => if xm_isO kt[a]? = true ∧ ¬ n < 0 ∧ n.toNatClampNeg ≤ 100000 then some (.inl ((pc + 3, L, .ref S.1.length :: st), (S.1 ++ [.inl (a, n.toNatClampNeg, .inr (.inr (.inr (.inr (fun _ => none)))))], S.2.1 + n.toNatClampNeg, false))) else none
  | .aastore, .ref v :: .int j :: .ref r :: st => match S.1[r]?, S.1[v]? with
    | some (.inl (q, n, .inr (.inr (.inr (.inr f))))), some (.inr (ci, _)) => if q = a ∧ ci = b ∧ ¬ (j < 0 ∨ n ≤ j.toNatClampNeg) then some (.inl ((pc + 1, L, st), (S.1.set r (.inl (q, n, .inr (.inr (.inr (.inr (va_up f j.toNatClampNeg (some v))))))), S.2.1, false))) else none
    | _, _ => none
  | .invokespecial _, .ref r :: st => if d = 1 then (if st.length ≤ 4 then some (.inl ((pc + 3, L, st), S)) else none) else if d = 0 ∧ st.length ≤ 4 then some (.inr (.inr (.inr (a, [.ref r], st)))) else none
  | .invokevirtual _, st => if b ≤ st.length ∧ (st.drop b).length ≤ 4 ∧ (st.take b).all xm_cat = true then match (st.take b).reverse with
      | .ref r :: as => match S.1[r]? with
        | some (.inr (ci, _)) => if ci = k then some (.inr (.inr (.inr (a, .ref r :: as, st.drop b)))) else none
        | _ => none
      | _ => none
    else none
  | .invokestatic _, st => if b ≤ st.length ∧ (st.drop b).length ≤ 4 ∧ (st.take b).all xm_cat = true then some (.inr (.inr (.inr (a, (st.take b).reverse, st.drop b)))) else none
  | _, _ => none
def xm_small : ClassFile.Instr → Bool
  | .ireturn => false
  | .return_ => false
  | .new _ => false
  | .newarray _ => false
  | .anewarray _ => false
  | .aastore => false
  | .invokespecial _ => false
  | .invokevirtual _ => false
  | .invokestatic _ => false
  | _ => true
def xm_at (P : List xm_M) (mi pc : Nat) : Option xm_I := match P[mi]? with
  | some M => M.2.2.2.2.2.find? (fun x => x.1 == pc)
  | none => none
def xm_act (xs : Nat → Int32) (LS : Nat) (kt : List ClassFile.FieldType) (df : List (List Value)) (P : List xm_M) (mi : Nat) (F : xm_F) (S : xm_S) : Option xm_A := match xm_at P mi F.1 with
  | some (_, i, a, b, k, d) => if xm_small i then xm_ins xs LS kt i a b k d F.1 F.2.1 F.2.2 S else xm_big kt df i a b k d F.1 F.2.1 F.2.2 S
  | none => none
def xm_hand (P : List xm_M) (mi pc ci : Nat) : Option Nat := match P[mi]? with
  | some M => (M.2.2.2.2.1.find? (fun x => decide (x.1 ≤ pc) && decide (pc < x.2.1) && x.2.2.2.2 == ci)).map (fun x => x.2.2.1)
  | none => none
def xm_noH (P : List xm_M) (mi : Nat) : Bool := match P[mi]? with
  | some M => M.2.2.2.2.1.isEmpty && (M.1.name != "law")
  | none => false
def xm_entry (P : List xm_M) (mi : Nat) (as : List Value) : List (Option Value) := match P[mi]? with
  | some M => as.map some ++ List.replicate (M.2.2.1 - as.length) none
  | none => []
/-- a run: n steps at most, d frames below at most -/
def xm_run (xs : Nat → Int32) (LS : Nat) (kt : List ClassFile.FieldType) (df : List (List Value)) (P : List xm_M) : Nat → Nat → Nat → xm_F → xm_S → Option ((Option Value ⊕ Nat) × xm_S)
  | 0, _, _, _, _ => none
  | n + 1, d, mi, F, S => match xm_act xs LS kt df P mi F S with
    | none => none
    | some (.inl (F', S')) => xm_run xs LS kt df P n d mi F' S'
    | some (.inr (.inl v)) => some (.inl v, S)
    | some (.inr (.inr (.inl ci))) => if (S.2.2 && xm_noH P mi && decide (5 ≤ d)) = true then some (.inr S.1.length, (S.1 ++ [.inr (ci, [])], S.2.1 + 6, true)) else none
    | some (.inr (.inr (.inr (y, as, rest)))) => match d with
      | 0 => none
      | d' + 1 => match xm_run xs LS kt df P n d' y (0, xm_entry P y as, []) (S.1, S.2.1, true) with
        | none => none
        | some (.inl v, S') => xm_run xs LS kt df P n (d' + 1) mi (F.1 + 3, F.2.1, v.toList ++ rest) (S'.1, S'.2.1, S.2.2 && S'.2.2)
        | some (.inr i, S') => match S'.1[i]? with
          | some (.inr (ci, _)) => match xm_hand P mi F.1 ci with
            | some t => xm_run xs LS kt df P n (d' + 1) mi (t, F.2.1, [.ref i]) (S'.1, S'.2.1, false)
            | none => if (S.2.2 && xm_noH P mi) = true then some (.inr i, (S'.1, S'.2.1, true)) else none
          | _ => none

/-- an instruction's length -/
def xm_len (k : Nat) : ClassFile.Instr → Nat
  | .tableswitch .. => k
  | .bipush _ => 2
  | .ldc _ => 2
  | .iload _ => 2
  | .aload _ => 2
  | .istore _ => 2
  | .astore _ => 2
  | .newarray _ => 2
  | .sipush _ => 3
  | .ldc_w _ => 3
  | .iinc _ _ => 3
  | .ifCond _ _ => 3
  | .if_icmp _ _ => 3
  | .goto _ => 3
  | .getfield _ => 3
  | .putfield _ => 3
  | .new _ => 3
  | .anewarray _ => 3
  | .invokespecial _ => 3
  | .invokevirtual _ => 3
  | .invokestatic _ => 3
  | _ => 1
def xm_tyd (d : Nat) : Option ClassFile.FieldType → Bool
  | some .int => d == 0
  | some .boolean => d == 1
  | some (.object _) => d == 2
  | some (.array _) => d == 2
  | _ => false
/-- an instruction's numbers are right: what the tables say of it -/
def xm_ok (WS : Cond → Bool) (cl : List vw_C) (M : xm_M) (x : xm_I) : Bool :=
  decide (ClassFile.decode M.2.1 x.1 = .ok (x.2.1, xm_len x.2.2.2.2.1 x.2.1)) && match x with
  | (pc, .ifCond _ off, a, _, _, _) => decide ((pc : Int) + off = (a : Int))
  | (pc, .if_icmp _ off, a, _, _, _) => decide ((pc : Int) + off = (a : Int))
  | (pc, .goto off, a, _, _, _) => decide ((pc : Int) + off = (a : Int))
  | (pc, .tableswitch dflt _ _ offs, _, _, _, _) => decide (0 ≤ (pc : Int) + dflt) && offs.toList.all (fun o => decide (0 ≤ (pc : Int) + o))
  | (_, .ldc ix, a, _, _, _) => WS (Cond.constant M.1.cls ix (Int32.ofNat a))
  | (_, .ldc_w ix, a, _, _, _) => WS (Cond.constant M.1.cls ix (Int32.ofNat a))
  | (_, .getfield ix, a, b, _, _) => match cl[a]? with
    | some (C, T, N) => decide (b < N) && ((T b).1 == C) && (WS (Cond.fieldLink M.1.cls ix C (T b).2.1 (T b).2.2.1) || WS (Cond.fieldLinkNest M.1.cls ix C (T b).2.1 (T b).2.2.1 "FibrePairs"))
    | none => false
  | (_, .putfield ix, a, b, _, d) => match cl[a]? with
    | some (C, T, N) => decide (b < N) && ((T b).1 == C) && xm_tyd d (ClassFile.parseFieldDescriptor (T b).2.2.1) && (if (T b).2.2.2 = true then WS (Cond.fieldLink M.1.cls ix C (T b).2.1 (T b).2.2.1) && (M.1.name == "<init>") && (M.1.cls == C) else (WS (Cond.fieldLink M.1.cls ix C (T b).2.1 (T b).2.2.1) || WS (Cond.fieldLinkNest M.1.cls ix C (T b).2.1 (T b).2.2.1 "FibrePairs")))
    | none => false
  | _ => true
end
section
/-! 03.sim: the real machine does what the small one does. -/
def xm_tv (B0 sb : Nat) : Value → Value
  | .ref k => .ref (B0 + k)
  | .retAddr _ => .ref sb
  | .int x => .int x
  | .long x => .long x
  | .float x => .float x
  | .double x => .double x
  | .null => .null
def xm_te (dA : Nat → ClassId) (B0 sb : Nat) : va_E → va_E
  | .inr (ci, fs) => .inr (ci, fs.map (xm_tv B0 sb))
  | .inl (k, n, .inl f) => .inl (dA k, n, .inl f)
  | .inl (k, n, .inr (.inl f)) => .inl (dA k, n, .inr (.inl f))
  | .inl (k, n, .inr (.inr (.inl f))) => .inl (dA k, n, .inr (.inr (.inl f)))
  | .inl (k, n, .inr (.inr (.inr (.inl f)))) => .inl (dA k, n, .inr (.inr (.inr (.inl f))))
  | .inl (k, n, .inr (.inr (.inr (.inr f)))) => .inl (dA k, n, .inr (.inr (.inr (.inr (fun j => (f j).map (fun q => B0 + q))))))
def xm_tw (dA : Nat → ClassId) (B0 sb : Nat) (h : List va_E) : va_W := h.mapIdx (fun k c => (B0 + k, xm_te dA B0 sb c))
def xm_tys (kt : List FieldType) (dA : Nat → ClassId) : List (ClassId × FieldType) := kt.mapIdx (fun k t => (dA k, t))
theorem xm_tw_get {dA : Nat → ClassId} {B0 sb : Nat} {h : List va_E} {k : Nat} {c : va_E} (hk : h[k]? = some c) : (xm_tw dA B0 sb h)[k]? = some (B0 + k, xm_te dA B0 sb c) := by
  simp [xm_tw, List.getElem?_mapIdx, hk]
theorem xm_tys_get {dA : Nat → ClassId} {kt : List FieldType} {k : Nat} {t : FieldType} (hk : kt[k]? = some t) : (xm_tys kt dA)[k]? = some (dA k, t) := by
  simp [xm_tys, List.getElem?_mapIdx, hk]
theorem xm_tw_set {dA : Nat → ClassId} {B0 sb : Nat} {h : List va_E} {k : Nat} {c0 c : va_E} (hk : h[k]? = some c0) : (xm_tw dA B0 sb h).set k (B0 + k, xm_te dA B0 sb c) = xm_tw dA B0 sb (h.set k c) := by
  have hl := (List.getElem?_eq_some_iff.mp hk).1
  apply List.ext_getElem?
  intro i
  by_cases hi : i = k
  · subst hi
    rw [List.getElem?_set_self (by simpa [xm_tw] using hl), xm_tw_get (List.getElem?_set_self hl)]
  · rw [List.getElem?_set_ne (Ne.symm hi)]
    simp [xm_tw, List.getElem?_mapIdx, List.getElem?_set_ne (Ne.symm hi)]
theorem xm_tw_app {dA : Nat → ClassId} {B0 sb : Nat} {h : List va_E} {c : va_E} : xm_tw dA B0 sb (h ++ [c]) = xm_tw dA B0 sb h ++ [(B0 + h.length, xm_te dA B0 sb c)] := by
  simp [xm_tw, List.mapIdx_append]
theorem xm_D {dA : Nat → ClassId} {B0 sb : Nat} {h : List va_E} : va_D (fun q => B0 ≤ q) (xm_tw dA B0 sb h) := by
  have key : ∀ (k : Nat) (q : Nat × va_E), (xm_tw dA B0 sb h)[k]? = some q → q.1 = B0 + k := by
    intro k q hq
    simp only [xm_tw, List.getElem?_mapIdx, Option.map_eq_some_iff] at hq
    obtain ⟨c, -, rfl⟩ := hq
    rfl
  exact ⟨fun i j p q hi hj h => by have h1 := key i p hi; have h2 := key j q hj; omega, fun k q hk => by have h1 := key k q hk; show B0 ≤ q.1; omega⟩
/-- the locals -/
def xm_lv (B0 sb : Nat) (ls : Array Slot) (nL : Nat) (L : List (Option Value)) : Prop := ls.size = nL ∧ lv_wf ls ∧ L.length = nL ∧ ∀ (i : Nat) (v : Value), L[i]? = some (some v) → ls[i]? = some (.val (xm_tv B0 sb v)) ∧ v.category = 1
def xm_al (B0 sb : Nat) (L : List (Option Value)) : List (Nat × Value) := (List.range L.length).filterMap (fun i => (L[i]?).join.map (fun v => (i, xm_tv B0 sb v)))
theorem xm_tv_cat {B0 sb : Nat} {v : Value} : (xm_tv B0 sb v).category = v.category := by cases v <;> rfl
theorem xm_al_mem {B0 sb : Nat} {L : List (Option Value)} {q : Nat × Value} : q ∈ xm_al B0 sb L ↔ ∃ v, L[q.1]? = some (some v) ∧ q.2 = xm_tv B0 sb v := by
  obtain ⟨i, w⟩ := q
  simp only [xm_al, List.mem_filterMap, List.mem_range, Option.map_eq_some_iff, Prod.mk.injEq, Option.join_eq_some_iff]
  constructor
  · rintro ⟨j, hj, v, hv, rfl, rfl⟩
    exact ⟨v, hv, rfl⟩
  · rintro ⟨v, hv, rfl⟩
    exact ⟨i, (List.getElem?_eq_some_iff.mp hv).1, v, hv, rfl, rfl⟩
theorem xm_lv_has {B0 sb : Nat} {ls : Array Slot} {nL : Nat} {L : List (Option Value)} (h : xm_lv B0 sb ls nL L) : lv_has ls nL (xm_al B0 sb L) := by
  refine ⟨h.1, h.2.1, fun q hq => ?_⟩
  obtain ⟨v, hv, hq2⟩ := xm_al_mem.mp hq
  rw [hq2]
  exact (h.2.2.2 q.1 v hv).1
theorem xm_lv_set {B0 sb : Nat} {ls ls' : Array Slot} {nL : Nat} {L : List (Option Value)} {i : Nat} {v : Value} (h : xm_lv B0 sb ls nL L) (hi : i < L.length) (hv : v.category = 1)
    (h' : lv_has ls' nL ((i, xm_tv B0 sb v) :: (xm_al B0 sb L).filter (fun q => !(q.1 == i) && !(q.1 + 1 == i && q.2.category == 2)))) : xm_lv B0 sb ls' nL (L.set i (some v)) := by
  refine ⟨h'.1, h'.2.1, by rw [List.length_set]; exact h.2.2.1, fun j w hw => ?_⟩
  by_cases hj : j = i
  · subst hj
    rw [List.getElem?_set_self hi] at hw
    cases hw
    exact ⟨h'.2.2 (j, xm_tv B0 sb v) List.mem_cons_self, hv⟩
  · rw [List.getElem?_set_ne (Ne.symm hj)] at hw
    have hc := (h.2.2.2 j w hw).2
    refine ⟨h'.2.2 (j, xm_tv B0 sb w) (List.mem_cons_of_mem _ (List.mem_filter.mpr ⟨xm_al_mem.mpr ⟨w, hw, rfl⟩, ?_⟩)), hc⟩
    have hc2 : (xm_tv B0 sb w).category = 1 := by rw [xm_tv_cat]; exact hc
    simp [hj, hc2]
theorem xm_rf {B0 sb : Nat} (r : Option Nat) : xm_tv B0 sb (va_rf r) = va_rf (r.map (fun q => B0 + q)) := by cases r <;> rfl
theorem xm_cat_ok {B0 sb : Nat} {v : Value} (h : xm_cat v = true) : (xm_tv B0 sb v).category = 1 := by cases v <;> first | rfl | (simp [xm_cat] at h)
theorem xm_fit_ok {B0 sb d : Nat} {v : Value} {ty : Option FieldType} (hd : xm_tyd d ty = true) (h : xm_fit d v = true) : ∃ t, ty = some t ∧ narrow t (xm_tv B0 sb v) = xm_tv B0 sb v ∧ fits t (xm_tv B0 sb v) = true := by
  match ty, hd with
  | some .int, hd =>
    have e : d = 0 := by simpa [xm_tyd] using hd
    subst e
    cases v <;> first | exact ⟨_, rfl, rfl, rfl⟩ | (simp [xm_fit] at h)
  | some .boolean, hd =>
    have e : d = 1 := by simpa [xm_tyd] using hd
    subst e
    cases v with
    | int x =>
      have h2 : x = 0 ∨ x = 1 := by simpa [xm_fit] using h
      rcases h2 with rfl | rfl
      · exact ⟨_, rfl, (by show narrow .boolean (.int 0) = .int 0; decide), (by show fits .boolean (.int 0) = true; decide)⟩
      · exact ⟨_, rfl, (by show narrow .boolean (.int 1) = .int 1; decide), (by show fits .boolean (.int 1) = true; decide)⟩
    | _ => simp [xm_fit] at h
  | some (.object _), hd =>
    have e : d = 2 := by simpa [xm_tyd] using hd
    subst e
    cases v <;> first | exact ⟨_, rfl, rfl, rfl⟩ | (simp [xm_fit] at h)
  | some (.array _), hd =>
    have e : d = 2 := by simpa [xm_tyd] using hd
    subst e
    cases v <;> first | exact ⟨_, rfl, rfl, rfl⟩ | (simp [xm_fit] at h)
/-- what the tables say of the classes -/
def xm_cls (WS : Cond → Bool) (cl : List vw_C) : Prop := ∀ (ci : Nat) (C : String) (T : u_T) (N : Nat), cl[ci]? = some (C, T, N) → (∀ w ∈ u_ws C T N, WS w = true) ∧ (∃ ty0 : Nat → FieldType, ∀ k, k < N → parseFieldDescriptor (T k).2.2.1 = some (ty0 k)) ∧ ∀ a, a < N → ∀ b, b < N → a ≠ b → (T a).2.1 ≠ (T b).2.1
/-- the point of a frame -/
def xm_V (D : va_G) (cl : List vw_C) (dA : Nat → ClassId) (B0 sb : Nat) (s : State) (h0 : List va_E) (ks0 nL : Nat) (L : List (Option Value)) (S : xm_S) (H : Heap) (locs : List Loc) (cells slots : Nat) (ls : Array Slot) : Prop :=
  xm_lv B0 sb ls nL L ∧ va_P D cl (xm_tw dA B0 sb S.1) H ∧ va_S (fun q => B0 ≤ q) s.heap H locs ∧ h0.length + cells = S.1.length ∧ slots + ks0 = S.2.1 ∧ (S.2.2 = true → locs = [] ∧ S.1 = h0)
section XM3
variable {p : Program} {l : Launch} {e : Env} {R : Room} {s : State} {m : MethodId} {args : Array Value} {below : List Frame} {meth : Method} {c : Code} {H : Heap} {locs : List Loc} {cells slots : Nat} {Q : State → Prop}
variable {WS : Cond → Bool} {cl : List vw_C} {kt : List FieldType} {dA : Nat → ClassId} {D : va_G} {B0 sb LS : Nat} {xs : Nat → Int32} {M : xm_M} {h0 : List va_E} {ks0 nL : Nat} {ls : Array Slot}
theorem xm_V.lv {L L' : List (Option Value)} {S : xm_S} {ls' : Array Slot} (h : xm_V D cl dA B0 sb s h0 ks0 nL L S H locs cells slots ls) (h' : xm_lv B0 sb ls' nL L') : xm_V D cl dA B0 sb s h0 ks0 nL L' S H locs cells slots ls' := ⟨h', h.2⟩
theorem xm_V.wr {L : List (Option Value)} {S : xm_S} {H1 : Heap} {locs1 : List Loc} {k : Nat} {c0 c1 : va_E} (h : xm_V D cl dA B0 sb s h0 ks0 nL L S H locs cells slots ls) (hk : S.1[k]? = some c0)
    (hP : va_P D cl ((xm_tw dA B0 sb S.1).set k (B0 + k, xm_te dA B0 sb c1)) H1) (hS : va_S (fun q => B0 ≤ q) s.heap H1 locs1) : xm_V D cl dA B0 sb s h0 ks0 nL L (S.1.set k c1, S.2.1, false) H1 locs1 cells slots ls := by
  obtain ⟨h1, h2, h3, h4, h5, h6⟩ := h
  rw [xm_tw_set hk] at hP
  exact ⟨h1, hP, hS, by simpa using h4, h5, fun q => by cases q⟩
theorem xm_size {L : List (Option Value)} {S : xm_S} {g : JFrame} (hsz : s.heap.size = B0 + h0.length) (h : xm_V D cl dA B0 sb s h0 ks0 nL L S H locs cells slots ls)
    (k : H.size = B0 + S.1.length → W p l e R s m args below meth c H locs cells slots Q g) : W p l e R s m args below meth c H locs cells slots Q g := by
  intro T hT X
  have h1 := X.heapSize
  obtain ⟨-, hP, hS, h4, -, -⟩ := h
  refine k ?_ T hT X
  rw [hT] at h1
  have h2 := hS.1
  by_cases hc : cells = 0
  · omega
  · have hl : S.1.length - 1 < S.1.length := by omega
    have h3 := (hP (S.1.length - 1) _ (xm_tw_get (List.getElem?_eq_getElem hl))).lt
    have h5 : B0 + (S.1.length - 1) < H.size := h3
    omega
set_option maxHeartbeats 4000000 in
set_option maxRecDepth 100000 in
theorem xm_sm (hx : p.tables.exec = Jvm.exec) (hb : c.code = M.2.1) (hown : s.vm.findClass M.1.cls = some m.cls) (hmn : M.1.name = "<init>" → meth.name = "<init>") (hts : ∀ w, WS w = true → w.before args s = true) (hK : va_K D cl (xm_tys kt dA) s) (hX : va_X sb LS xs s s.heap) (hsb : sb < B0) (hB0 : B0 ≤ s.heap.size) (hcl : xm_cls WS cl)
    {i : Instr} {a b k d pc : Nat} {L : List (Option Value)} {st : List Value} {S S' : xm_S} {F' : xm_F} (hok : xm_ok WS cl M (pc, i, a, b, k, d) = true) (hact : xm_ins xs LS kt i a b k d pc L st S = some (.inl (F', S')))
    (hV : xm_V D cl dA B0 sb s h0 ks0 nL L S H locs cells slots ls) (kk : ∀ (H' : Heap) (locs' : List Loc) (ls' : Array Slot), xm_V D cl dA B0 sb s h0 ks0 nL F'.2.1 S' H' locs' cells slots ls' → W p l e R s m args below meth c H' locs' cells slots Q (F0 m F'.1 ls' (F'.2.2.map (xm_tv B0 sb)))) :
    W p l e R s m args below meth c H locs cells slots Q (F0 m pc ls (st.map (xm_tv B0 sb))) := by
  simp only [xm_ok, Bool.and_eq_true, decide_eq_true_eq] at hok
  have hdg := hok.1
  unfold xm_ins at hact
  split at hact
  · cases hact
    exact lv_iconst hx hb hdg rfl (kk _ _ _ hV)
  · cases hact
    exact lv_bipush hx hb hdg rfl (kk _ _ _ hV)
  · cases hact
    exact lv_sipush hx hb hdg rfl (kk _ _ _ hV)
  · cases hact
    have hok := hok.2
    simp only [decide_eq_true_eq] at hok
    exact lv_ldc hx hb hown (hts _ hok) hdg (kk _ _ _ hV)
  · cases hact
    have hok := hok.2
    simp only [decide_eq_true_eq] at hok
    exact lv_ldcw hx hb hown (hts _ hok) hdg (kk _ _ _ hV)
  · split at hact
    · rename_i hL
      cases hact
      exact lv_iload hx hb hdg (hV.1.2.2.2 _ _ hL).1 (kk _ _ _ hV)
    · cases hact
  · split at hact
    · rename_i hL
      cases hact
      exact lv_iload_n hx hb hdg rfl (hV.1.2.2.2 _ _ hL).1 (kk _ _ _ hV)
    · cases hact
  · split at hact
    · rename_i hL
      cases hact
      exact lv_aload hx hb hdg (hV.1.2.2.2 _ _ hL).1 (kk _ _ _ hV)
    · rename_i hL
      cases hact
      exact lv_aload hx hb hdg (hV.1.2.2.2 _ _ hL).1 (kk _ _ _ hV)
    · cases hact
  · split at hact
    · rename_i hL
      cases hact
      exact lv_aload_n hx hb hdg rfl (hV.1.2.2.2 _ _ hL).1 (kk _ _ _ hV)
    · rename_i hL
      cases hact
      exact lv_aload_n hx hb hdg rfl (hV.1.2.2.2 _ _ hL).1 (kk _ _ _ hV)
    · cases hact
  · split at hact
    · rename_i hl
      cases hact
      exact lv_istore hx hb hdg (xm_lv_has hV.1) (by rw [← hV.1.2.2.1]; exact hl) rfl (fun ls' h' => kk _ _ _ (hV.lv (xm_lv_set hV.1 hl rfl h')))
    · cases hact
  · split at hact
    · rename_i hl
      cases hact
      exact lv_istore_n hx hb hdg rfl (xm_lv_has hV.1) (by rw [← hV.1.2.2.1]; exact hl) rfl (fun ls' h' => kk _ _ _ (hV.lv (xm_lv_set hV.1 hl rfl h')))
    · cases hact
  · split at hact
    · rename_i hl
      cases hact
      exact lv_astore hx hb hdg (xm_lv_has hV.1) (by rw [← hV.1.2.2.1]; exact hl) rfl (fun ls' h' => kk _ _ _ (hV.lv (xm_lv_set hV.1 hl rfl h')))
    · cases hact
  · split at hact
    · rename_i hl
      cases hact
      exact lv_astore_n hx hb hdg rfl (xm_lv_has hV.1) (by rw [← hV.1.2.2.1]; exact hl) rfl (fun ls' h' => kk _ _ _ (hV.lv (xm_lv_set hV.1 hl rfl h')))
    · cases hact
  · split at hact
    · rename_i hL
      cases hact
      have hl := (List.getElem?_eq_some_iff.mp hL).1
      have hmem : (_, xm_tv B0 sb (Value.int _)) ∈ xm_al B0 sb L := xm_al_mem.mpr ⟨_, hL, rfl⟩
      obtain ⟨k0, hk0⟩ := List.getElem?_of_mem hmem
      exact lv_iinc hx hb hdg (xm_lv_has hV.1) hk0 rfl (by rw [← hV.1.2.2.1]; exact hl) rfl (fun ls' h' => kk _ _ _ (hV.lv (xm_lv_set hV.1 hl rfl h')))
    · cases hact
  · cases hact
    exact lv_iadd hx hb hdg (kk _ _ _ hV)
  · cases hact
    exact lv_isub hx hb hdg (kk _ _ _ hV)
  · cases hact
    exact lv_imul hx hb hdg (kk _ _ _ hV)
  · cases hact
    exact lv_iand hx hb hdg (kk _ _ _ hV)
  · cases hact
    exact lv_ior hx hb hdg (kk _ _ _ hV)
  · cases hact
    exact lv_ixor hx hb hdg (kk _ _ _ hV)
  · cases hact
    exact lv_ishl hx hb hdg (kk _ _ _ hV)
  · cases hact
    exact lv_ishr hx hb hdg (kk _ _ _ hV)
  · cases hact
    exact lv_iushr hx hb hdg rfl (kk _ _ _ hV)
  · cases hact
    exact lv_ineg hx hb hdg (kk _ _ _ hV)
  · cases hact
    exact lv_i2l hx hb hdg rfl (kk _ _ _ hV)
  · cases hact
    exact W.lcmp hx hb hdg (kk _ _ _ hV)
  · split at hact
    · rename_i hc
      cases hact
      exact lv_dup hx hb hdg (xm_cat_ok hc) (kk _ _ _ hV)
    · cases hact
  · split at hact
    · rename_i hc
      cases hact
      exact lv_pop hx hb hdg (xm_cat_ok hc) (kk _ _ _ hV)
    · cases hact
  · cases hact
    have hok := hok.2
    simp only [decide_eq_true_eq] at hok
    have k1 := kk _ _ _ hV
    exact lv_if_eq hx hb hdg hok (fun h => by rw [if_pos h] at k1; exact k1) (fun h => by rw [if_neg h] at k1; exact k1)
  · cases hact
    have hok := hok.2
    simp only [decide_eq_true_eq] at hok
    have k1 := kk _ _ _ hV
    exact lv_if_ne hx hb hdg hok (fun h => by rw [if_pos h] at k1; exact k1) (fun h => by rw [if_neg (fun q => q h)] at k1; exact k1)
  · cases hact
    have hok := hok.2
    simp only [decide_eq_true_eq] at hok
    have k1 := kk _ _ _ hV
    exact lv_if_lt hx hb hdg hok (fun h => by rw [if_pos h] at k1; exact k1) (fun h => by rw [if_neg h] at k1; exact k1)
  · cases hact
    have hok := hok.2
    simp only [decide_eq_true_eq] at hok
    have k1 := kk _ _ _ hV
    exact lv_if_ge hx hb hdg hok (fun h => by rw [if_pos h] at k1; exact k1) (fun h => by rw [if_neg h] at k1; exact k1)
  · cases hact
    have hok := hok.2
    simp only [decide_eq_true_eq] at hok
    have k1 := kk _ _ _ hV
    exact lv_if_gt hx hb hdg hok (fun h => by rw [if_pos h] at k1; exact k1) (fun h => by rw [if_neg h] at k1; exact k1)
  · cases hact
    have hok := hok.2
    simp only [decide_eq_true_eq] at hok
    have k1 := kk _ _ _ hV
    exact lv_if_le hx hb hdg hok (fun h => by rw [if_pos h] at k1; exact k1) (fun h => by rw [if_neg h] at k1; exact k1)
  · cases hact
    have hok := hok.2
    simp only [decide_eq_true_eq] at hok
    have k1 := kk _ _ _ hV
    exact lv_icmp_eq hx hb hdg hok (fun h => by rw [if_pos h] at k1; exact k1) (fun h => by rw [if_neg h] at k1; exact k1)
  · cases hact
    have hok := hok.2
    simp only [decide_eq_true_eq] at hok
    have k1 := kk _ _ _ hV
    exact lv_icmp_ne hx hb hdg hok (fun h => by rw [if_pos h] at k1; exact k1) (fun h => by rw [if_neg (fun q => q h)] at k1; exact k1)
  · cases hact
    have hok := hok.2
    simp only [decide_eq_true_eq] at hok
    have k1 := kk _ _ _ hV
    exact lv_icmp_lt hx hb hdg hok (fun h => by rw [if_pos h] at k1; exact k1) (fun h => by rw [if_neg h] at k1; exact k1)
  · cases hact
    have hok := hok.2
    simp only [decide_eq_true_eq] at hok
    have k1 := kk _ _ _ hV
    exact lv_icmp_ge hx hb hdg hok (fun h => by rw [if_pos h] at k1; exact k1) (fun h => by rw [if_neg h] at k1; exact k1)
  · cases hact
    have hok := hok.2
    simp only [decide_eq_true_eq] at hok
    have k1 := kk _ _ _ hV
    exact lv_icmp_gt hx hb hdg hok (fun h => by rw [if_pos h] at k1; exact k1) (fun h => by rw [if_neg h] at k1; exact k1)
  · cases hact
    have hok := hok.2
    simp only [decide_eq_true_eq] at hok
    have k1 := kk _ _ _ hV
    exact lv_icmp_le hx hb hdg hok (fun h => by rw [if_pos h] at k1; exact k1) (fun h => by rw [if_neg h] at k1; exact k1)
  · cases hact
    have hok := hok.2
    simp only [decide_eq_true_eq] at hok
    exact lv_goto hx hb hdg hok (kk _ _ _ hV)
  · have hok := hok.2
    simp only [Bool.and_eq_true, decide_eq_true_eq, List.all_eq_true] at hok
    split at hact
    · rename_i hc
      cases hact
      exact lv_tableOut hx hb hdg hc (by omega) (kk _ _ _ hV)
    · rename_i hc
      split at hact
      · rename_i off ho
        cases hact
        have h1 := hok.2 off (by
          obtain ⟨h2, h3⟩ := Array.getElem?_eq_some_iff.mp ho
          rw [← h3]
          simp)
        exact lv_tableIn hx hb hdg (fun q => hc (Or.inl q)) (fun q => hc (Or.inr q)) ho (by omega) (kk _ _ _ hV)
      · cases hact
  · split at hact
    · rename_i ci fs hr
      split at hact
      · rename_i hci
        subst hci
        split at hact
        · rename_i v hv
          cases hact
          have hok := hok.2
          dsimp only at hok
          split at hok
          · rename_i C T N hc
            simp only [Bool.and_eq_true, Bool.or_eq_true, decide_eq_true_eq, beq_iff_eq] at hok
            obtain ⟨⟨hbN, hT⟩, hlk⟩ := hok
            have hin := (hcl _ C T N hc).1
            have hv' : ∀ {n : Nat}, fs[n]? = some v → (fs.map (xm_tv B0 sb))[n]? = some (xm_tv B0 sb v) := fun {n} hn => by rw [List.getElem?_map, hn]; rfl
            rcases hlk with hlk | hlk
            · exact va_get hx hb (fun w hw => hts w (hin w hw)) (fun _ h => h) hown hK hV.2.1 _ (xm_tw_get hr) hc _ hbN (hts _ hlk) (fun x h => by rw [← hT]; exact h) (hv' hv) hdg (kk _ _ _ hV)
            · exact va_getN hx hb (fun w hw => hts w (hin w hw)) (fun _ h => h) hown hK hV.2.1 _ (xm_tw_get hr) hc _ hbN (hts _ hlk) (fun x h => by rw [← hT]; exact h) (hv' hv) hdg (kk _ _ _ hV)
          · cases hok
        · cases hact
      · cases hact
    · cases hact
  · split at hact
    · rename_i ci fs hr
      split at hact
      · rename_i hci
        obtain ⟨hci, hbl, hfit⟩ := hci
        subst hci
        cases hact
        have hok := hok.2
        dsimp only at hok
        split at hok
        · rename_i C T N hc
          simp only [Bool.and_eq_true, decide_eq_true_eq, beq_iff_eq] at hok
          obtain ⟨⟨⟨hbN, hT⟩, htd⟩, hlk⟩ := hok
          obtain ⟨hin, ⟨ty0, hty⟩, hnm⟩ := hcl _ C T N hc
          obtain ⟨ty, hpd, hnar, hfits⟩ := xm_fit_ok (B0 := B0) (sb := sb) htd hfit
          have hl' : b < (fs.map (xm_tv B0 sb)).length := by rw [List.length_map]; exact hbl
          have hset : ∀ (n : Nat) (w : Value), (fs.map (xm_tv B0 sb)).set n (xm_tv B0 sb w) = (fs.set n w).map (xm_tv B0 sb) := fun n w => by rw [List.map_set]
          split at hlk
          · rename_i hfin
            simp only [Bool.and_eq_true, decide_eq_true_eq, beq_iff_eq] at hlk
            obtain ⟨⟨hlk, hnm2⟩, hcls⟩ := hlk
            exact va_putF hx hb (fun w hw => hts w (hin w hw)) (fun _ h => h) ty0 hty hnm hown hK hV.2.1 xm_D hV.2.2.1 _ (xm_tw_get hr) hc _ hbN (hts _ hlk) (fun x h => by rw [← hT]; exact h) hfin (hmn hnm2) (hT.trans hcls.symm) hpd hnar hfits hl' hdg
              (fun H1 locs1 hP1 _ hS1 => kk _ _ _ (hV.wr hr (by rw [hset] at hP1; exact hP1) hS1))
          · rename_i hfin
            simp only [Bool.or_eq_true, decide_eq_true_eq] at hlk
            have hfin : (T b).2.2.2 = false := by simpa using hfin
            rcases hlk with hlk | hlk
            · exact va_put hx hb (fun w hw => hts w (hin w hw)) (fun _ h => h) ty0 hty hnm hown hK hV.2.1 xm_D hV.2.2.1 _ (xm_tw_get hr) hc _ hbN (hts _ hlk) (fun x h => by rw [← hT]; exact h) hfin hpd hnar hfits hl' hdg
                (fun H1 locs1 hP1 _ hS1 => kk _ _ _ (hV.wr hr (by rw [hset] at hP1; exact hP1) hS1))
            · exact va_putN hx hb (fun w hw => hts w (hin w hw)) (fun _ h => h) ty0 hty hnm hown hK hV.2.1 xm_D hV.2.2.1 _ (xm_tw_get hr) hc _ hbN (hts _ hlk) (fun x h => by rw [← hT]; exact h) hfin hpd hnar hfits hl' hdg
                (fun H1 locs1 hP1 _ hS1 => kk _ _ _ (hV.wr hr (by rw [hset] at hP1; exact hP1) hS1))
        · cases hok
      · cases hact
    · cases hact
  · split at hact
    · rename_i hin
      cases hact
      exact va_sld hx hb hX (Nat.lt_of_lt_of_le hsb hB0) (Nat.not_le.mpr hsb) hV.2.2.1 hin hdg (kk _ _ _ hV)
    · cases hact
  · split at hact
    · rename_i q n f hr
      split at hact
      · rename_i hin
        cases hact
        exact va_iald hx hb hK hV.2.1 _ _ (xm_tw_get hr) (xm_tys_get hin.1) hin.2 hdg (kk _ _ _ hV)
      · cases hact
    · cases hact
  · split at hact
    · rename_i q n f hr
      split at hact
      · rename_i hin
        cases hact
        exact va_iast hx hb hK hV.2.1 xm_D hV.2.2.1 _ _ (xm_tw_get hr) (xm_tys_get hin.1) hin.2 hdg (fun H1 locs1 hP1 _ hS1 => kk _ _ _ (hV.wr hr hP1 hS1))
      · cases hact
    · cases hact
  · split at hact
    · rename_i q n f hr
      split at hact
      · rename_i hin
        cases hact
        exact va_zald hx hb hK hV.2.1 _ _ (xm_tw_get hr) (xm_tys_get hin.1) hin.2 hdg (kk _ _ _ hV)
      · cases hact
    · cases hact
  · split at hact
    · rename_i q n f hr
      split at hact
      · rename_i hin
        cases hact
        exact va_zast hx hb hK hV.2.1 xm_D hV.2.2.1 _ _ (xm_tw_get hr) (xm_tys_get hin.1) hin.2 hdg (fun H1 locs1 hP1 _ hS1 => kk _ _ _ (hV.wr hr hP1 hS1))
      · cases hact
    · cases hact
  · split at hact
    · rename_i q n f hr
      split at hact
      · rename_i hin
        cases hact
        exact va_lald hx hb hK hV.2.1 _ _ (xm_tw_get hr) (xm_tys_get hin.1) hin.2 hdg (kk _ _ _ hV)
      · cases hact
    · cases hact
  · split at hact
    · rename_i q n f hr
      split at hact
      · rename_i hin
        cases hact
        exact va_last hx hb hK hV.2.1 xm_D hV.2.2.1 _ _ (xm_tw_get hr) (xm_tys_get hin.1) hin.2 hdg (fun H1 locs1 hP1 _ hS1 => kk _ _ _ (hV.wr hr hP1 hS1))
      · cases hact
    · cases hact
  · split at hact
    · rename_i q n f hr
      split at hact
      · rename_i hin
        cases hact
        obtain ⟨hq, hin⟩ := hin
        have hk1 : ∃ C, kt[q]? = some (.object C) := by
          cases hkq : kt[q]? with
          | none => rw [hkq] at hq; cases hq
          | some t => cases t <;> first | exact ⟨_, rfl⟩ | (rw [hkq] at hq; cases hq)
        obtain ⟨C, hk1⟩ := hk1
        have k1 := kk _ _ _ hV
        simp only [List.map_cons, xm_rf] at k1
        exact va_aldq hx hb hK hV.2.1 _ _ (xm_tw_get hr) (xm_tys_get hk1) hin hdg k1
      · cases hact
    · cases hact
  · cases hact
    exact va_slen hx hb hX (Nat.lt_of_lt_of_le hsb hB0) (Nat.not_le.mpr hsb) hV.2.2.1 hdg (kk _ _ _ hV)
  · split at hact
    · rename_i q x hr
      split at hact
      · rename_i hin
        cases hact
        have hr2 := xm_tw_get (dA := dA) (B0 := B0) (sb := sb) hr
        obtain ⟨n, f | f | f | f | f⟩ := x <;> exact va_alen hx hb hK hV.2.1 _ _ hr2 (xm_tys_get (List.getElem?_eq_getElem hin)) rfl hdg (kk _ _ _ hV)
      · cases hact
    · cases hact
  · cases hact

end XM3
end
section
/-! 04.call: calls, returns, throws, catches, new cells. -/
section XM4
variable {p : Program} {l : Launch} {e : Env} {R : Room} {s : State} {m : MethodId} {args : Array Value} {below : List Frame} {meth : Method} {c : Code} {H : Heap} {locs : List Loc} {cells slots : Nat} {Q : State → Prop}
variable {WS : Cond → Bool} {cl : List vw_C} {kt : List FieldType} {dA : Nat → ClassId} {D : va_G} {B0 sb LS : Nat} {xs : Nat → Int32} {M : xm_M} {h0 : List va_E} {ks0 nL : Nat} {ls : Array Slot}
theorem xm_mono {Q' : State → Prop} {g : JFrame} (h : ∀ t, Q t → Q' t) (k : W p l e R s m args below meth c H locs cells slots Q g) : W p l e R s m args below meth c H locs cells slots Q' g := fun T hT X => by
  obtain ⟨t, a, b⟩ := k T hT X
  exact ⟨t, a, h t b⟩
theorem xm_up {g : JFrame} (k : H.size ≤ s.heap.size + cells → W p l e R s m args below meth c H locs cells slots Q g) : W p l e R s m args below meth c H locs cells slots Q g := fun T hT X => by
  have h1 := X.heapSize
  rw [hT] at h1
  exact k h1 T hT X
/-- the earlier state is still there -/
def xm_le (s0 s : State) : Prop := s0.WarmedH s.vm ∧ s0.heap.size ≤ s.heap.size ∧ ∀ q : Nat, q < s0.heap.size → s.heap[q]? = s0.heap[q]?
def xm_o (B0 sb : Nat) : Option Value ⊕ Nat → Outcome
  | .inl v => .returned (v.map (xm_tv B0 sb))
  | .inr i => .threw (B0 + i)
/-- how a method ends -/
def xm_E0 (D : va_G) (cl : List vw_C) (dA : Nat → ClassId) (B0 sb : Nat) (s : State) (h0 : List va_E) (ks0 : Nat) (r : Option Value ⊕ Nat) (S1 : xm_S) (o : Outcome) (t : State) : Prop :=
  o = xm_o B0 sb r ∧ s.WarmedH t.vm ∧ va_P D cl (xm_tw dA B0 sb S1.1) t.heap ∧ t.heap.size = B0 + S1.1.length ∧ (∀ q : Nat, q < B0 → t.heap[q]? = s.heap[q]?) ∧
  (∀ i, r = .inr i → ∃ (ci : Nat) (C : String) (T : u_T), S1.1[i]? = some (.inr (ci, [])) ∧ cl[ci]? = some (C, T, 0)) ∧
  ∃ L : List Loc, (∀ q ∈ L, B0 ≤ q.base) ∧ (S1.2.2 = true → L = [] ∧ ∀ v, r = .inl v → S1.1 = h0) ∧ (∀ i, r = .inr i → L = []) ∧ s.sameButNew ({ t with vm := s.vm } : State) L (S1.1.length - h0.length) (S1.2.1 - ks0)
def xm_End (D : va_G) (cl : List vw_C) (dA : Nat → ClassId) (B0 sb : Nat) (s : State) (below : List Frame) (h0 : List va_E) (ks0 : Nat) (r : Option Value ⊕ Nat) (S1 : xm_S) (t : State) : Prop :=
  ∃ o, t.status = .running ∧ Ended t below o ∧ xm_E0 D cl dA B0 sb s h0 ks0 r S1 o t
/-- a callee that has its contract: it comes to its end -/
theorem xm_callee {T : State} (X : Stand p l e R s m args below meth c T locs cells slots) {g : JFrame} (hg : g.method = m) (hsize : g.locals.size = c.maxLocals) {ig : Instr} {len : Nat} (hdg : decode c.code g.pc = .ok (ig, len)) (hW : 2 * g.monitorRoom + (g.stack.map fun v => v.category).sum ≤ 8)
    {y : MethodName} {bytes : ByteArray} {maxL : Nat} {ret : Option FieldType} {hs : List (Nat × Nat × Nat × Nat)} {rm : Room} {P' : Array Value → State → Prop} {Q' : Array Value → State → Outcome → State → Prop} (hM : MetFree l y (headSpec [.codeWith y bytes maxL ret hs] rm) P' (fun _ _ _ _ _ => True) Q')
    {mk : MethodId} {a : Array Value} (hcode : (Cond.codeWith y bytes maxL ret hs).before a T = true) (hn : T.methodNamed? y = some mk) (hini : (Cond.initialized y.cls).before a T = true) (hfr : rm.frames + 1 ≤ R.frames) (hlo : 8 + (maxL + 11) + rm.locals ≤ R.locals) (hcells : cells + rm.cells ≤ R.cells) (hslots : slots + rm.slots ≤ R.slots) (hP : P' a (T.calling g mk a)) :
    ∃ (o : Outcome) (t : State), Steps p.tables e below (doInvoke e (T.setTop g) [] mk a).1 t ∧ Ended t (.java g :: below) o ∧ Q' a (T.calling g mk a) o t := by
  obtain ⟨m', methY, cY, hn', hmY, hcY, -, hlY, -, -, -, -⟩ := Cond.codeWith_spec hcode
  cases hn.symm.trans hn'
  obtain ⟨kY, hkY, -⟩ := className_of_methodNamed hn
  have hinitY : kY.init = .initialized := Cond.initialized_spec (findClass_of_methodNamed hn) hkY hini
  have h : At T g.method c below := by rw [hg]; exact X.here
  have happ : (headSpec [.codeWith y bytes maxL ret hs] rm).appliesLoose y e.platform (T.calling g mk a) = true :=
    Spec.appliesLoose_calling (g := g) h hdg hn hkY hinitY (X.room_calling (g := g) (R' := rm) hsize hmY hcY hfr (by rw [hlY]; omega) hcells hslots)
      (atoms_intro (fun w hw => by rw [List.mem_singleton.mp hw]; exact hcode))
  have hf : (T.setTop g).frames = (.java g :: []) ++ below := by rw [State.frames_setTop' g h.top, X.tail]; rfl
  obtain ⟨o, t, hst, -, hend, hq⟩ := Free.Steps.callFree hM p X.admits X.cas X.clock (acts := []) hf happ hP trivial
  rw [State.frames_setTop' g h.top, X.tail] at hend
  exact ⟨o, t, hst, hend, hq⟩
end XM4
section XM5
variable {p : Program} {l : Launch} {e : Env} {R : Room} {s : State} {m : MethodId} {args : Array Value} {below : List Frame} {meth : Method} {c : Code} {H : Heap} {locs : List Loc} {cells slots : Nat} {Q : State → Prop}
variable {WS : Cond → Bool} {cl : List vw_C} {kt : List FieldType} {df : List (List Value)} {dA : Nat → ClassId} {D : va_G} {B0 sb LS : Nat} {xs : Nat → Int32} {M : xm_M} {P : List xm_M} {h0 : List va_E} {ks0 nL : Nat} {ls : Array Slot}
theorem xm_fresh {h : List va_E} {q : Nat} {e0 : va_E} {H1 : Heap} (hP : va_P D cl (xm_tw dA B0 sb h ++ [(q, e0)]) H1) (hD : va_D (fun q => B0 ≤ q) (xm_tw dA B0 sb h ++ [(q, e0)])) (hz : H1.size ≤ B0 + h.length + 1) : q = B0 + h.length := by
  have hlen : (xm_tw dA B0 sb h).length = h.length := by simp [xm_tw]
  have hq : (xm_tw dA B0 sb h ++ [(q, e0)])[h.length]? = some (q, e0) := by
    rw [List.getElem?_append_right (by omega)]
    simp [hlen]
  have h1 : q < H1.size := (hP _ _ hq).lt
  have h2 : B0 ≤ q := hD.2 _ _ hq
  by_cases hlt : q - B0 < h.length
  · exfalso
    have h3 : (xm_tw dA B0 sb h ++ [(q, e0)])[q - B0]? = some (B0 + (q - B0), xm_te dA B0 sb h[q - B0]) := by
      rw [List.getElem?_append_left (by omega)]
      exact xm_tw_get (List.getElem?_eq_getElem hlt)
    have h4 := hD.1 _ _ _ _ h3 hq (by show B0 + (q - B0) = q; omega)
    omega
  · omega
theorem xm_V.nw {L : List (Option Value)} {S : xm_S} {H1 : Heap} {q n : Nat} {c1 : va_E} (h : xm_V D cl dA B0 sb s h0 ks0 nL L S H locs cells slots ls) (hsz : s.heap.size = B0 + h0.length)
    (hP : va_P D cl (xm_tw dA B0 sb S.1 ++ [(q, xm_te dA B0 sb c1)]) H1) (hD : va_D (fun q => B0 ≤ q) (xm_tw dA B0 sb S.1 ++ [(q, xm_te dA B0 sb c1)])) (hS : va_S (fun q => B0 ≤ q) s.heap H1 locs) (hz : H1.size ≤ s.heap.size + (cells + 1)) :
    q = B0 + S.1.length ∧ xm_V D cl dA B0 sb s h0 ks0 nL L (S.1 ++ [c1], S.2.1 + n, false) H1 locs (cells + 1) (slots + n) ls := by
  obtain ⟨h1, h2, h3, h4, h5, h6⟩ := h
  have hq := xm_fresh hP hD (by omega)
  subst hq
  rw [← xm_tw_app] at hP
  exact ⟨rfl, h1, hP, hS, by simp only [List.length_append, List.length_singleton]; omega, by show _ = _ + _; omega, fun q => by cases q⟩
theorem xm_sum (st : List Value) : ((st.map (xm_tv B0 sb)).map fun v => v.category).sum ≤ 2 * st.length := by
  induction st with
  | nil => simp
  | cons v t ih =>
    simp only [List.map_cons, List.sum_cons, List.length_cons]
    rcases lv_cat (xm_tv B0 sb v) with h | h <;> omega
theorem xm_dv {B0 sb : Nat} (t : FieldType) : xm_tv B0 sb (defaultValue t) = defaultValue t := by cases t <;> rfl
/-- a making, a store of a reference, the constructor of Object -/
def xm_okN (WS : Cond → Bool) (cl : List vw_C) (kt : List FieldType) (df : List (List Value)) (M : xm_M) (x : xm_I) : Bool :=
  match x with
  | (_, .new ix, a, _, _, d) => if d = 1 then true else match cl[a]?, df[a]? with
    | some (C, T, N), some fs => WS (Cond.classLink M.1.cls ix C) && WS (Cond.instantiable C N) && WS (Cond.initialized C) && (fs.length == N) && (List.range N).all (fun j => decide ((parseFieldDescriptor (T j).2.2.1).map defaultValue = fs[j]?))
    | _, _ => false
  | (_, .newarray t, a, _, _, _) => decide (kt[a]? = some (Op.newarray.typeOf t)) && WS (Cond.arrayClass (Op.newarray.typeOf t))
  | (_, .anewarray ix, a, _, _, _) => match kt[a]? with
    | some (.object C) => WS (Cond.classLink M.1.cls ix C) && WS (Cond.arrayOver (.object C))
    | _ => false
  | (_, .aastore, a, b, _, _) => match kt[a]?, cl[b]? with
    | some (.object C), some (C', _, _) => C == C'
    | _, _ => false
  | (_, .invokespecial ix, _, _, _, d) => if d = 1 then WS (Cond.methodLink M.1.cls ix Lib.objectInit) && WS (Cond.instanceMethod Lib.objectInit) && WS (Cond.code Lib.objectInit ⟨#[0xb1]⟩ 1 none) else true
  | _ => true
set_option maxHeartbeats 4000000 in
set_option maxRecDepth 100000 in
theorem xm_bg (hx : p.tables.exec = Jvm.exec) (hb : c.code = M.2.1) (hml : c.maxLocals = nL) (hown : s.vm.findClass M.1.cls = some m.cls) (hts : ∀ w, WS w = true → w.before args s = true) (hK : va_K D cl (xm_tys kt dA) s) (hsz : s.heap.size = B0 + h0.length) (hcl : xm_cls WS cl) (hRf : 1 ≤ R.frames) (hRl : 58 ≤ R.locals)
    {i : Instr} {a b k d pc : Nat} {L : List (Option Value)} {st : List Value} {S S' : xm_S} {F' : xm_F} (hok : xm_ok WS cl M (pc, i, a, b, k, d) = true) (hokN : xm_okN WS cl kt df M (pc, i, a, b, k, d) = true) (hact : xm_big kt df i a b k d pc L st S = some (.inl (F', S')))
    (hc1 : S'.1.length ≤ R.cells + h0.length) (hc2 : S'.2.1 ≤ R.slots + ks0)
    (hV : xm_V D cl dA B0 sb s h0 ks0 nL L S H locs cells slots ls) (kk : ∀ (H' : Heap) (locs' : List Loc) (cells' slots' : Nat) (ls' : Array Slot), xm_V D cl dA B0 sb s h0 ks0 nL F'.2.1 S' H' locs' cells' slots' ls' → W p l e R s m args below meth c H' locs' cells' slots' Q (F0 m F'.1 ls' (F'.2.2.map (xm_tv B0 sb)))) :
    W p l e R s m args below meth c H locs cells slots Q (F0 m pc ls (st.map (xm_tv B0 sb))) := by
  simp only [xm_ok, Bool.and_eq_true, decide_eq_true_eq] at hok
  have hdg := hok.1
  have hA : ∀ q : Nat, s.heap.size ≤ q → B0 ≤ q := fun q hq => by omega
  have e4 := hV.2.2.2.1
  have e5 := hV.2.2.2.2.1
  unfold xm_big at hact
  split at hact
  · split at hact
    · cases hact
    · split at hact <;> cases hact
  · cases hact
  · split at hact
    · split at hact <;> cases hact
    · rename_i hd1
      split at hact
      · rename_i fs hfs
        cases hact
        simp only [xm_okN, if_neg hd1] at hokN
        rw [hfs] at hokN
        split at hokN
        · rename_i C T N fs' hc hf'
          cases hf'
          simp only [Bool.and_eq_true, decide_eq_true_eq, beq_iff_eq, List.all_eq_true, List.mem_range] at hokN
          obtain ⟨⟨⟨⟨o1, o2⟩, o3⟩, o4⟩, o5⟩ := hokN
          obtain ⟨hin, ⟨ty0, hty⟩, -⟩ := hcl _ C T N hc
          simp only [List.length_append, List.length_singleton] at hc1 hc2
          subst o4
          refine va_new (fs := fs.map (xm_tv B0 sb)) hx hb (fun w hw => hts w (hin w hw)) (fun _ h => h) ty0 hty hown (hts _ o1) (hts _ o2) (hts _ o3) hK hV.2.1 xm_D hV.2.2.1 hA hc (fun j hj => ?_) (by omega) (by omega) hdg (fun q H1 hP1 hD1 hS1 => xm_up fun hz => ?_)
          · have o6 := o5 j hj
            rw [hty j hj] at o6
            simp only [Option.map_some] at o6
            rw [vp_V, List.getD_eq_getElem?_getD, List.getElem?_map, ← o6]
            simp [xm_dv]
          · obtain ⟨rfl, hV'⟩ := hV.nw (n := fs.length) (c1 := .inr (a, fs)) hsz hP1 hD1 hS1 hz
            exact kk _ _ _ _ _ hV'
        · cases hokN
      · cases hact
  · split at hact
    · rename_i x hbk
      split at hact
      · rename_i hn
        cases hact
        simp only [xm_okN, Bool.and_eq_true, decide_eq_true_eq] at hokN
        obtain ⟨o1, o2⟩ := hokN
        simp only [List.length_append, List.length_singleton] at hc1 hc2
        rw [o1] at hbk
        rename_i _ t n st' _
        have hkey : ∀ cA : ClassId, vp_cell cA (n.toNatClampNeg, x) = arrV cA n.toNatClampNeg (fun _ => defaultValue (Op.newarray.typeOf t)) ∧ (xm_te dA B0 sb (.inl (a, n.toNatClampNeg, x)) = .inl (dA a, n.toNatClampNeg, x)) := by
          intro cA
          cases t <;> simp only [Op.newarray.typeOf, xm_blank, Option.some.injEq, reduceCtorEq] at hbk <;> subst hbk <;> exact ⟨rfl, rfl⟩
        have hb8 : componentBytes (Op.newarray.typeOf t) ≤ 8 := by cases t <;> decide
        refine va_newa hx hb (hts _ o2) rfl hK hV.2.1 xm_D hV.2.2.1 hA (fun cA => (hkey cA).1) hn.1 rfl (by have := Nat.mul_le_mul hn.2 hb8; omega) (by omega) (by omega) hdg (fun q cA H1 hK1 hP1 hD1 hS1 => xm_up fun hz => ?_)
        have hcA : cA = dA a := by
          have g1 := (hK1.2 (xm_tys kt dA).length (cA, Op.newarray.typeOf t) (by rw [List.getElem?_append_right (Nat.le_refl _)]; simp)).2
          have g2 := (hK.2 a _ (xm_tys_get o1)).2
          cases t <;> exact Option.some.inj (g1.symm.trans g2)
        subst hcA
        rw [← (hkey (dA a)).2] at hP1 hD1
        obtain ⟨rfl, hV'⟩ := hV.nw (n := n.toNatClampNeg) hsz hP1 hD1 hS1 hz
        exact kk _ _ _ _ _ hV'
      · cases hact
    · cases hact
  · split at hact
    · rename_i hn
      cases hact
      simp only [xm_okN] at hokN
      split at hokN
      · rename_i C o1
        simp only [Bool.and_eq_true, decide_eq_true_eq] at hokN
        obtain ⟨o2, o3⟩ := hokN
        simp only [List.length_append, List.length_singleton] at hc1 hc2
        refine va_newq hx hb hown (hts _ o2) (va_AO.of (hts _ o3)) hK hV.2.1 xm_D hV.2.2.1 hA hn.2.1 rfl (by have := hn.2.2; omega) (by omega) (by omega) hdg (fun q cA H1 hK1 hP1 hD1 hS1 => xm_up fun hz => ?_)
        have hcA : cA = dA a := by
          have g1 := (hK1.2 (xm_tys kt dA).length (cA, .object C) (by rw [List.getElem?_append_right (Nat.le_refl _)]; simp)).2
          have g2 := (hK.2 a _ (xm_tys_get o1)).2
          obtain ⟨_, _, _, _, _, g1⟩ := g1
          obtain ⟨_, _, _, _, _, g2⟩ := g2
          exact Option.some.inj (g1.symm.trans g2)
        subst hcA
        obtain ⟨rfl, hV'⟩ := hV.nw (c1 := .inl (a, _, .inr (.inr (.inr (.inr (fun _ => none)))))) hsz hP1 hD1 hS1 hz
        exact kk _ _ _ _ _ hV'
      · cases hokN
    · cases hact
  · split at hact
    · rename_i q n f ci vs hr hv
      split at hact
      · rename_i hin
        obtain ⟨hq, hci, hin⟩ := hin
        subst hq; subst hci
        cases hact
        simp only [xm_okN] at hokN
        split at hokN
        · rename_i C C' T N o1 o2
          have hCC : C = C' := by simpa using hokN
          subst hCC
          refine va_astq (r := (C, T, N)) hx hb hK hV.2.1 xm_D hV.2.2.1 _ _ _ _ (xm_tw_get hr) (xm_tys_get o1) (xm_tw_get hv) o2 hin hdg (fun H1 locs1 hP1 _ hS1 => kk _ _ _ _ _ (hV.wr hr ?_ hS1))
          have hf : ∀ (k v : Nat), (fun j => (va_up f k (some v) j).map (fun q => B0 + q)) = va_up (fun j => (f j).map (fun q => B0 + q)) k (some (B0 + v)) := by
            intro k v
            funext j
            simp only [va_up]
            split <;> rfl
          rw [← hf] at hP1
          exact hP1
        · cases hokN
      · cases hact
    · cases hact
  · split at hact
    · rename_i hd1
      split at hact
      · rename_i hst
        cases hact
        simp only [xm_okN, if_pos hd1, Bool.and_eq_true, decide_eq_true_eq] at hokN
        obtain ⟨⟨o1, o2⟩, o3⟩ := hokN
        refine W.objInit hx hb hown (hts _ o1) (hts _ o2) (hts _ o3) rfl (by rw [hml]; exact hV.1.1) rfl hdg (by omega) ?_ (kk _ _ _ _ _ hV)
        show 2 * 0 + _ + 12 ≤ _
        refine Nat.le_trans (Nat.add_le_add_right (Nat.add_le_add_left (xm_sum _) (2 * 0)) 12) ?_
        omega
      · cases hact
    · split at hact <;> cases hact
  · split at hact
    · split at hact
      · split at hact
        · split at hact <;> cases hact
        · cases hact
      · cases hact
    · cases hact
  · split at hact <;> cases hact
  · cases hact
end XM5
end
section
/-! 05.front: how a call begins; how a throw ends; how a handler is found. -/
section XM6
variable {p : Program} {l : Launch} {e : Env} {R : Room} {s : State} {m : MethodId} {args : Array Value} {below : List Frame} {meth : Method} {c : Code} {T : State} {H : Heap} {locs : List Loc} {cells slots : Nat} {Q : State → Prop}
/-- a call stands at its callee's door -/
def xm_Fr (p : Program) (l : Launch) (e : Env) (R : Room) (s : State) (m : MethodId) (args : Array Value) (below : List Frame) (meth : Method) (c : Code) (T : State) (locs : List Loc) (cells slots : Nat) (g : JFrame) (rest : List Value) (y : MethodName) (a : Array Value) : Prop :=
  ∃ (vm₁ : Vm) (mk : MethodId), Stand p l e R s m args below meth c (T.setVm vm₁) locs cells slots ∧ s.methodNamed? y = some mk ∧
    ∀ target, (∀ acts, Steps p.tables e below (doInvoke e ((T.setVm vm₁).setTop { g with stack := rest }) acts mk a).1 target) → Steps p.tables e below (T.setTop g) target
theorem xm_par {y : MethodName} {n k : Nat} {sig : MethodDescriptor} (h : (parseMethodDescriptor y.desc).map (fun d => d.parameters.length) = some n) (hs : parseMethodDescriptor y.desc = some sig) (hk : k = n) : k = sig.parameters.length := by
  rw [hs] at h
  rw [hk]
  exact (Option.some.inj h).symm
theorem xm_fV (X : Stand p l e R s m args below meth c T locs cells slots) (hx : p.tables.exec = Jvm.exec) {own C host : String} {ix n : Nat} {y : MethodName} {bytes : ByteArray} {maxL : Nat} {ret : Option FieldType} {hs : List (Nat × Nat × Nat × Nat)}
    (hown : s.vm.findClass own = some m.cls) (hlink : (Cond.methodLink own ix y).before args s = true ∨ (Cond.methodLinkNest own ix y host).before args s = true) (hinst : (Cond.instanceMethod y).before args s = true) (hsel : (Cond.selects C y y).before args s = true) (hcode : (Cond.codeWith y bytes maxL ret hs).before args s = true)
    (hy : y.cls ≠ "java/lang/invoke/MethodHandle" ∧ y.cls ≠ "java/lang/invoke/VarHandle") (hpar : (parseMethodDescriptor y.desc).map (fun d => d.parameters.length) = some n)
    {b : Addr} {cellB : Cell} (hcell : T.heap[b]? = some cellB) (hobj : cellB.vm.isStatics = false) (hcls : s.vm.findClass C = some cellB.cls)
    {g : JFrame} (hg : g.method = m) {argsL rest : List Value} (hlen : argsL.length = n) (hstack : g.stack = argsL.reverse ++ .ref b :: rest) (hdg : decode c.code g.pc = .ok (.invokevirtual ix, 3)) :
    xm_Fr p l e R s m args below meth c T locs cells slots g rest y (.ref b :: argsL).toArray := by
  obtain ⟨mk, methM, hnamed, hmethM, hstM, habM⟩ := Cond.instanceMethod_spec hinst
  obtain ⟨mk', methM', cM, hnamed', hmethM', -, -, -, -, -, -, hsigM⟩ := Cond.codeWith_spec hcode
  cases hnamed.symm.trans hnamed'
  cases hmethM.symm.trans hmethM'
  obtain ⟨c2, r2, m2, q1, q2, q3, q4, kP, hkP, hkPi⟩ := Cond.selects_spec hsel
  cases hcls.symm.trans q1
  cases (State.methodFound?_of_named hnamed hy).symm.trans q2
  cases hnamed.symm.trans q3
  have hselP : selectMethod e.platform s.vm cellB.cls mk = .method mk := by rw [Launch.admits_selectMethod X.admits]; exact q4
  have hob : ∀ z, cellB.vm ≠ .statics z := fun z h => by rw [h] at hobj; cases hobj
  rcases hlink with hl | hl
  · obtain ⟨vm₁, X₁, st⟩ := X.invokevirtual hx hown hl hnamed hmethM hstM hkP hkPi hy (a := b) (cell := cellB) hcell hob hselP hmethM habM hkP hkPi (g := g) hg (argsL := argsL) (rest := rest) (xm_par hpar hsigM hlen) hstack hdg
    exact ⟨vm₁, mk, X₁, hnamed, st⟩
  · obtain ⟨vm₁, X₁, st⟩ := X.invokevirtualNest hx hown hl hnamed hmethM hstM hkP hkPi hy (a := b) (cell := cellB) hcell hob hselP hmethM habM hkP hkPi (g := g) hg (argsL := argsL) (rest := rest) (xm_par hpar hsigM hlen) hstack hdg
    exact ⟨vm₁, mk, X₁, hnamed, st⟩
theorem xm_fS (X : Stand p l e R s m args below meth c T locs cells slots) (hx : p.tables.exec = Jvm.exec) {own host : String} {ix n : Nat} {y : MethodName} {bytes : ByteArray} {maxL : Nat} {ret : Option FieldType} {hs : List (Nat × Nat × Nat × Nat)}
    (hown : s.vm.findClass own = some m.cls) (hlink : (Cond.methodLink own ix y).before args s = true ∨ (Cond.methodLinkNest own ix y host).before args s = true) (hstat : (Cond.static y).before args s = true) (hinit : (Cond.initialized y.cls).before args s = true) (hcode : (Cond.codeWith y bytes maxL ret hs).before args s = true)
    (hy : y.cls ≠ "java/lang/invoke/MethodHandle" ∧ y.cls ≠ "java/lang/invoke/VarHandle") (hpar : (parseMethodDescriptor y.desc).map (fun d => d.parameters.length) = some n)
    {g : JFrame} (hg : g.method = m) {argsL rest : List Value} (hlen : argsL.length = n) (hstack : g.stack = argsL.reverse ++ rest) (hdg : decode c.code g.pc = .ok (.invokestatic ix, 3)) :
    xm_Fr p l e R s m args below meth c T locs cells slots g rest y argsL.toArray := by
  obtain ⟨mk, methM, cM, hnamed, hmethM, -, -, -, -, -, -, hsigM⟩ := Cond.codeWith_spec hcode
  have hstatic : methM.isStatic = true := Cond.static_spec hnamed hmethM hstat
  obtain ⟨kP, hkP, -⟩ := className_of_methodNamed hnamed
  have hinitP : kP.init = .initialized := Cond.initialized_spec (findClass_of_methodNamed hnamed) hkP hinit
  rcases hlink with hl | hl
  · obtain ⟨vm₁, X₁, st⟩ := X.invokestatic hx hown hl hnamed hmethM hstatic hkP hinitP hy (g := g) hg (argsL := argsL) (rest := rest) (xm_par hpar hsigM hlen) hstack hdg
    exact ⟨vm₁, mk, X₁, hnamed, st⟩
  · obtain ⟨vm₁, X₁, st⟩ := X.invokestaticNest hx hown hl hnamed hmethM hstatic hkP hinitP hy (g := g) hg (argsL := argsL) (rest := rest) (xm_par hpar hsigM hlen) hstack hdg
    exact ⟨vm₁, mk, X₁, hnamed, st⟩
theorem xm_fI (X : Stand p l e R s m args below meth c T locs cells slots) (hx : p.tables.exec = Jvm.exec) {own host : String} {ix n : Nat} {y : MethodName} {bytes : ByteArray} {maxL : Nat}
    (hown : s.vm.findClass own = some m.cls) (hlink : (Cond.methodLink own ix y).before args s = true ∨ (Cond.methodLinkNest own ix y host).before args s = true) (hinst : (Cond.instanceMethod y).before args s = true) (hcode : (Cond.codeWith y bytes maxL none []).before args s = true) (hy1 : y.name = "<init>")
    (hy : y.cls ≠ "java/lang/invoke/MethodHandle" ∧ y.cls ≠ "java/lang/invoke/VarHandle") (hpar : (parseMethodDescriptor y.desc).map (fun d => d.parameters.length) = some n)
    {b : Addr} {g : JFrame} (hg : g.method = m) {argsL rest : List Value} (hlen : argsL.length = n) (hstack : g.stack = argsL.reverse ++ .ref b :: rest) (hdg : decode c.code g.pc = .ok (.invokespecial ix, 3)) :
    xm_Fr p l e R s m args below meth c T locs cells slots g rest y (.ref b :: argsL).toArray := by
  have hpl : e.platform.magicAccessors = ({} : Platform).magicAccessors := by rw [X.admits.platform]
  have hcode' : (Cond.code y bytes maxL none).before args s = true := by
    unfold Cond.before Cond.holds
    rw [Cond.code_iff_codeWith_nil]
    exact hcode
  subst hg
  rcases hlink with hl | hl
  · obtain ⟨mk, methM, cM, kP, vm₁, hnamed, -, -, -, -, -, -, -, hW₁, st⟩ := Steps.initColdArgs (e := e) X.here hx X.warmed hpl hown hy1 hy hl hinst hcode' (f := g) rfl (fun sig h => xm_par hpar h hlen) hstack hdg
    exact ⟨vm₁, mk, X.noted hW₁, hnamed, st⟩
  · obtain ⟨mk, methM, cM, kP, vm₁, hnamed, -, -, -, -, -, -, -, hW₁, st⟩ := Steps.initColdArgsNest (e := e) X.here hx X.warmed hpl hown hy1 hy hl hinst hcode' (f := g) rfl (fun sig h => xm_par hpar h hlen) hstack hdg
    exact ⟨vm₁, mk, X.noted hW₁, hnamed, st⟩
/-- with no slot freed every old cell is as it was -/
theorem xm_same0 {s t : State} {k n : Nat} (h : s.sameButNew t [] k n) {q : Nat} (hq : q < s.heap.size) : t.heap[q]? = s.heap[q]? := by
  have hc : s.heap[q]? = some s.heap[q] := Array.getElem?_eq_getElem hq
  obtain ⟨c', h1, h2, h3, h4⟩ := h.2.2.2.2.2 q _ hc
  rw [h1, hc, h2]
  have h5 : c'.slots = (s.heap[q]).slots := by
    apply Array.ext_getElem?
    intro i
    exact h4 i (by simp)
  rw [h5]
end XM6
section XM7
variable {p : Program} {l : Launch} {e : Env} {R : Room} {s : State} {m : MethodId} {args : Array Value} {below : List Frame} {meth : Method} {c : Code} {T : State} {H : Heap} {locs : List Loc} {cells slots : Nat} {Q : State → Prop}
variable {WS : Cond → Bool} {cl : List vw_C} {kt : List FieldType} {dA : Nat → ClassId} {D : va_G} {B0 sb LS : Nat} {xs : Nat → Int32} {M : xm_M} {h0 : List va_E} {ks0 nL : Nat} {ls : Array Slot}
/-- the search through a table of handlers, each of a class that links, cold or warm -/
theorem xm_find {s0 : State} {f : JFrame} {a : Addr} {cell : Cell} {ci t : Nat} (hobj : ∀ k, cell.vm ≠ .statics k) (hk0 : ∃ k, s0.vm.classes[cell.cls]? = some k) :
    ∀ (es : List ExceptionTableEntry) (hs : List xm_Hd) (S : State), es.map (fun h => (h.startPc, h.endPc, h.handlerPc, h.catchType)) = hs.map (fun h => (h.1, h.2.1, h.2.2.1, h.2.2.2.1)) → s0.WarmedH S.vm → S.heap[a]? = some cell →
      (∀ h ∈ hs, h.2.2.2.1 ≠ 0 ∧ ∃ c', s0.vm.ClassLinks e.platform f.method.cls h.2.2.2.1 c' ∧ s0.vm.assignable cell.cls c' = (h.2.2.2.2 == ci)) →
      (hs.find? (fun x => decide (x.1 ≤ f.pc) && decide (f.pc < x.2.1) && x.2.2.2.2 == ci)).map (fun x => x.2.2.1) = some t →
      ∃ vm', s0.WarmedH vm' ∧ ∀ (Q : Handler → Pre) (E : CtlPost) (d : Bool) (acts : List Action), wp (findHandler.go f a es) Q E e d acts S ↔ Q (.found t) d acts (S.setVm vm') := by
  obtain ⟨k0, hk0⟩ := hk0
  intro es
  induction es with
  | nil =>
    intro hs S hm hW hcell hh ht
    cases hs with
    | nil => simp at ht
    | cons h r => simp at hm
  | cons x r ih =>
    intro hs S hm hW hcell hh ht
    cases hs with
    | nil => simp at hm
    | cons h hr =>
      simp only [List.map_cons, List.cons.injEq, Prod.mk.injEq] at hm
      obtain ⟨⟨m1, m2, m3, m4⟩, hm⟩ := hm
      obtain ⟨h0, c', hl, has⟩ := hh h List.mem_cons_self
      have hh' : ∀ y ∈ hr, y.2.2.2.1 ≠ 0 ∧ ∃ c', s0.vm.ClassLinks e.platform f.method.cls y.2.2.2.1 c' ∧ s0.vm.assignable cell.cls c' = (y.2.2.2.2 == ci) := fun y hy => hh y (List.mem_cons_of_mem _ hy)
      obtain ⟨k0', hk0', -⟩ := hW.alike.2.2 _ _ hk0
      by_cases hcov : (decide (h.1 ≤ f.pc) && decide (f.pc < h.2.1)) = true
      · have hcov' : (decide (x.startPc ≤ f.pc) && decide (f.pc < x.endPc)) = true := by rw [m1, m2]; exact hcov
        obtain ⟨dk, _, _, kt, hd, _, _, _, _, hkt, _, hopen⟩ := hl.here
        obtain ⟨kt', hkt', -⟩ := hW.alike.2.2 _ _ hkt
        have hlS := hW.classLinks hl
        obtain ⟨ha, hT⟩ := (resolveClass_links e.toSetting hlS).op (op := VmOp.resolveClass f.method.cls h.2.2.2.1) rfl
        have hal : S.vm.Alike (S.vm.noted f.method.cls h.2.2.2.1 (.cls c')) := (Vm.Alike.refl S.vm).noted _ _ _
        obtain ⟨k1, hk1, -⟩ := hal.2.2 _ _ hk0'
        obtain ⟨k2, hk2, -⟩ := hal.2.2 _ _ hkt'
        have hWn := hW.noted hd hopen (State.rightAt_cls hl)
        have has' : (S.vm.noted f.method.cls h.2.2.2.1 (.cls c')).assignable cell.cls c' = (h.2.2.2.2 == ci) := by rw [hal.assignable, hW.alike.assignable]; exact has
        by_cases hci : (h.2.2.2.2 == ci) = true
        · rw [List.find?_cons_of_pos (by simp only [hcov, hci, Bool.and_self])] at ht
          simp only [Option.map_some, Option.some.injEq] at ht
          rw [hci] at has'
          refine ⟨_, hWn, fun Q E d acts => ?_⟩
          rw [← m4] at ha hT hk1 hk2 has' h0 ⊢
          rw [← ht, ← m3]
          simp only [Bool.and_eq_true, decide_eq_true_eq] at hcov'
          simp [findHandler.go, hcov'.1, hcov'.2, h0, ha, hT, hcell, hobj, hk1, hk2, has', VmOp.dirties, VmOp.acts]
        · have hci' : (h.2.2.2.2 == ci) = false := by simpa using hci
          rw [List.find?_cons_of_neg (by simp only [hci', Bool.and_false]; decide)] at ht
          rw [hci'] at has'
          obtain ⟨vm', hW', hq⟩ := ih hr (S.setVm (S.vm.noted f.method.cls h.2.2.2.1 (.cls c'))) hm hWn hcell hh' ht
          refine ⟨vm', hW', fun Q E d acts => ?_⟩
          rw [← m4] at ha hT hk1 hk2 has' h0 hq
          have hq := hq Q E d acts
          simp only [Bool.and_eq_true, decide_eq_true_eq] at hcov'
          rw [show (S.setVm vm') = (S.setVm (S.vm.noted f.method.cls x.catchType (.cls c'))).setVm vm' from rfl, ← hq]
          simp [findHandler.go, hcov'.1, hcov'.2, h0, ha, hT, hcell, hobj, hk1, hk2, has', VmOp.dirties, VmOp.acts]
      · have hcov0 : (decide (h.1 ≤ f.pc) && decide (f.pc < h.2.1)) = false := by simpa using hcov
        rw [List.find?_cons_of_neg (by simp only [hcov0, Bool.false_and]; decide)] at ht
        obtain ⟨vm', hW', hq⟩ := ih hr S hm hW hcell hh' ht
        refine ⟨vm', hW', fun Q E d acts => ?_⟩
        rw [← hq Q E d acts]
        exact W.findHandler_go_skip (by unfold covers; rw [m1, m2]; exact hcov0)
/-- what a callee threw is caught here -/
theorem xm_caught (X : Stand p l e R s m args below meth c T locs cells slots) {g : JFrame} (hg : g.method = m) {a : Addr} {cell : Cell} {ci t : Nat} (hcell : T.heap[a]? = some cell) (hobj : cell.vm.isStatics = false) (hk0 : ∃ k, s.vm.classes[cell.cls]? = some k) {hs : List xm_Hd}
    (hm : c.exceptionTable.toList.map (fun h => (h.startPc, h.endPc, h.handlerPc, h.catchType)) = hs.map (fun h => (h.1, h.2.1, h.2.2.1, h.2.2.2.1)))
    (hh : ∀ h ∈ hs, h.2.2.2.1 ≠ 0 ∧ ∃ c', s.vm.ClassLinks e.platform m.cls h.2.2.2.1 c' ∧ s.vm.assignable cell.cls c' = (h.2.2.2.2 == ci))
    (ht : (hs.find? (fun x => decide (x.1 ≤ g.pc) && decide (g.pc < x.2.1) && x.2.2.2.2 == ci)).map (fun x => x.2.2.1) = some t) :
    ∃ vm', Stand p l e R s m args below meth c (T.setVm vm') locs cells slots ∧
      ∀ target, Steps p.tables e below ((T.setVm vm').setTop { g with pc := t, stack := [.ref a] }) target → Steps p.tables e below ((T.setTop g).pushFrame (.throwing a)) target := by
  subst hg
  have hvm : ((T.setTop g).pushFrame (.throwing a)).vm = T.vm := Stand.throwing_vm T g a
  obtain ⟨vm', hW', hq⟩ := xm_find (e := e) (f := g) (a := a) (VmData.ne_statics_of hobj) hk0 c.exceptionTable.toList hs ((T.setTop g).pushFrame (.throwing a)) hm (by rw [hvm]; exact X.warmed) (by rw [Stand.throwing_heap]; exact hcell) hh ht
  refine ⟨vm', X.noted hW', fun target hrest => ?_⟩
  obtain ⟨hgo, hw⟩ := X.here.throwing (g := g) a
  refine Steps.head hgo hw ?_
  have hfind : ∀ (Q : Handler → Pre) (E : CtlPost) (d : Bool) (acts : List Action), wp (findHandler g a) Q E e d acts ((T.setTop g).pushFrame (.throwing a)) ↔ Q (.found t) d acts (((T.setTop g).pushFrame (.throwing a)).setVm vm') := fun Q E d acts => by
    rw [W.findHandler_eq (meth := meth) (code := c) (by rw [hvm]; exact X.method') X.code]
    exact hq Q E d acts
  have hstep : (stepThrowing e ((T.setTop g).pushFrame (.throwing a)) a (.java g :: T.frames.tail)).1 = (((T.setTop g).pushFrame (.throwing a)).setVm vm').setFrames (.java { g with pc := t, stack := [.ref a] } :: T.frames.tail) := by
    simp only [stepThrowing, searchFrame, vmDo]
    generalize hr : Sem.go _ e false [] ((T.setTop g).pushFrame (.throwing a)) = res
    obtain ⟨as, rfl, -⟩ := Sem.eq_ok_of hr (a := Handler.found t) (s' := ((T.setTop g).pushFrame (.throwing a)).setVm vm') (acts' := []) (by simp [hfind _ _ _ _])
    rfl
  rw [stepThread_throwing (frames_entered X.here.top _), hstep]
  obtain ⟨g₀, hfr⟩ := X.frames_eq
  have hfr' : (T.setVm vm').frames = .java g₀ :: below := hfr
  rw [State.setTop_of_frames _ hfr'] at hrest
  have e1 : (((T.setTop g).pushFrame (.throwing a)).setVm vm').setFrames (.java { g with pc := t, stack := [.ref a] } :: T.frames.tail) = (T.setVm vm').setFrames (.java { g with pc := t, stack := [.ref a] } :: below) := by
    rw [X.tail, State.pushFrame, State.setTop_of_frames _ hfr]
    show (((T.setFrames _).setFrames _).setVm vm').setFrames _ = _
    have e2 : ∀ (u : State) (F G : List Frame), ((u.setFrames F).setVm vm').setFrames G = (u.setVm vm').setFrames G := fun u F G => by
      have e3 : (u.setFrames F).setVm vm' = (u.setVm vm').setFrames F := rfl
      rw [e3, State.setFrames_setFrames]
    rw [e2, e2]
  rw [e1]
  exact hrest
end XM7
end
section
/-! 06.sim: the whole run. -/
section XM8
variable {p : Program} {l : Launch} {e : Env} {R : Room} {s : State} {m : MethodId} {args : Array Value} {below : List Frame} {meth : Method} {c : Code} {T : State} {H : Heap} {locs : List Loc} {cells slots : Nat} {Q : State → Prop}
variable {WS : Cond → Bool} {cl : List vw_C} {kt : List FieldType} {df : List (List Value)} {dA : Nat → ClassId} {D : va_G} {B0 sb LS : Nat} {xs : Nat → Int32} {M : xm_M} {P : List xm_M} {h0 : List va_E} {ks0 nL : Nat} {ls : Array Slot}
theorem xm_le.tr {s0 s u : State} (h : xm_le s0 s) (hW : s.WarmedH u.vm) (hz : s0.heap.size ≤ u.heap.size) (hq : ∀ q : Nat, q < s0.heap.size → u.heap[q]? = s.heap[q]?) : xm_le s0 u :=
  ⟨State.WarmedH.trans h.1 hW, hz, fun q hl => (hq q hl).trans (h.2.2 q hl)⟩
theorem xm_isRef {C n d : String} {s0 s : State} {a a' : Array Value} (h : (Cond.isRef (.static C n d)).before a s0 = true) (hle : xm_le s0 s) : (Cond.isRef (.static C n d)).before a' s = true := by
  have h1 : (Cond.isRef (.static C n d)).before a (s0.setVm s.vm) = true := Cond.before_warmed hle.1 _ (by rfl) h
  simp only [Cond.before, Cond.holds, Cond.value, Term.eval] at h1 ⊢
  have hf : (s0.setVm s.vm).fieldNamed? C n d true = s.fieldNamed? C n d true := rfl
  rw [hf] at h1
  cases hfn : s.fieldNamed? C n d true with
  | none => rw [hfn] at h1; simp at h1
  | some x =>
    obtain ⟨c0, k, slot⟩ := x
    rw [hfn] at h1
    cases hst : k.statics with
    | none => simp [hst] at h1
    | some a0 =>
      cases hc : s0.heap[a0]? with
      | none =>
        simp [hst, hc] at h1
      | some cell =>
        have hc2 : s.heap[a0]? = some cell := by rw [hle.2.2 a0 (Array.getElem?_eq_some_iff.mp hc).1]; exact hc
        simp [hst, hc] at h1
        simp [hst, hc2, h1]
theorem xm_lays {C n d : String} {s0 s : State} {a a' : Array Value} (h : (Cond.laysStatic C n d).before a s0 = true) (hle : xm_le s0 s) : (Cond.laysStatic C n d).before a' s = true := by
  obtain ⟨c, k, i, f, a0, cell, h1, h2, h3, h4, h5, h6, h7, h8, h9⟩ := Cond.laysStatic_spec h
  have hvm := hle.1.alike
  obtain ⟨k', hi', he⟩ := State.fieldFound?_setVm hvm h2
  show (Cond.laysStatic C n d).holds a' s none s [] = true
  exact Cond.laysStatic_of (by rw [hvm.findClass]; exact h1) hi' h3 (by rw [he]; exact h4) (by rw [hle.2.2 a0 (Array.getElem?_eq_some_iff.mp h5).1]; exact h5) h6 h7 h8 (by rw [he]; exact h9)
/-- the names between an exception's class and Throwable -/
def xm_mid : List String := ["java/lang/RuntimeException", "java/lang/Exception"]
/-- the words of a throw -/
def xm_okT (WS : Cond → Bool) (cl : List vw_C) (M : xm_M) (x : xm_I) : Bool :=
  match x with
  | (pc, .new ix, a, b, _, d) => if d = 1 then match cl[a]? with
    | some (C, _, N) => (N == 0) && WS (Cond.classLink M.1.cls ix C) && WS (Cond.initialized C) && Bundle.fit C && decide (decode M.2.1 (pc + 3) = .ok (.dup, 1)) && decide (decode M.2.1 (pc + 4) = .ok (.invokespecial b, 3)) && decide (decode M.2.1 (pc + 7) = .ok (.athrow, 1)) &&
        (Bundle.ownAtoms0 M.1.cls b C xm_mid).all (fun w => WS (w) || decide (w = .isRef (.static Bundle.tN "UNASSIGNED_STACK" Bundle.steD)) || decide (w = .isRef (.static Bundle.tN "SUPPRESSED_SENTINEL" Bundle.listD)) || decide (w = .laysStatic Bundle.tN "UNASSIGNED_STACK" Bundle.steD) || decide (w = .laysStatic Bundle.tN "SUPPRESSED_SENTINEL" Bundle.listD))
    | none => false
    else true
  | _ => true
set_option maxHeartbeats 4000000 in
set_option maxRecDepth 100000 in
theorem xm_thr (hx : p.tables.exec = Jvm.exec) (htr : l.admits e → e.platform.stackTraces = false) (hb : c.code = M.2.1) (hml : c.maxLocals = nL) (hlk : meth.locks = false) (hown : s.vm.findClass M.1.cls = some m.cls) (hts : ∀ w, WS w = true → w.before args s = true) (hK : va_K D cl (xm_tys kt dA) s)
    (hz1 : (Cond.isRef (.static Bundle.tN "UNASSIGNED_STACK" Bundle.steD)).before args s = true) (hz2 : (Cond.isRef (.static Bundle.tN "SUPPRESSED_SENTINEL" Bundle.listD)).before args s = true) (hz3 : (Cond.laysStatic Bundle.tN "UNASSIGNED_STACK" Bundle.steD).before args s = true) (hz4 : (Cond.laysStatic Bundle.tN "SUPPRESSED_SENTINEL" Bundle.listD).before args s = true) (hsz : s.heap.size = B0 + h0.length) (hRf : 6 ≤ R.frames) (hRl : 128 ≤ R.locals) (hnoH : c.exceptionTable.toList = [])
    {ix a b k d pc : Nat} {L : List (Option Value)} {st : List Value} {S : xm_S} (hd : d = 1) (hst : st.length ≤ 4) (hok : xm_ok WS cl M (pc, .new ix, a, b, k, d) = true) (hokT : xm_okT WS cl M (pc, .new ix, a, b, k, d) = true) (hclean : S.2.2 = true)
    (hc1 : S.1.length + 1 ≤ R.cells + h0.length) (hc2 : S.2.1 + 6 ≤ R.slots + ks0) (hV : xm_V D cl dA B0 sb s h0 ks0 nL L S H locs cells slots ls) :
    W p l e R s m args below meth c H locs cells slots (xm_End D cl dA B0 sb s below h0 ks0 (.inr S.1.length) (S.1 ++ [.inr (a, [])], S.2.1 + 6, true)) (F0 m pc ls (st.map (xm_tv B0 sb))) := by
  simp only [xm_ok, Bool.and_eq_true, decide_eq_true_eq] at hok
  have hdg := hok.1
  subst hd
  simp only [xm_okT, if_true] at hokT
  split at hokT
  case h_2 => cases hokT
  rename_i C T0 N hc
  simp only [Bool.and_eq_true, decide_eq_true_eq, beq_iff_eq, List.all_eq_true, Bool.or_eq_true] at hokT
  obtain ⟨⟨⟨⟨⟨⟨⟨o0, o1⟩, o3⟩, o4⟩, o5⟩, o6⟩, o7⟩, o8⟩ := hokT
  subst o0
  have hat : ∀ w ∈ Bundle.ownAtoms0 M.1.cls b C xm_mid, w.before args s = true := fun w hw => by
    rcases o8 w hw with (((h | h) | h) | h) | h
    · exact hts _ h
    · rw [h]; exact hz1
    · rw [h]; exact hz2
    · rw [h]; exact hz3
    · rw [h]; exact hz4
  have hins : (Cond.instantiable C 6).before args s = true := hat _ (by simp [Bundle.ownAtoms0])
  have e4 := hV.2.2.2.1
  have e5 := hV.2.2.2.2.1
  obtain ⟨hl0, hS0⟩ := hV.2.2.2.2.2 hclean
  subst hl0
  have hPw := hV.2.1
  refine xm_size hsz hV fun hHs => ?_
  refine W.newc hx hb hown (hts _ o1) hins (hts _ o3) rfl hdg (by omega) (by omega) (fun cC kC f1 f2 f3 f4 => ?_)
  refine W.eq (g2 := F0 m (pc + 3) ls (.ref H.size :: st.map (xm_tv B0 sb))) rfl ?_
  refine lv_dup hx hb o5 rfl ?_
  intro T hT X
  have hTz : T.heap.size = H.size + 1 := by rw [hT]; simp
  have hcell : T.heap[H.size]? = some ({ cls := cC, slots := kC.instanceTypes.map defaultValue, vm := .none } : Cell) := by rw [hT]; simp
  have hTo : ∀ q : Nat, q < H.size → T.heap[q]? = H[q]? := fun q hq => by rw [hT, Array.getElem?_push, if_neg (Nat.ne_of_lt hq)]
  have hsum := xm_sum (B0 := B0) (sb := sb) st
  obtain ⟨U, hst, hrun, hend, hWU, hsame, ce, hce, hoc⟩ := X.ctorThrow0 hx (htr X.admits) (own := M.1.cls) (cls := C) (names := xm_mid) (ic := b) hown o4 (by decide) hat (fun y hy => by cases hy) f1 f2 hcell (by omega)
    (g := F0 m (pc + 4) ls (.ref H.size :: .ref H.size :: st.map (xm_tv B0 sb))) rfl (by show ls.size = _; rw [hml]; exact hV.1.1) rfl rfl rfl (by rw [hb]; exact o6) (by rw [hb]; exact o7) (by rw [hnoH]; intro y hy; cases hy) (by show 2 + 3 < _; omega)
    (by show 2 * 0 + ((Value.ref H.size :: st.map (xm_tv B0 sb)).map fun v => v.category).sum + (13 * (2 + 1) + 41) ≤ _
        have hc1 : (Value.ref H.size).category = 1 := rfl
        simp only [List.map_cons, List.sum_cons, hc1]
        omega) hlk
  have hU1 : U.heap.size ≤ s.heap.size + (cells + 1) := hsame.2.2.1
  have hU2 : H.size < U.heap.size := (Array.getElem?_eq_some_iff.mp hce).1
  have hUo : ∀ q : Nat, q < s.heap.size → U.heap[q]? = s.heap[q]? := fun q hq => xm_same0 hsame hq
  have hTs : ∀ q : Nat, q < s.heap.size → T.heap[q]? = s.heap[q]? := fun q hq => xm_same0 X.same hq
  have hlen : S.1.length = h0.length := by rw [hS0]
  refine ⟨U, hst, .threw H.size, hrun, hend, ?_, hWU, ?_, ?_, fun q hq => hUo q (by omega), fun i hi => ?_, [], fun q hq => (by cases hq), fun _ => ⟨rfl, fun v hv => by cases hv⟩, fun _ _ => rfl, ?_⟩
  · show Outcome.threw H.size = Outcome.threw (B0 + S.1.length)
    rw [hHs]
  · show va_P D cl (xm_tw dA B0 sb (S.1 ++ [.inr (a, [])])) U.heap
    rw [xm_tw_app]
    refine va_P.app (hPw.kept fun k q hk => ?_) (fun k q hk => ?_)
    · have hq1 : q.1 < H.size := (hPw k q hk).lt
      rw [hUo q.1 (by omega), ← hTs q.1 (by omega), hTo q.1 hq1]
    · have hz : k < 1 := (List.getElem?_eq_some_iff.mp hk).1
      rw [show k = 0 by omega] at hk
      cases hk
      refine ⟨_, hc, ce, ?_, ?_, hoc.vm, fun j hj => by cases hj⟩
      · show U.heap[B0 + S.1.length]? = some ce
        rw [← hHs]
        exact hce
      · exact Option.some.inj (hoc.cls.symm.trans (hK.1 a _ hc).2.1)
  · show U.heap.size = B0 + (S.1 ++ [_]).length
    simp only [List.length_append, List.length_singleton]
    omega
  · cases hi
    exact ⟨a, C, T0, by simp, hc⟩
  · have q1 : (S.1 ++ [(.inr (a, []) : va_E)]).length - h0.length = cells + 1 := by simp only [List.length_append, List.length_singleton]; omega
    have q2 : S.2.1 + 6 - ks0 = slots + 6 := by omega
    show s.sameButNew _ [] ((S.1 ++ [(.inr (a, []) : va_E)]).length - h0.length) (S.2.1 + 6 - ks0)
    rw [q1, q2]
    exact hsame
end XM8
section XM8b
variable {p : Program} {l : Launch} {e : Env} {R : Room} {s : State} {m : MethodId} {args : Array Value} {below : List Frame} {meth : Method} {c : Code} {T : State} {H : Heap} {locs : List Loc} {cells slots : Nat} {Q : State → Prop}
variable {WS : Cond → Bool} {cl : List vw_C} {kt : List FieldType} {df : List (List Value)} {dA : Nat → ClassId} {D : va_G} {B0 sb LS : Nat} {xs : Nat → Int32} {M : xm_M} {P : List xm_M} {h0 : List va_E} {ks0 nL : Nat} {ls : Array Slot}
/-- a method's own words -/
def xm_h4 (M : xm_M) : List (Nat × Nat × Nat × Nat) := M.2.2.2.2.1.map (fun h => (h.1, h.2.1, h.2.2.1, h.2.2.2.1))
def xm_okF (WS : Cond → Bool) (cl : List vw_C) (M : xm_M) : Bool :=
  plainName M.1.cls && decide (M.2.2.1 ≤ 14) && (if M.2.2.2.2.1 = [] then WS (Cond.code M.1 M.2.1 M.2.2.1 M.2.2.2.1) else WS (Cond.codeWith M.1 M.2.1 M.2.2.1 M.2.2.2.1 (xm_h4 M))) && WS (Cond.initialized M.1.cls) &&
  M.2.2.2.2.1.all (fun h => decide (h.2.2.2.1 ≠ 0) && match cl[h.2.2.2.2]? with
    | some (C, _, _) => WS (Cond.classLink M.1.cls h.2.2.2.1 C)
    | none => false)
def xm_okM (WS : Cond → Bool) (cl : List vw_C) (M : xm_M) : Bool := if M.1.name = "law" then M.2.2.2.2.1.isEmpty else xm_okF WS cl M
def xm_okC (WS : Cond → Bool) (cl : List vw_C) (P : List xm_M) (M : xm_M) (x : xm_I) : Bool :=
  match x with
  | (_, .invokevirtual ix, a, b, k, _) => match P[a]?, cl[k]? with
    | some M', some (C, _, _) => (WS (Cond.methodLink M.1.cls ix M'.1) || WS (Cond.methodLinkNest M.1.cls ix M'.1 "FibrePairs")) && WS (Cond.instanceMethod M'.1) && WS (Cond.selects C M'.1 M'.1) && decide (M'.1.cls ≠ "java/lang/invoke/MethodHandle" ∧ M'.1.cls ≠ "java/lang/invoke/VarHandle") && decide ((parseMethodDescriptor M'.1.desc).map (fun d => d.parameters.length + 1) = some b) && decide (b ≤ M'.2.2.1) && decide (M'.1.name ≠ "law")
    | _, _ => false
  | (_, .invokestatic ix, a, b, _, _) => match P[a]? with
    | some M' => (WS (Cond.methodLink M.1.cls ix M'.1) || WS (Cond.methodLinkNest M.1.cls ix M'.1 "FibrePairs")) && WS (Cond.static M'.1) && decide (M'.1.cls ≠ "java/lang/invoke/MethodHandle" ∧ M'.1.cls ≠ "java/lang/invoke/VarHandle") && decide ((parseMethodDescriptor M'.1.desc).map (fun d => d.parameters.length) = some b) && decide (b ≤ M'.2.2.1) && decide (M'.1.name ≠ "law")
    | _ => false
  | (_, .invokespecial ix, a, _, _, d) => if d = 0 then match P[a]? with
    | some M' => (WS (Cond.methodLink M.1.cls ix M'.1) || WS (Cond.methodLinkNest M.1.cls ix M'.1 "FibrePairs")) && WS (Cond.instanceMethod M'.1) && (M'.1.name == "<init>") && decide (M'.2.2.2.2.1 = []) && decide (M'.2.2.2.1 = none) && decide (M'.1.cls ≠ "java/lang/invoke/MethodHandle" ∧ M'.1.cls ≠ "java/lang/invoke/VarHandle") && decide ((parseMethodDescriptor M'.1.desc).map (fun d => d.parameters.length) = some 0) && decide (1 ≤ M'.2.2.1) && decide (M'.1.name ≠ "law")
    | _ => false
    else true
  | (_, .ireturn, _, _, _, d) => match M.2.2.2.1 with
    | some .int => d == 0
    | some .boolean => d == 1
    | _ => false
  | (_, .return_, _, _, _, _) => decide (M.2.2.2.1 = none)
  | _ => true
/-- what stands fast from the law's first state on -/
def xm_Top (WS : Cond → Bool) (cl : List vw_C) (kt : List FieldType) (df : List (List Value)) (P : List xm_M) (dA : Nat → ClassId) (D : va_G) (B0 sb LS : Nat) (xs : Nat → Int32) (s0 : State) : Prop :=
  (∀ w, WS w = true → ∀ (a' : Array Value) (U : State), s0.WarmedH U.vm → w.before a' U = true) ∧ va_K D cl (xm_tys kt dA) s0 ∧ va_X sb LS xs s0 s0.heap ∧ sb < B0 ∧ s0.heap.size = B0 ∧
  (∀ a' : Array Value, (Cond.isRef (.static Bundle.tN "UNASSIGNED_STACK" Bundle.steD)).before a' s0 = true) ∧ (∀ a' : Array Value, (Cond.isRef (.static Bundle.tN "SUPPRESSED_SENTINEL" Bundle.listD)).before a' s0 = true) ∧ (∀ a' : Array Value, (Cond.laysStatic Bundle.tN "UNASSIGNED_STACK" Bundle.steD).before a' s0 = true) ∧ (∀ a' : Array Value, (Cond.laysStatic Bundle.tN "SUPPRESSED_SENTINEL" Bundle.listD).before a' s0 = true) ∧ xm_cls WS cl ∧
  (∀ (mi : Nat) (M : xm_M), P[mi]? = some M → xm_okM WS cl M = true ∧ ∀ x ∈ M.2.2.2.2.2, xm_ok WS cl M x = true ∧ xm_okN WS cl kt df M x = true ∧ xm_okT WS cl M x = true ∧ xm_okC WS cl P M x = true) ∧
  (∀ (M : xm_M) (mi : Nat), P[mi]? = some M → ∀ h ∈ M.2.2.2.2.1, ∀ (ci : Nat) (C C' : String) (T T' : u_T) (N' : Nat), cl[ci]? = some (C, T, 0) → cl[h.2.2.2.2]? = some (C', T', N') → ∀ (U : State), s0.WarmedH U.vm → ∀ (q q' : ClassId), U.vm.findClass C = some q → U.vm.findClass C' = some q' → U.vm.assignable q q' = (h.2.2.2.2 == ci))
/-- a frame of the method M -/
def xm_Frm (p : Program) (R : Room) (s0 s : State) (m : MethodId) (meth : Method) (c : Code) (B0 KC KS d : Nat) (M : xm_M) (h0 : List va_E) (ks0 : Nat) : Prop :=
  p.tables.exec = Jvm.exec ∧ s.vm.findClass M.1.cls = some m.cls ∧ (M.1.name = "<init>" → meth.name = "<init>") ∧ c.code = M.2.1 ∧ c.maxLocals = M.2.2.1 ∧ meth.sig.returnType = M.2.2.2.1 ∧ meth.locks = false ∧
  (M.1.name ≠ "law" → c.exceptionTable.toList.map (fun h => (h.startPc, h.endPc, h.handlerPc, h.catchType)) = xm_h4 M) ∧ xm_le s0 s ∧ s.heap.size = B0 + h0.length ∧ R.frames = d + 1 ∧ R.locals = 33 * d + 58 ∧ R.cells + h0.length = KC ∧ R.slots + ks0 = KS
theorem xm_ins_len {i : Instr} {a b k d pc : Nat} {L : List (Option Value)} {st : List Value} {S S' : xm_S} {F' : xm_F} (hact : xm_ins xs LS kt i a b k d pc L st S = some (.inl (F', S'))) : S'.1.length = S.1.length ∧ S'.2.1 = S.2.1 := by
  unfold xm_ins at hact
  split at hact <;> (try cases hact) <;> (try exact ⟨rfl, rfl⟩) <;> (split at hact) <;> (try cases hact) <;> (try exact ⟨rfl, rfl⟩) <;> (try (split at hact)) <;> (try cases hact) <;> (try exact ⟨rfl, rfl⟩) <;> (try exact ⟨by simp, rfl⟩) <;> (try (split at hact)) <;> (try cases hact) <;> (try exact ⟨rfl, rfl⟩)
theorem xm_ins_inl {i : Instr} {a b k d pc : Nat} {L : List (Option Value)} {st : List Value} {S : xm_S} {A : (Option Value) ⊕ Nat ⊕ (Nat × List Value × List Value)} (hact : xm_ins xs LS kt i a b k d pc L st S = some (.inr A)) : False := by
  unfold xm_ins at hact
  split at hact <;> (try cases hact) <;> (split at hact) <;> (try cases hact) <;> (try (split at hact)) <;> (try cases hact) <;> (try (split at hact)) <;> (try cases hact)
theorem xm_big_len {i : Instr} {a b k d pc : Nat} {L : List (Option Value)} {st : List Value} {S S' : xm_S} {F' : xm_F} (hact : xm_big kt df i a b k d pc L st S = some (.inl (F', S'))) : S.1.length ≤ S'.1.length ∧ S.2.1 ≤ S'.2.1 := by
  unfold xm_big at hact
  split at hact <;> (try cases hact) <;> (try (split at hact)) <;> (try cases hact) <;> (try (split at hact)) <;> (try cases hact) <;> (try (split at hact)) <;> (try cases hact) <;> (try (split at hact)) <;> (try cases hact) <;> first
    | exact ⟨Nat.le_refl _, Nat.le_refl _⟩
    | exact ⟨by simp, by simp⟩
theorem xm_act_len {mi : Nat} {F F' : xm_F} {S S' : xm_S} (h : xm_act xs LS kt df P mi F S = some (.inl (F', S'))) : S.1.length ≤ S'.1.length ∧ S.2.1 ≤ S'.2.1 := by
  unfold xm_act at h
  split at h
  · split at h
    · obtain ⟨h1, h2⟩ := xm_ins_len h
      omega
    · exact xm_big_len h
  · cases h
theorem xm_run_len : ∀ (n d mi : Nat) (F : xm_F) (S S1 : xm_S) (r : Option Value ⊕ Nat), xm_run xs LS kt df P n d mi F S = some (r, S1) → S.1.length ≤ S1.1.length ∧ S.2.1 ≤ S1.2.1 := by
  intro n
  induction n with
  | zero => intro d mi F S S1 r h; simp [xm_run] at h
  | succ n ih =>
    intro d mi F S S1 r h
    unfold xm_run at h
    split at h
    · cases h
    · rename_i F' S' ha
      have h1 := xm_act_len ha
      have h2 := ih _ _ _ _ _ _ h
      omega
    · cases h
      exact ⟨Nat.le_refl _, Nat.le_refl _⟩
    · split at h
      · cases h
        exact ⟨by simp, by simp⟩
      · cases h
    · split at h
      · cases h
      · split at h
        · cases h
        · rename_i v S' hr
          have h1 := ih _ _ _ _ _ _ hr
          have h2 := ih _ _ _ _ _ _ h
          simp only at h1 h2
          omega
        · rename_i i S' hr
          have h1 := ih _ _ _ _ _ _ hr
          simp only at h1
          split at h
          · split at h
            · have h2 := ih _ _ _ _ _ _ h
              simp only at h2
              omega
            · split at h
              · cases h
                exact h1
              · cases h
          · cases h
theorem xm_at_mem {mi pc : Nat} {x : xm_I} (hM : P[mi]? = some M) (h : xm_at P mi pc = some x) : x ∈ M.2.2.2.2.2 ∧ x.1 = pc := by
  unfold xm_at at h
  rw [hM] at h
  exact ⟨List.mem_of_find?_eq_some h, by simpa using List.find?_some h⟩
theorem xm_big_ret {i : Instr} {a b k d pc : Nat} {L : List (Option Value)} {st : List Value} {S : xm_S} {v : Option Value} (hact : xm_big kt df i a b k d pc L st S = some (.inr (.inl v))) :
    (i = .ireturn ∧ ∃ x, st = [.int x] ∧ v = some (.int x) ∧ (d = 0 ∨ x = 0 ∨ x = 1)) ∨ (i = .return_ ∧ st = [] ∧ v = none) := by
  unfold xm_big at hact
  split at hact
  · split at hact
    · rename_i hd
      cases hact
      exact Or.inl ⟨rfl, _, rfl, rfl, Or.inl hd⟩
    · split at hact
      · rename_i hd
        cases hact
        exact Or.inl ⟨rfl, _, rfl, rfl, Or.inr hd⟩
      · cases hact
  · cases hact
    exact Or.inr ⟨rfl, rfl, rfl⟩
  all_goals (repeat' (first | cases hact | split at hact))
theorem xm_big_thr {i : Instr} {a b k d pc : Nat} {L : List (Option Value)} {st : List Value} {S : xm_S} {v : Nat} (hact : xm_big kt df i a b k d pc L st S = some (.inr (.inr (.inl v)))) :
    ∃ ix, i = .new ix ∧ d = 1 ∧ st.length ≤ 4 ∧ v = a := by
  unfold xm_big at hact
  split at hact
  · repeat' (first | cases hact | split at hact)
  · cases hact
  · split at hact
    · rename_i hd
      split at hact
      · rename_i hl
        cases hact
        exact ⟨_, rfl, hd, hl, rfl⟩
      · cases hact
    · split at hact <;> cases hact
  all_goals (repeat' (first | cases hact | split at hact))
theorem xm_big_call {i : Instr} {a b k d pc y : Nat} {L : List (Option Value)} {st as rest : List Value} {S : xm_S} (hact : xm_big kt df i a b k d pc L st S = some (.inr (.inr (.inr (y, as, rest))))) :
    y = a ∧ rest.length ≤ 4 ∧ ((∃ ix r, i = .invokespecial ix ∧ d = 0 ∧ st = .ref r :: rest ∧ as = [.ref r]) ∨ (∃ ix r bs ci fs, i = .invokevirtual ix ∧ as = .ref r :: bs ∧ st = bs.reverse ++ .ref r :: rest ∧ as.length = b ∧ as.all xm_cat = true ∧ S.1[r]? = some (.inr (ci, fs)) ∧ ci = k) ∨ (∃ ix, i = .invokestatic ix ∧ st = as.reverse ++ rest ∧ as.length = b ∧ as.all xm_cat = true)) := by
  unfold xm_big at hact
  split at hact
  · repeat' (first | cases hact | split at hact)
  · cases hact
  · repeat' (first | cases hact | split at hact)
  · repeat' (first | cases hact | split at hact)
  · repeat' (first | cases hact | split at hact)
  · repeat' (first | cases hact | split at hact)
  · split at hact
    · split at hact <;> cases hact
    · split at hact
      · rename_i hd
        cases hact
        exact ⟨rfl, hd.2, Or.inl ⟨_, _, rfl, hd.1, rfl, rfl⟩⟩
      · cases hact
  · split at hact
    · rename_i hl
      split at hact
      · rename_i r bs hrev
        split at hact
        · rename_i ci fs hr
          split at hact
          · rename_i hk
            cases hact
            have h1 : st.take b = bs.reverse ++ [.ref r] := by
              have := congrArg List.reverse hrev
              simpa using this
            refine ⟨rfl, hl.2.1, Or.inr (Or.inl ⟨_, r, bs, ci, fs, rfl, rfl, ?_, ?_, ?_, hr, hk⟩)⟩
            · have h2 := List.take_append_drop b st
              rw [h1] at h2
              rw [List.append_assoc] at h2
              exact h2.symm
            · rw [← hrev]
              simp only [List.length_reverse, List.length_take]
              omega
            · rw [← hrev]
              simpa using hl.2.2
          · cases hact
        · cases hact
      · cases hact
    · cases hact
  · split at hact
    · rename_i hl
      cases hact
      refine ⟨rfl, hl.2.1, Or.inr (Or.inr ⟨_, rfl, ?_, ?_, ?_⟩)⟩
      · simp
      · simp only [List.length_reverse, List.length_take]
        omega
      · simpa using hl.2.2
    · cases hact
  · cases hact
theorem xm_cat1 {as : List Value} (h : as.all xm_cat = true) : ∀ v ∈ as, v.category = 1 := by
  intro v hv
  have h1 := List.all_eq_true.mp h v hv
  cases v <;> first | rfl | (simp [xm_cat] at h1)
/-- a method's first frame -/
theorem xm_first {as : List Value} {nA : Nat} (hc1 : ∀ v ∈ as, v.category = 1) (hn : as.length ≤ nA) : entryFrame m (as.map (xm_tv B0 sb)).toArray nA = F0 m 0 (((as.map (xm_tv B0 sb)).map Slot.val ++ List.replicate (nA - (as.map (xm_tv B0 sb)).length) Slot.unset).toArray) [] ∧
    xm_lv B0 sb (((as.map (xm_tv B0 sb)).map Slot.val ++ List.replicate (nA - (as.map (xm_tv B0 sb)).length) Slot.unset).toArray) nA (as.map some ++ List.replicate (nA - as.length) none) := by
  have hc2 : ∀ v ∈ as.map (xm_tv B0 sb), v.category = 1 := by
    intro v hv
    obtain ⟨w, hw, rfl⟩ := List.mem_map.mp hv
    rw [xm_tv_cat]; exact hc1 w hw
  refine ⟨entry_eq m _ hc2 nA, by simp; omega, ⟨fun i v hv hv2 => ?_, fun i hi => ?_⟩, by simp; omega, fun i v hv => ?_⟩
  · exfalso
    rw [List.getElem?_toArray] at hv
    rcases List.mem_append.mp (List.mem_of_getElem? hv) with h | h
    · obtain ⟨w, hw, h2⟩ := List.mem_map.mp h
      cases h2
      have := hc2 _ hw
      omega
    · have := (List.mem_replicate.mp h).2
      cases this
  · exfalso
    rw [List.getElem?_toArray] at hi
    rcases List.mem_append.mp (List.mem_of_getElem? hi) with h | h
    · obtain ⟨w, hw, h2⟩ := List.mem_map.mp h
      cases h2
    · have := (List.mem_replicate.mp h).2
      cases this
  · by_cases hi : i < as.length
    · rw [List.getElem?_append_left (by simpa using hi), List.getElem?_map] at hv
      obtain ⟨w, hw, h2⟩ := Option.map_eq_some_iff.mp hv
      cases h2
      refine ⟨?_, hc1 v (List.mem_of_getElem? hw)⟩
      rw [List.getElem?_toArray, List.getElem?_append_left (by simpa using hi), List.getElem?_map, List.getElem?_map, hw]
      rfl
    · rw [List.getElem?_append_right (by simpa using Nat.not_lt.mp hi)] at hv
      have := (List.mem_replicate.mp (List.mem_of_getElem? hv)).2
      cases this
theorem xm_okM.full (h : xm_okM WS cl M = true) (hn : M.1.name ≠ "law") : xm_okF WS cl M = true := by
  unfold xm_okM at h
  rw [if_neg hn] at h
  exact h
theorem xm_code {s0 : State} {mi : Nat} (hWS : ∀ w, WS w = true → ∀ (a' : Array Value) (U : State), s0.WarmedH U.vm → w.before a' U = true) (hok : xm_okF WS cl M = true) {U : State} (hU : s0.WarmedH U.vm) (a' : Array Value) :
    (Cond.codeWith M.1 M.2.1 M.2.2.1 M.2.2.2.1 (xm_h4 M)).before a' U = true ∧ (Cond.initialized M.1.cls).before a' U = true := by
  simp only [xm_okF, Bool.and_eq_true, decide_eq_true_eq] at hok
  obtain ⟨⟨⟨-, h1⟩, h2⟩, -⟩ := hok
  refine ⟨?_, hWS _ h2 _ _ hU⟩
  split at h1
  · rename_i hnil
    have h3 := hWS _ h1 a' U hU
    unfold Cond.before Cond.holds at h3 ⊢
    rw [Cond.code_iff_codeWith_nil] at h3
    have h4 : xm_h4 M = [] := by unfold xm_h4; rw [hnil]; rfl
    rw [h4]
    exact h3
  · exact hWS _ h1 a' U hU
end XM8b
end
section
/-! 07.whole: the simulation. -/
section XM9
variable {l : Launch}
variable {WS : Cond → Bool} {cl : List vw_C} {kt : List FieldType} {df : List (List Value)} {dA : Nat → ClassId} {D : va_G} {B0 sb LS : Nat} {xs : Nat → Int32} {P : List xm_M}
set_option maxHeartbeats 8000000 in
set_option maxRecDepth 100000 in
theorem xm_sim {s0 : State} {KC KS : Nat} (hTop : xm_Top WS cl kt df P dA D B0 sb LS xs s0) (htr : ∀ e : Env, l.admits e → e.platform.stackTraces = false) : ∀ (n d mi : Nat) (F : xm_F) (S S1 : xm_S) (r : Option Value ⊕ Nat), xm_run xs LS kt df P n d mi F S = some (r, S1) → S1.1.length ≤ KC → S1.2.1 ≤ KS →
    ∀ (p : Program) (e : Env) (R : Room) (s : State) (m : MethodId) (args : Array Value) (below : List Frame) (meth : Method) (c : Code) (H : Heap) (locs : List Loc) (cells slots : Nat) (ls : Array Slot) (h0 : List va_E) (ks0 : Nat) (M : xm_M), P[mi]? = some M →
      xm_Frm p R s0 s m meth c B0 KC KS d M h0 ks0 → xm_V D cl dA B0 sb s h0 ks0 M.2.2.1 F.2.1 S H locs cells slots ls →
      W p l e R s m args below meth c H locs cells slots (xm_End D cl dA B0 sb s below h0 ks0 r S1) (F0 m F.1 ls (F.2.2.map (xm_tv B0 sb))) := by
  intro n
  induction n with
  | zero => intro d mi F S S1 r h; simp [xm_run] at h
  | succ n ih =>
    intro d mi F S S1 r hrun hKC hKS p e R s m args below meth c H locs cells slots ls h0 ks0 M hM hF hV
    obtain ⟨hx, hnm, hmn, hb, hml, hret, hlk, hxt, hle, hsz, hRf, hRl, hRc, hRs⟩ := id hF
    obtain ⟨hWS, hK0, hX0, hsb, hB0, hZ1, hZ2, hZ3, hZ4, hcl, hall, hcast⟩ := id hTop
    have hown : s.vm.findClass M.1.cls = some m.cls := hnm
    have hts : ∀ w, WS w = true → w.before args s = true := fun w hw => hWS w hw args s hle.1
    have hK : va_K D cl (xm_tys kt dA) s := va_K.moved hle.1.alike hK0
    have hX : va_X sb LS xs s s.heap := (va_X.moved hle.1.alike hX0).kept (hle.2.2 sb (by omega))
    have hlen := xm_run_len _ _ _ _ _ _ _ hrun
    obtain ⟨hokM, hokI⟩ := hall mi M hM
    unfold xm_run at hrun
    split at hrun
    · cases hrun
    · rename_i F' S' ha
      have hlen2 := xm_run_len _ _ _ _ _ _ _ hrun
      unfold xm_act at ha
      split at ha
      · rename_i pc' i a b k d0 hat
        obtain ⟨hmem, hpc⟩ := xm_at_mem hM hat
        have hpc : pc' = F.1 := hpc
        subst hpc
        obtain ⟨o1, o2, o3, o4⟩ := hokI _ hmem
        split at ha
        · exact xm_sm hx hb hown hmn hts hK hX hsb (by omega) hcl o1 ha hV (fun H' locs' ls' hV' => ih _ _ _ _ _ _ hrun hKC hKS _ _ _ _ _ _ _ _ _ _ _ _ _ _ _ _ _ hM hF hV')
        · exact xm_bg hx hb hml hown hts hK hsz hcl (by omega) (by omega) o1 o2 ha (by omega) (by omega) hV (fun H' locs' cells' slots' ls' hV' => ih _ _ _ _ _ _ hrun hKC hKS _ _ _ _ _ _ _ _ _ _ _ _ _ _ _ _ _ hM hF hV')
      · cases ha
    · rename_i v ha
      cases hrun
      unfold xm_act at ha
      split at ha
      · rename_i pc' i a b k d0 hat
        obtain ⟨hmem, hpc⟩ := xm_at_mem hM hat
        have hpc : pc' = F.1 := hpc
        subst hpc
        obtain ⟨o1, o2, o3, o4⟩ := hokI _ hmem
        have hdg := o1
        simp only [xm_ok, Bool.and_eq_true, decide_eq_true_eq] at hdg
        have hdg := hdg.1
        split at ha
        · exact (xm_ins_inl ha).elim
        · refine xm_size hsz hV fun hHs => ?_
          obtain ⟨h1, h2, h3, h4, h5, h6⟩ := hV
          have hfree : ∀ q ∈ locs, B0 ≤ q.base ∧ S.2.2 = false := fun q hq => ⟨h3.2.2 q hq, by
            cases hS : S.2.2 with
            | false => rfl
            | true => rw [(h6 hS).1] at hq; cases hq⟩
          have hfin : ∀ t : State, MQ below (fun _ _ o t => o = xm_o B0 sb (.inl v) ∧ t.heap = H) args s cells slots (fun q => B0 ≤ q ∧ S.2.2 = false) t → xm_End D cl dA B0 sb s below h0 ks0 (.inl v) S t := by
            intro t ht
            obtain ⟨o, hrunT, hend, ⟨ho, hth⟩, L, ⟨hro, hW, hsame⟩, hL⟩ := ht
            refine ⟨o, hrunT, hend, ho, hW, by rw [hth]; exact h2, by rw [hth]; exact hHs, fun q hq => by rw [hth]; exact h3.2.1 q (by omega) (by show ¬ B0 ≤ q; omega), (fun i hi => by cases hi), L, fun q hq => (hL q hq).1, fun hS => ⟨?_, fun _ _ => (h6 hS).2⟩, (fun i hi => by cases hi), ?_⟩
            · cases L with
              | nil => rfl
              | cons q r => have := (hL q List.mem_cons_self).2; rw [hS] at this; cases this
            · have q1 : S.1.length - h0.length = cells := by omega
              have q2 : S.2.1 - ks0 = slots := by omega
              rw [q1, q2]
              exact hsame
          rcases xm_big_ret ha with ⟨rfl, x, hst, rfl, hd0⟩ | ⟨rfl, hst, rfl⟩
          · rw [hst]
            simp only [xm_okC] at o4
            refine xm_mono hfin ?_
            split at o4
            · rename_i hr0
              exact W.zret (v := x) (ty := .int) hx hb (hret.trans hr0) rfl (fun t ht _ => ⟨rfl, ht⟩) hfree hdg hlk
            · rename_i hr0
              have hd1 : d0 = 1 := by simpa using o4
              have hx01 : x = 0 ∨ x = 1 := by
                rcases hd0 with h | h
                · omega
                · exact h
              exact W.zret (v := x) (ty := .boolean) hx hb (hret.trans hr0) (by rcases hx01 with rfl | rfl <;> decide) (fun t ht _ => ⟨rfl, ht⟩) hfree hdg hlk
            · cases o4
          · rw [hst]
            simp only [xm_okC, decide_eq_true_eq] at o4
            exact xm_mono hfin (W.vret hx hb (hret.trans o4) (fun t ht _ => ⟨rfl, ht⟩) hfree hdg hlk)
      · cases ha
    · rename_i ci ha
      split at hrun
      · rename_i hcn
        cases hrun
        simp only [Bool.and_eq_true, decide_eq_true_eq] at hcn
        unfold xm_act at ha
        split at ha
        · rename_i pc' i a b k d0 hat
          obtain ⟨hmem, hpc⟩ := xm_at_mem hM hat
          have hpc : pc' = F.1 := hpc
          subst hpc
          obtain ⟨o1, o2, o3, o4⟩ := hokI _ hmem
          split at ha
          · exact (xm_ins_inl ha).elim
          · obtain ⟨ix, rfl, hd1, hst, rfl⟩ := xm_big_thr ha
            have hnoH : c.exceptionTable.toList = [] := by
              have h1 := hcn.1.2
              unfold xm_noH at h1
              rw [hM] at h1
              simp only [Bool.and_eq_true, List.isEmpty_iff, bne_iff_ne, ne_eq] at h1
              have h3 : xm_h4 M = [] := by unfold xm_h4; rw [h1.1]; rfl
              have hxt := hxt h1.2
              rw [h3] at hxt
              simpa using hxt
            simp only [List.length_append, List.length_singleton] at hKC
            simp only at hKS
            exact xm_thr hx (htr e) hb hml hlk hown hts hK (xm_isRef (hZ1 #[]) hle) (xm_isRef (hZ2 #[]) hle) (xm_lays (hZ3 #[]) hle) (xm_lays (hZ4 #[]) hle) hsz (by omega) (by omega) hnoH hd1 hst o1 o3 hcn.1.1 (by omega) (by omega) hV
        · cases ha
      · cases hrun
    · rename_i y as rest ha
      split at hrun
      · cases hrun
      · rename_i d'
        have hlenC : ∀ (r1 : Option Value ⊕ Nat) (S' : xm_S), xm_run xs LS kt df P n d' y (0, xm_entry P y as, []) (S.1, S.2.1, true) = some (r1, S') → S.1.length ≤ S'.1.length ∧ S.2.1 ≤ S'.2.1 := fun r1 S' h => xm_run_len _ _ _ _ (S.1, S.2.1, true) _ _ h
        unfold xm_act at ha
        split at ha
        case h_2 => cases ha
        rename_i pc' i a b k d0 hat
        obtain ⟨hmem, hpc⟩ := xm_at_mem hM hat
        have hpc : pc' = F.1 := hpc
        subst hpc
        obtain ⟨o1, o2, o3, o4⟩ := hokI _ hmem
        have hdg0 := o1
        simp only [xm_ok, Bool.and_eq_true, decide_eq_true_eq] at hdg0
        have hdg := hdg0.1
        clear hdg0
        split at ha
        · exact (xm_ins_inl ha).elim
        obtain ⟨rfl, hrest, hcase⟩ := xm_big_call ha
        have hgo : ∀ M' : xm_M, P[y]? = some M' → M'.1.name ≠ "law" → as.all xm_cat = true → as.length ≤ M'.2.2.1 → (∀ T : State, T.heap = H → Stand p l e R s m args below meth c T locs cells slots → xm_Fr p l e R s m args below meth c T locs cells slots (F0 m F.1 ls (F.2.2.map (xm_tv B0 sb))) (rest.map (xm_tv B0 sb)) M'.1 (as.map (xm_tv B0 sb)).toArray) →
            (∃ ig, decode M.2.1 F.1 = .ok (ig, 3)) → W p l e R s m args below meth c H locs cells slots (xm_End D cl dA B0 sb s below h0 ks0 r S1) (F0 m F.1 ls (F.2.2.map (xm_tv B0 sb))) := by
          intro M' hM' hnl hcat hlenA hfront hdg3 T hT X
          obtain ⟨ig, hdg3⟩ := hdg3
          obtain ⟨vm₁, mk, X₁, hnamed, st⟩ := hfront T hT X
          cases hrc : xm_run xs LS kt df P n d' y (0, xm_entry P y as, []) (S.1, S.2.1, true) with
          | none => rw [hrc] at hrun; cases hrun
          | some q =>
            obtain ⟨r1, S'⟩ := q
            rw [hrc] at hrun
            have hl1 := hlenC r1 S' hrc
            have hl2 : S'.1.length ≤ S1.1.length ∧ S'.2.1 ≤ S1.2.1 := by
              cases r1 with
              | inl v => exact xm_run_len _ _ _ _ (S'.1, S'.2.1, S.2.2 && S'.2.2) _ _ hrun
              | inr i =>
                simp only at hrun
                split at hrun
                · split at hrun
                  · exact xm_run_len _ _ _ _ (S'.1, S'.2.1, false) _ _ hrun
                  · split at hrun
                    · cases hrun
                      exact ⟨Nat.le_refl _, Nat.le_refl _⟩
                    · cases hrun
                · cases hrun
            obtain ⟨hV1, hV2, hV3, hV4, hV5, hV6⟩ := hV
            have hokM' := xm_okM.full (hall y M' hM').1 hnl
            have hpl' : plainName M'.1.cls = true ∧ M'.2.2.1 ≤ 14 := by
              simp only [xm_okF, Bool.and_eq_true, decide_eq_true_eq] at hokM'
              exact hokM'.1.1.1
            have hXW : s0.WarmedH (T.setVm vm₁).vm := State.WarmedH.trans hle.1 X₁.warmed
            have hHz := hsz
            have hHs : H.size = B0 + S.1.length := by
              have g1 := X.heapSize
              rw [hT] at g1
              have g2 := hV3.1
              by_cases hc0 : cells = 0
              · omega
              · have hl : S.1.length - 1 < S.1.length := by omega
                have g3 := (hV2 (S.1.length - 1) _ (xm_tw_get (List.getElem?_eq_getElem hl))).lt
                have g5 : B0 + (S.1.length - 1) < H.size := g3
                omega
            have hMet : MetFree l M'.1 (headSpec [.codeWith M'.1 M'.2.1 M'.2.2.1 M'.2.2.2.1 (xm_h4 M')] ({ frames := d' + 1, cells := KC - S.1.length, slots := KS - S.2.1, locals := 33 * d' + 58 } : Room))
                (fun a u => a = (as.map (xm_tv B0 sb)).toArray ∧ xm_le s0 u ∧ u.heap.size = B0 + S.1.length ∧ va_P D cl (xm_tw dA B0 sb S.1) u.heap) (fun _ _ _ _ _ => True) (fun _ u o t => xm_E0 D cl dA B0 sb u S.1 S.2.1 r1 S' o t) := by
              refine MetFree.of_bodyS (code := M'.2.1) (maxLocals := M'.2.2.1) (ret := M'.2.2.2.1) hpl'.1 ?_ ?_
              · intro args2 s2 m2 hpre hn2
                obtain ⟨m3, meth3, c3, hn3, g1, g2, g3, g4, -, g6, g7, -⟩ := Cond.codeWith_spec (atoms_spec (ws := [.codeWith M'.1 M'.2.1 M'.2.2.1 M'.2.2.2.1 (xm_h4 M')]) hpre _ (List.mem_singleton_self _))
                cases hn2.symm.trans hn3
                exact ⟨meth3, c3, g1, g2, g3, g4, g6, g7⟩
              · intro p2 e2 s2 m2 args2 below2 meth2 c2 s₁ B hml2 hP2 _
                obtain ⟨rfl, hle2, hsz2, hPw2⟩ := hP2
                have hh0 : s₁.heap = s2.heap := by rw [B.state]; rfl
                obtain ⟨m3, meth3, c3, hn3, g1, g2, -, -, g5, -, -, -⟩ := Cond.codeWith_spec (atoms_spec (ws := [.codeWith M'.1 M'.2.1 M'.2.2.1 M'.2.2.2.1 (xm_h4 M')]) B.pre _ (List.mem_singleton_self _))
                cases B.named.symm.trans hn3
                cases B.method.symm.trans g1
                have X2 := Stand.of_body B
                cases X2.code.symm.trans g2
                obtain ⟨f1, f2⟩ := xm_first (m := m2) (B0 := B0) (sb := sb) (xm_cat1 hcat) hlenA
                have hent : xm_entry P y as = as.map some ++ List.replicate (M'.2.2.1 - as.length) none := by unfold xm_entry; rw [hM']
                have hw := ih d' y _ _ _ _ hrc (by omega) (by omega) p2 e2 ({ frames := d' + 1, cells := KC - S.1.length, slots := KS - S.2.1, locals := 33 * d' + 58 } : Room) s2 m2 (as.map (xm_tv B0 sb)).toArray below2 meth2 c2 s2.heap [] 0 0 _ S.1 S.2.1 M' hM'
                  ⟨B.exec, findClass_of_methodNamed B.named, fun hi => (name_of_methodNamed B.named B.method).1.trans hi, B.bytes, hml2, B.returns, B.notSynchronized, fun _ => g5, hle2, hsz2, rfl, rfl, by show KC - S.1.length + S.1.length = KC; omega, by show KS - S.2.1 + S.2.1 = KS; omega⟩
                  ⟨by rw [hent]; exact f2, hPw2, va_S.rf, by simp, by simp, fun _ => ⟨rfl, rfl⟩⟩
                obtain ⟨t, a1, o, b1, b2, b3⟩ := hw s₁ hh0 X2
                refine ⟨t, o, ?_, b1, b2, b3⟩
                rw [f1]
                exact a1
            have hcw := xm_code (mi := y) hWS hokM' hXW (as.map (xm_tv B0 sb)).toArray
            have hsum := xm_sum (B0 := B0) (sb := sb) rest
            have hn1 : (T.setVm vm₁).methodNamed? M'.1 = some mk := X₁.named hnamed
            have hTq : ∀ q : Nat, q < B0 → T.heap[q]? = s.heap[q]? := fun q hq => by rw [hT]; exact hV3.2.1 q (by omega) (by show ¬ B0 ≤ q; omega)
            obtain ⟨o, t, hst, hend, hE⟩ := xm_callee X₁ (g := { F0 m F.1 ls (F.2.2.map (xm_tv B0 sb)) with stack := rest.map (xm_tv B0 sb) }) rfl (by show ls.size = _; rw [hml]; exact hV1.1) (by rw [hb]; exact hdg3) (by show 2 * 0 + ((rest.map (xm_tv B0 sb)).map fun v => v.category).sum ≤ 8; omega) hMet hcw.1 hn1 hcw.2
              (by show d' + 1 + 1 ≤ _; omega) (by show 8 + (M'.2.2.1 + 11) + (33 * d' + 58) ≤ _; omega) (by show cells + (KC - S.1.length) ≤ _; omega) (by show slots + (KS - S.2.1) ≤ _; omega)
              ⟨rfl, xm_le.tr hle X₁.warmed (by show _ ≤ T.heap.size; rw [hT]; omega) (fun q hq => hTq q (by omega)), by show T.heap.size = _; rw [hT]; exact hHs, by show va_P D cl _ T.heap; rw [hT]; exact hV2⟩
            obtain ⟨ho, hWt, hPt, hzt, hot, hthr, L, hL1, hL2, hL3, hsame⟩ := hE
            have hot' : ∀ q : Nat, q < B0 → t.heap[q]? = s.heap[q]? := fun q hq => (hot q hq).trans (hTq q hq)
            cases r1 with
            | inl v =>
              subst ho
              obtain ⟨T', X', hWT, hsT, ht⟩ := X₁.outOf rfl (by rw [hb]; exact hdg3) hend hWt hsame
              have hTh : T'.heap = t.heap := by rw [ht]; simp [State.setTop, State.modifyTopJava]
              simp only at hrun
              have hk := ih _ _ _ _ _ _ hrun hKC hKS p e R s m args below meth c T'.heap (locs ++ L) (cells + (S'.1.length - S.1.length)) (slots + (S'.2.1 - S.2.1)) ls h0 ks0 M hM hF
                ⟨hV1, by rw [hTh]; exact hPt, ⟨by rw [hTh, hzt]; omega, fun q h1 h2 => by rw [hTh]; exact hot' q (by have : ¬ B0 ≤ q := h2; omega), fun q hq => by
                    rcases List.mem_append.mp hq with h | h
                    · exact hV3.2.2 q h
                    · exact hL1 q h⟩, by show h0.length + (cells + (S'.1.length - S.1.length)) = S'.1.length; omega, by show slots + (S'.2.1 - S.2.1) + ks0 = S'.2.1; omega, fun hcc => by
                    simp only [Bool.and_eq_true] at hcc
                    obtain ⟨z1, z2⟩ := hV6 hcc.1
                    obtain ⟨z3, z4⟩ := hL2 hcc.2
                    exact ⟨by rw [z1, z3]; rfl, (z4 v rfl).trans z2⟩⟩
              obtain ⟨t2, a1, b1⟩ := hk T' rfl X'
              refine ⟨t2, st t2 (fun acts => ?_), b1⟩
              rw [doInvoke_state]
              refine hst.trans ?_
              rw [ht]
              have hvl : (v.map (xm_tv B0 sb)).toList ++ rest.map (xm_tv B0 sb) = (v.toList ++ rest).map (xm_tv B0 sb) := by cases v <;> simp
              rw [← hvl] at a1
              exact a1
            | inr i =>
              subst ho
              have hLn := hL3 i rfl
              subst hLn
              obtain ⟨ci, C, T0, hi, hci⟩ := hthr i rfl
              obtain ⟨T', X', hWT, hsT, ht⟩ := X₁.outOfThrown rfl hend hWt hsame
              have hTh : T'.heap = t.heap := by rw [ht]; exact (Stand.throwing_heap T' _ _).symm
              simp only [hi] at hrun
              have hva : va_S (fun q => B0 ≤ q) s.heap T'.heap (locs ++ []) := ⟨by rw [hTh, hzt]; omega, fun q h1 h2 => by rw [hTh]; exact hot' q (by have : ¬ B0 ≤ q := h2; omega), fun q hq => by rw [List.append_nil] at hq; exact hV3.2.2 q hq⟩
              split at hrun
              · rename_i tg hhand
                obtain ⟨r0, hr0, cell, hcell, hccls, hcvm, -⟩ := hPt i _ (xm_tw_get hi)
                cases hci.symm.trans hr0
                have hKc := (hK.1 ci _ hci).2
                obtain ⟨kC, hkC, -⟩ := hKc.2
                have hcell' : T'.heap[B0 + i]? = some cell := by rw [hTh]; exact hcell
                have hpl : e.platform.magicAccessors = ({} : Platform).magicAccessors := by rw [X.admits.platform]
                have hnl2 : M.1.name ≠ "law" := by
                  intro hl
                  have h1 := hokM
                  unfold xm_okM at h1
                  rw [if_pos hl] at h1
                  unfold xm_hand at hhand
                  rw [hM] at hhand
                  have h2 : M.2.2.2.2.1 = [] := by simpa using h1
                  simp only [h2] at hhand
                  cases hhand
                have hhd : ∀ h ∈ M.2.2.2.2.1, h.2.2.2.1 ≠ 0 ∧ ∃ c', s.vm.ClassLinks e.platform m.cls h.2.2.2.1 c' ∧ s.vm.assignable cell.cls c' = (h.2.2.2.2 == ci) := by
                  intro h hh
                  have hok := xm_okM.full hokM hnl2
                  simp only [xm_okF, Bool.and_eq_true, List.all_eq_true, decide_eq_true_eq] at hok
                  obtain ⟨hne, hlk2⟩ := hok.2 h hh
                  refine ⟨hne, ?_⟩
                  split at hlk2
                  · rename_i C' T1 N1 hc1
                    obtain ⟨c', hc', hcl'⟩ := Cond.classLink_spec hown (hts _ hlk2) e.platform hpl
                    refine ⟨c', hcl', ?_⟩
                    rw [hccls]
                    exact hcast M mi hM h hh ci C C' T0 T1 N1 hci hc1 s hle.1 _ _ hKc.1 hc'
                  · cases hlk2
                have hhand' : (M.2.2.2.2.1.find? (fun x => decide (x.1 ≤ F.1) && decide (F.1 < x.2.1) && x.2.2.2.2 == ci)).map (fun x => x.2.2.1) = some tg := by
                  unfold xm_hand at hhand
                  rw [hM] at hhand
                  exact hhand
                obtain ⟨vm2, X2, st2⟩ := xm_caught X' (g := { F0 m F.1 ls (F.2.2.map (xm_tv B0 sb)) with stack := rest.map (xm_tv B0 sb) }) rfl hcell' (by rw [hcvm]; rfl) (by rw [hccls]; exact ⟨kC, hkC⟩) (hxt hnl2) hhd hhand'
                have hk := ih _ _ _ _ _ _ hrun hKC hKS p e R s m args below meth c T'.heap (locs ++ []) (cells + (S'.1.length - S.1.length)) (slots + (S'.2.1 - S.2.1)) ls h0 ks0 M hM hF
                  ⟨hV1, by rw [hTh]; exact hPt, hva, by show h0.length + (cells + (S'.1.length - S.1.length)) = S'.1.length; omega, by show slots + (S'.2.1 - S.2.1) + ks0 = S'.2.1; omega, fun hcc => by cases hcc⟩
                obtain ⟨t2, a1, b1⟩ := hk (T'.setVm vm2) rfl X2
                refine ⟨t2, st t2 (fun acts => ?_), b1⟩
                rw [doInvoke_state]
                refine hst.trans ?_
                rw [ht]
                exact st2 t2 a1
              · split at hrun
                · rename_i hcn
                  cases hrun
                  simp only [Bool.and_eq_true] at hcn
                  obtain ⟨z1, z2⟩ := hV6 hcn.1
                  subst z1
                  have hnoH : c.exceptionTable.toList = [] := by
                    have h1 := hcn.2
                    unfold xm_noH at h1
                    rw [hM] at h1
                    simp only [Bool.and_eq_true, List.isEmpty_iff, bne_iff_ne, ne_eq] at h1
                    have h3 : xm_h4 M = [] := by unfold xm_h4; rw [h1.1]; rfl
                    have hxt := hxt h1.2
                    rw [h3] at hxt
                    simpa using hxt
                  obtain ⟨w1, w2, w3, w4, w5⟩ := X'.leaveThrown (B0 + i) (g := { F0 m F.1 ls (F.2.2.map (xm_tv B0 sb)) with stack := rest.map (xm_tv B0 sb) }) rfl rfl rfl (by rw [hnoH]; intro y hy; cases hy) hlk
                  refine ⟨_, st _ (fun acts => ?_), .threw (B0 + i), w2, w3, rfl, w4, ?_, ?_, ?_, ?_, [], fun q hq => (by cases hq), fun _ => ⟨rfl, fun v hv => by cases hv⟩, fun _ _ => rfl, ?_⟩
                  · rw [doInvoke_state]
                    refine hst.trans ?_
                    rw [ht]
                    exact w1
                  · show va_P D cl (xm_tw dA B0 sb S'.1) T'.heap
                    rw [hTh]; exact hPt
                  · show T'.heap.size = _
                    rw [hTh]; exact hzt
                  · intro q hq
                    show T'.heap[q]? = _
                    rw [hTh]; exact hot' q hq
                  · intro i' hi'
                    cases hi'
                    exact ⟨ci, C, T0, hi, hci⟩
                  · have q1 : S'.1.length - h0.length = cells + (S'.1.length - S.1.length) := by omega
                    have q2 : S'.2.1 - ks0 = slots + (S'.2.1 - S.2.1) := by omega
                    show s.sameButNew _ [] (S'.1.length - h0.length) (S'.2.1 - ks0)
                    rw [q1, q2]
                    exact w5
                · cases hrun
        rcases hcase with ⟨ix, r0, rfl, hd0, hst, has⟩ | ⟨ix, r0, bs, ci, fs, rfl, has, hst, hlb, hcat, hr, hck⟩ | ⟨ix, rfl, hst, hlb, hcat⟩
        · simp only [xm_okC, if_pos hd0] at o4
          split at o4
          · rename_i M' hM'
            simp only [Bool.and_eq_true, Bool.or_eq_true, decide_eq_true_eq, beq_iff_eq] at o4
            obtain ⟨⟨⟨⟨⟨⟨⟨⟨k1, k2⟩, k3⟩, k4⟩, k5⟩, k6⟩, k7⟩, k8⟩, k9⟩ := o4
            have hcw := xm_code (mi := y) hWS (xm_okM.full (hall y M' hM').1 k9) hle.1 args
            have h4 : xm_h4 M' = [] := by unfold xm_h4; rw [k4]; rfl
            have hcw1 := hcw.1
            rw [h4, k5] at hcw1
            subst has
            refine hgo M' hM' k9 rfl (by simpa using k8) ?_ ⟨_, hdg⟩
            intro T hT X
            rw [hst]
            exact xm_fI X hx hown (k1.imp (hts _) (hts _)) (hts _ k2) hcw1 k3 k6 k7 rfl (argsL := []) rfl rfl (by rw [hb]; exact hdg)
          · cases o4
        · simp only [xm_okC] at o4
          split at o4
          · rename_i M' C T0 N0 hM' hck'
            simp only [Bool.and_eq_true, Bool.or_eq_true, decide_eq_true_eq] at o4
            obtain ⟨⟨⟨⟨⟨⟨k1, k2⟩, k3⟩, k6⟩, k7⟩, k8⟩, k9⟩ := o4
            have hcw := xm_code (mi := y) hWS (xm_okM.full (hall y M' hM').1 k9) hle.1 args
            refine hgo M' hM' k9 hcat (by rw [hlb]; exact k8) ?_ ⟨_, hdg⟩
            intro T hT X
            subst has
            subst hck
            obtain ⟨r1, hr1, cell, hcell, hccls, hcvm, -⟩ := hV.2.1 r0 _ (xm_tw_get hr)
            cases hck'.symm.trans hr1
            have hpar : (parseMethodDescriptor M'.1.desc).map (fun d => d.parameters.length) = some bs.length := by
              rw [List.length_cons] at hlb
              cases hpd : parseMethodDescriptor M'.1.desc with
              | none => rw [hpd] at k7; cases k7
              | some q =>
                rw [hpd] at k7
                simp only [Option.map_some, Option.some.injEq] at k7 ⊢
                omega
            exact xm_fV X hx hown (k1.imp (hts _) (hts _)) (hts _ k2) (hts _ k3) hcw.1 k6 hpar (b := B0 + r0) (by rw [hT]; exact hcell) (by rw [hcvm]; rfl) (by rw [hccls]; exact (hK.1 ci _ hck').2.1) rfl (argsL := bs.map (xm_tv B0 sb)) (by simp) (by show F.2.2.map _ = _; rw [hst]; simp [xm_tv]) (by rw [hb]; exact hdg)
          · cases o4
        · simp only [xm_okC] at o4
          split at o4
          · rename_i M' hM'
            simp only [Bool.and_eq_true, Bool.or_eq_true, decide_eq_true_eq] at o4
            obtain ⟨⟨⟨⟨⟨k1, k2⟩, k6⟩, k7⟩, k8⟩, k9⟩ := o4
            have hcw := xm_code (mi := y) hWS (xm_okM.full (hall y M' hM').1 k9) hle.1 args
            refine hgo M' hM' k9 hcat (by rw [hlb]; exact k8) ?_ ⟨_, hdg⟩
            intro T hT X
            exact xm_fS X hx hown (k1.imp (hts _) (hts _)) (hts _ k2) hcw.2 hcw.1 k6 (by rw [k7, ← hlb]) rfl (argsL := as.map (xm_tv B0 sb)) (by simp) (by show F.2.2.map _ = _; rw [hst]; simp) (by rw [hb]; exact hdg)
          · cases o4
end XM9
end
section
/-! 08.prog: the program's tables (written by a program out of the Statement's bytes and words): for each instruction its pc and what the tables say of it. -/
def xT_0 : u_T := fun k => match k with
  | 0 => ("FibrePairs$Connection", "there", "Z", false)
  | 1 => ("FibrePairs$Connection", "guarded", "Z", false)
  | 2 => ("FibrePairs$Connection", "a", "I", false)
  | 3 => ("FibrePairs$Connection", "b", "I", false)
  | 4 => ("FibrePairs$Connection", "wavelength", "I", false)
  | 5 => ("FibrePairs$Connection", "working", "I", false)
  | 6 => ("FibrePairs$Connection", "spare", "I", false)
  | 7 => ("FibrePairs$Connection", "on", "I", false)
  | _ => ("FibrePairs$Connection", "waited", "I", false)
def xT_1 : u_T := fun k => match k with
  | 0 => ("FibrePairs$Net", "sites", "I", false)
  | 1 => ("FibrePairs$Net", "fibres", "I", false)
  | 2 => ("FibrePairs$Net", "from", "[I", true)
  | 3 => ("FibrePairs$Net", "to", "[I", true)
  | 4 => ("FibrePairs$Net", "length", "[I", true)
  | 5 => ("FibrePairs$Net", "onward", "[I", true)
  | 6 => ("FibrePairs$Net", "backward", "[I", true)
  | 7 => ("FibrePairs$Net", "cost", "[I", true)
  | _ => ("FibrePairs$Net", "way", "[I", true)
def xT_2 : u_T := fun k => match k with
  | 0 => ("FibrePairs", "net", "LFibrePairs$Net;", true)
  | 1 => ("FibrePairs", "connections", "[LFibrePairs$Connection;", true)
  | 2 => ("FibrePairs", "cutFibres", "I", false)
  | 3 => ("FibrePairs", "lockedFibres", "I", false)
  | _ => ("FibrePairs", "holdTime", "I", false)
def xT_3 : u_T := fun k => match k with
  | 0 => ("FibrePairsModel", "code", "I", false)
  | 1 => ("FibrePairsModel", "sites", "I", false)
  | 2 => ("FibrePairsModel", "fibres", "I", false)
  | 3 => ("FibrePairsModel", "ends", "[I", true)
  | 4 => ("FibrePairsModel", "lengths", "[I", true)
  | 5 => ("FibrePairsModel", "broken", "[Z", true)
  | 6 => ("FibrePairsModel", "locked", "[Z", true)
  | 7 => ("FibrePairsModel", "wait", "I", false)
  | 8 => ("FibrePairsModel", "there", "[Z", true)
  | 9 => ("FibrePairsModel", "guarded", "[Z", true)
  | 10 => ("FibrePairsModel", "from", "[I", true)
  | 11 => ("FibrePairsModel", "to", "[I", true)
  | 12 => ("FibrePairsModel", "waves", "[I", true)
  | 13 => ("FibrePairsModel", "works", "[I", true)
  | 14 => ("FibrePairsModel", "spares", "[I", true)
  | 15 => ("FibrePairsModel", "on", "[I", true)
  | 16 => ("FibrePairsModel", "counts", "[I", true)
  | 17 => ("FibrePairsModel", "paths", "I", false)
  | 18 => ("FibrePairsModel", "sets", "[I", true)
  | 19 => ("FibrePairsModel", "sizes", "[I", true)
  | 20 => ("FibrePairsModel", "siteAt", "[I", true)
  | 21 => ("FibrePairsModel", "nextAt", "[I", true)
  | 22 => ("FibrePairsModel", "foundWork", "I", false)
  | _ => ("FibrePairsModel", "foundSpare", "I", false)
def xT_e : u_T := fun _ => ("", "", "", false)
def xCL : List vw_C := [("FibrePairs$Connection", xT_0, 9), ("FibrePairs$Net", xT_1, 9), ("FibrePairs", xT_2, 5), ("FibrePairsModel", xT_3, 24), ("java/lang/IllegalArgumentException", xT_e, 0), ("java/lang/IndexOutOfBoundsException", xT_e, 0), ("java/lang/IllegalStateException", xT_e, 0)]
def xKT : List FieldType := [.int, .boolean, .long, .object "FibrePairs$Connection"]
def xDF : List (List Value) := [[.int 0, .int 0, .int 0, .int 0, .int 0, .int 0, .int 0, .int 0, .int 0], [.int 0, .int 0, .null, .null, .null, .null, .null, .null, .null], [.null, .null, .int 0, .int 0, .int 0], [.int 0, .int 0, .int 0, .null, .null, .null, .null, .int 0, .null, .null, .null, .null, .null, .null, .null, .null, .null, .int 0, .null, .null, .null, .null, .int 0, .int 0]]
def xt_F_init_0 : List xm_I := [(0, .aload_n 0, 0, 0, 0, 0), (1, .invokespecial 1, 0, 0, 0, 1), (4, .aload_n 0, 0, 0, 0, 0), (5, .new 7, 1, 0, 0, 0), (8, .dup, 0, 0, 0, 0), (9, .invokespecial 9, 1, 0, 0, 0), (12, .putfield 10, 2, 0, 0, 2), (15, .aload_n 0, 0, 0, 0, 0), (16, .bipush 12, 0, 0, 0, 0), (18, .anewarray 16, 3, 0, 0, 0), (21, .putfield 18, 2, 1, 0, 2), (24, .iconst 0, 0, 0, 0, 0), (25, .istore_n 1, 0, 0, 0, 0), (26, .iload_n 1, 0, 0, 0, 0), (27, .bipush 12, 0, 0, 0, 0), (29, .if_icmp .ge 22, 51, 0, 0, 0), (32, .aload_n 0, 0, 0, 0, 0), (33, .getfield 18, 2, 1, 0, 0), (36, .iload_n 1, 0, 0, 0, 0), (37, .new 16, 0, 0, 0, 0), (40, .dup, 0, 0, 0, 0), (41, .invokespecial 22, 2, 0, 0, 0), (44, .aastore, 3, 0, 0, 0), (45, .iinc 1 1, 0, 0, 0, 0), (48, .goto (-22), 26, 0, 0, 0), (51, .return_, 0, 0, 0, 0)]
def xp_F_init : xm_M := (⟨"FibrePairs", "<init>", "()V"⟩, prog_1_method_1_code, 2, none, [], xt_F_init_0)
def xt_N_init_0 : List xm_I := [(0, .aload_n 0, 0, 0, 0, 0), (1, .invokespecial 3, 0, 0, 0, 1), (4, .aload_n 0, 0, 0, 0, 0), (5, .iconst 2, 0, 0, 0, 0), (6, .putfield 9, 1, 0, 0, 0), (9, .aload_n 0, 0, 0, 0, 0), (10, .bipush 14, 0, 0, 0, 0), (12, .newarray .int, 0, 0, 0, 0), (14, .putfield 15, 1, 2, 0, 2), (17, .aload_n 0, 0, 0, 0, 0), (18, .bipush 14, 0, 0, 0, 0), (20, .newarray .int, 0, 0, 0, 0), (22, .putfield 19, 1, 3, 0, 2), (25, .aload_n 0, 0, 0, 0, 0), (26, .bipush 14, 0, 0, 0, 0), (28, .newarray .int, 0, 0, 0, 0), (30, .putfield 22, 1, 4, 0, 2), (33, .aload_n 0, 0, 0, 0, 0), (34, .bipush 14, 0, 0, 0, 0), (36, .newarray .int, 0, 0, 0, 0), (38, .putfield 25, 1, 5, 0, 2), (41, .aload_n 0, 0, 0, 0, 0), (42, .bipush 14, 0, 0, 0, 0), (44, .newarray .int, 0, 0, 0, 0), (46, .putfield 28, 1, 6, 0, 2), (49, .aload_n 0, 0, 0, 0, 0), (50, .bipush 7, 0, 0, 0, 0), (52, .newarray .int, 0, 0, 0, 0), (54, .putfield 31, 1, 7, 0, 2), (57, .aload_n 0, 0, 0, 0, 0), (58, .bipush 7, 0, 0, 0, 0), (60, .newarray .int, 0, 0, 0, 0), (62, .putfield 34, 1, 8, 0, 2), (65, .return_, 0, 0, 0, 0)]
def xp_N_init : xm_M := (⟨"FibrePairs$Net", "<init>", "()V"⟩, prog_3_method_1_code, 1, none, [], xt_N_init_0)
def xt_C_init_0 : List xm_I := [(0, .aload_n 0, 0, 0, 0, 0), (1, .invokespecial 3, 0, 0, 0, 1), (4, .return_, 0, 0, 0, 0)]
def xp_C_init : xm_M := (⟨"FibrePairs$Connection", "<init>", "()V"⟩, prog_2_method_1_code, 1, none, [], xt_C_init_0)
def xt_F_clock_0 : List xm_I := [(0, .iconst 0, 0, 0, 0, 0), (1, .istore_n 1, 0, 0, 0, 0), (2, .iload_n 1, 0, 0, 0, 0), (3, .bipush 12, 0, 0, 0, 0), (5, .if_icmp .ge 34, 39, 0, 0, 0), (8, .aload_n 0, 0, 0, 0, 0), (9, .getfield 18, 2, 1, 0, 0), (12, .iload_n 1, 0, 0, 0, 0), (13, .aaload, 0, 0, 0, 0), (14, .getfield 30, 0, 0, 0, 0), (17, .ifCond .eq 16, 33, 0, 0, 0), (20, .aload_n 0, 0, 0, 0, 0), (21, .getfield 18, 2, 1, 0, 0), (24, .iload_n 1, 0, 0, 0, 0), (25, .aaload, 0, 0, 0, 0), (26, .aload_n 0, 0, 0, 0, 0), (27, .getfield 34, 2, 2, 0, 0), (30, .invokevirtual 83, 4, 2, 0, 0), (33, .iinc 1 1, 0, 0, 0, 0), (36, .goto (-34), 2, 0, 0, 0), (39, .aload_n 0, 0, 0, 0, 0), (40, .invokevirtual 80, 6, 1, 2, 0), (43, .return_, 0, 0, 0, 0)]
def xp_F_clock : xm_M := (⟨"FibrePairs", "clock", "()V"⟩, prog_1_method_10_code, 2, none, [], xt_F_clock_0)
def xt_C_tick_0 : List xm_I := [(0, .aload_n 0, 0, 0, 0, 0), (1, .iload_n 1, 0, 0, 0, 0), (2, .invokevirtual 40, 5, 2, 0, 0), (5, .ifCond .eq 20, 25, 0, 0, 0), (8, .aload_n 0, 0, 0, 0, 0), (9, .getfield 31, 0, 7, 0, 0), (12, .ifCond .eq 13, 25, 0, 0, 0), (15, .aload_n 0, 0, 0, 0, 0), (16, .dup, 0, 0, 0, 0), (17, .getfield 34, 0, 8, 0, 0), (20, .iconst 1, 0, 0, 0, 0), (21, .iadd, 0, 0, 0, 0), (22, .putfield 34, 0, 8, 0, 0), (25, .return_, 0, 0, 0, 0)]
def xp_C_tick : xm_M := (⟨"FibrePairs$Connection", "tick", "(I)V"⟩, prog_2_method_7_code, 2, none, [], xt_C_tick_0)
def xt_C_workingIsWhole_0 : List xm_I := [(0, .aload_n 0, 0, 0, 0, 0), (1, .getfield 25, 0, 5, 0, 0), (4, .iload_n 1, 0, 0, 0, 0), (5, .iand, 0, 0, 0, 0), (6, .ifCond .ne 7, 13, 0, 0, 0), (9, .iconst 1, 0, 0, 0, 0), (10, .goto 4, 14, 0, 0, 0), (13, .iconst 0, 0, 0, 0, 0), (14, .ireturn, 0, 0, 0, 1)]
def xp_C_workingIsWhole : xm_M := (⟨"FibrePairs$Connection", "workingIsWhole", "(I)Z"⟩, prog_2_method_5_code, 2, (some .boolean), [], xt_C_workingIsWhole_0)
def xt_F_changeOverAll_0 : List xm_I := [(0, .iconst 0, 0, 0, 0, 0), (1, .istore_n 1, 0, 0, 0, 0), (2, .iload_n 1, 0, 0, 0, 0), (3, .bipush 12, 0, 0, 0, 0), (5, .if_icmp .ge 38, 43, 0, 0, 0), (8, .aload_n 0, 0, 0, 0, 0), (9, .getfield 18, 2, 1, 0, 0), (12, .iload_n 1, 0, 0, 0, 0), (13, .aaload, 0, 0, 0, 0), (14, .getfield 30, 0, 0, 0, 0), (17, .ifCond .eq 20, 37, 0, 0, 0), (20, .aload_n 0, 0, 0, 0, 0), (21, .getfield 18, 2, 1, 0, 0), (24, .iload_n 1, 0, 0, 0, 0), (25, .aaload, 0, 0, 0, 0), (26, .aload_n 0, 0, 0, 0, 0), (27, .getfield 34, 2, 2, 0, 0), (30, .aload_n 0, 0, 0, 0, 0), (31, .getfield 41, 2, 4, 0, 0), (34, .invokevirtual 153, 7, 3, 0, 0), (37, .iinc 1 1, 0, 0, 0, 0), (40, .goto (-38), 2, 0, 0, 0), (43, .return_, 0, 0, 0, 0)]
def xp_F_changeOverAll : xm_M := (⟨"FibrePairs", "changeOverAll", "()V"⟩, prog_1_method_28_code, 2, none, [], xt_F_changeOverAll_0)
def xt_C_changeOver_0 : List xm_I := [(0, .aload_n 0, 0, 0, 0, 0), (1, .iload_n 1, 0, 0, 0, 0), (2, .invokevirtual 44, 8, 2, 0, 0), (5, .istore_n 3, 0, 0, 0, 0), (6, .aload_n 0, 0, 0, 0, 0), (7, .iload_n 1, 0, 0, 0, 0), (8, .invokevirtual 40, 5, 2, 0, 0), (11, .ifCond .ne 24, 35, 0, 0, 0), (14, .aload_n 0, 0, 0, 0, 0), (15, .iconst 0, 0, 0, 0, 0), (16, .putfield 34, 0, 8, 0, 0), (19, .aload_n 0, 0, 0, 0, 0), (20, .iload_n 3, 0, 0, 0, 0), (21, .ifCond .eq 7, 28, 0, 0, 0), (24, .iconst 1, 0, 0, 0, 0), (25, .goto 4, 29, 0, 0, 0), (28, .iconst 2, 0, 0, 0, 0), (29, .putfield 31, 0, 7, 0, 0), (32, .goto 31, 63, 0, 0, 0), (35, .aload_n 0, 0, 0, 0, 0), (36, .getfield 31, 0, 7, 0, 0), (39, .ifCond .eq 24, 63, 0, 0, 0), (42, .aload_n 0, 0, 0, 0, 0), (43, .aload_n 0, 0, 0, 0, 0), (44, .getfield 34, 0, 8, 0, 0), (47, .iload_n 2, 0, 0, 0, 0), (48, .if_icmp .ge 7, 55, 0, 0, 0), (51, .iload_n 3, 0, 0, 0, 0), (52, .ifCond .ne 7, 59, 0, 0, 0), (55, .iconst 0, 0, 0, 0, 0), (56, .goto 4, 60, 0, 0, 0), (59, .iconst 1, 0, 0, 0, 0), (60, .putfield 31, 0, 7, 0, 0), (63, .return_, 0, 0, 0, 0)]
def xp_C_changeOver : xm_M := (⟨"FibrePairs$Connection", "changeOver", "(II)V"⟩, prog_2_method_8_code, 4, none, [], xt_C_changeOver_0)
def xt_C_spareIsWhole_0 : List xm_I := [(0, .aload_n 0, 0, 0, 0, 0), (1, .getfield 18, 0, 1, 0, 0), (4, .ifCond .eq 16, 20, 0, 0, 0), (7, .aload_n 0, 0, 0, 0, 0), (8, .getfield 28, 0, 6, 0, 0), (11, .iload_n 1, 0, 0, 0, 0), (12, .iand, 0, 0, 0, 0), (13, .ifCond .ne 7, 20, 0, 0, 0), (16, .iconst 1, 0, 0, 0, 0), (17, .goto 4, 21, 0, 0, 0), (20, .iconst 0, 0, 0, 0, 0), (21, .ireturn, 0, 0, 0, 1)]
def xp_C_spareIsWhole : xm_M := (⟨"FibrePairs$Connection", "spareIsWhole", "(I)Z"⟩, prog_2_method_6_code, 2, (some .boolean), [], xt_C_spareIsWhole_0)
def xt_F_exposed_0 : List xm_I := [(0, .iconst 0, 0, 0, 0, 0), (1, .istore_n 1, 0, 0, 0, 0), (2, .iconst 0, 0, 0, 0, 0), (3, .istore_n 2, 0, 0, 0, 0), (4, .iload_n 2, 0, 0, 0, 0), (5, .bipush 12, 0, 0, 0, 0), (7, .if_icmp .ge 41, 48, 0, 0, 0), (10, .aload_n 0, 0, 0, 0, 0), (11, .getfield 18, 2, 1, 0, 0), (14, .iload_n 2, 0, 0, 0, 0), (15, .aaload, 0, 0, 0, 0), (16, .astore_n 3, 0, 0, 0, 0), (17, .aload_n 3, 0, 0, 0, 0), (18, .getfield 30, 0, 0, 0, 0), (21, .ifCond .eq 21, 42, 0, 0, 0), (24, .aload_n 3, 0, 0, 0, 0), (25, .getfield 108, 0, 1, 0, 0), (28, .ifCond .eq 14, 42, 0, 0, 0), (31, .aload_n 3, 0, 0, 0, 0), (32, .getfield 111, 0, 7, 0, 0), (35, .iconst 2, 0, 0, 0, 0), (36, .if_icmp .ne 6, 42, 0, 0, 0), (39, .iinc 1 1, 0, 0, 0, 0), (42, .iinc 2 1, 0, 0, 0, 0), (45, .goto (-41), 4, 0, 0, 0), (48, .iload_n 1, 0, 0, 0, 0), (49, .ireturn, 0, 0, 0, 0)]
def xp_F_exposed : xm_M := (⟨"FibrePairs", "exposed", "()I"⟩, prog_1_method_17_code, 4, (some .int), [], xt_F_exposed_0)
def xt_L_clear_0 : List xm_I := [(0, .aload_n 0, 0, 0, 0, 0), (1, .iload_n 1, 0, 0, 0, 0), (2, .invokevirtual 7, 11, 2, 2, 0), (5, .goto 6, 11, 0, 0, 0), (8, .astore_n 2, 0, 0, 0, 0), (9, .iconst 1, 0, 0, 0, 0), (10, .ireturn, 0, 0, 0, 0), (11, .iconst 0, 0, 0, 0, 0), (12, .ireturn, 0, 0, 0, 0)]
def xp_L_clear : xm_M := (⟨"FibrePairsLaw", "clear", "(LFibrePairs;I)I"⟩, method_3_code, 3, (some .int), [(0, 5, 8, 13, 4)], xt_L_clear_0)
def xt_F_clear_0 : List xm_I := [(0, .iload_n 1, 0, 0, 0, 0), (1, .iconst 2, 0, 0, 0, 0), (2, .if_icmp .lt 9, 11, 0, 0, 0), (5, .iload_n 1, 0, 0, 0, 0), (6, .bipush 7, 0, 0, 0, 0), (8, .if_icmp .le 11, 19, 0, 0, 0), (11, .new 23, 4, 25, 0, 1), (19, .aload_n 0, 0, 0, 0, 0), (20, .getfield 10, 2, 0, 0, 0), (23, .iload_n 1, 0, 0, 0, 0), (24, .invokevirtual 26, 12, 2, 1, 0), (27, .iconst 0, 0, 0, 0, 0), (28, .istore_n 2, 0, 0, 0, 0), (29, .iload_n 2, 0, 0, 0, 0), (30, .bipush 12, 0, 0, 0, 0), (32, .if_icmp .ge 19, 51, 0, 0, 0), (35, .aload_n 0, 0, 0, 0, 0), (36, .getfield 18, 2, 1, 0, 0), (39, .iload_n 2, 0, 0, 0, 0), (40, .aaload, 0, 0, 0, 0), (41, .iconst 0, 0, 0, 0, 0), (42, .putfield 30, 0, 0, 0, 1), (45, .iinc 2 1, 0, 0, 0, 0), (48, .goto (-19), 29, 0, 0, 0), (51, .aload_n 0, 0, 0, 0, 0), (52, .iconst 0, 0, 0, 0, 0), (53, .putfield 34, 2, 2, 0, 0), (56, .aload_n 0, 0, 0, 0, 0), (57, .iconst 0, 0, 0, 0, 0), (58, .putfield 38, 2, 3, 0, 0), (61, .aload_n 0, 0, 0, 0, 0), (62, .iconst 0, 0, 0, 0, 0), (63, .putfield 41, 2, 4, 0, 0), (66, .return_, 0, 0, 0, 0)]
def xp_F_clear : xm_M := (⟨"FibrePairs", "clear", "(I)V"⟩, prog_1_method_2_code, 3, none, [], xt_F_clear_0)
def xt_N_startWith_0 : List xm_I := [(0, .aload_n 0, 0, 0, 0, 0), (1, .iload_n 1, 0, 0, 0, 0), (2, .putfield 9, 1, 0, 0, 0), (5, .aload_n 0, 0, 0, 0, 0), (6, .iconst 0, 0, 0, 0, 0), (7, .putfield 37, 1, 1, 0, 0), (10, .return_, 0, 0, 0, 0)]
def xp_N_startWith : xm_M := (⟨"FibrePairs$Net", "startWith", "(I)V"⟩, prog_3_method_2_code, 2, none, [], xt_N_startWith_0)
def xt_L_fibre_0 : List xm_I := [(0, .aload 4, 0, 0, 0, 0), (2, .iconst 0, 0, 0, 0, 0), (3, .aload_n 0, 0, 0, 0, 0), (4, .iload_n 1, 0, 0, 0, 0), (5, .iload_n 2, 0, 0, 0, 0), (6, .iload_n 3, 0, 0, 0, 0), (7, .invokevirtual 15, 14, 4, 2, 0), (10, .i2l, 0, 0, 0, 0), (11, .lastore, 0, 0, 0, 0), (12, .goto 15, 27, 0, 0, 0), (15, .astore 5, 0, 0, 0, 0), (17, .iconst 1, 0, 0, 0, 0), (18, .ireturn, 0, 0, 0, 0), (19, .astore 5, 0, 0, 0, 0), (21, .iconst 2, 0, 0, 0, 0), (22, .ireturn, 0, 0, 0, 0), (23, .astore 5, 0, 0, 0, 0), (25, .iconst 3, 0, 0, 0, 0), (26, .ireturn, 0, 0, 0, 0), (27, .iconst 0, 0, 0, 0, 0), (28, .ireturn, 0, 0, 0, 0)]
def xp_L_fibre : xm_M := (⟨"FibrePairsLaw", "fibre", "(LFibrePairs;III[J)I"⟩, method_4_code, 6, (some .int), [(0, 12, 15, 19, 5), (0, 12, 19, 13, 4), (0, 12, 23, 21, 6)], xt_L_fibre_0)
def xt_F_fibre_0 : List xm_I := [(0, .aload_n 0, 0, 0, 0, 0), (1, .iload_n 1, 0, 0, 0, 0), (2, .iload_n 2, 0, 0, 0, 0), (3, .invokevirtual 44, 15, 3, 2, 0), (6, .iload_n 3, 0, 0, 0, 0), (7, .iconst 1, 0, 0, 0, 0), (8, .if_icmp .lt 9, 17, 0, 0, 0), (11, .iload_n 3, 0, 0, 0, 0), (12, .bipush 100, 0, 0, 0, 0), (14, .if_icmp .le 11, 25, 0, 0, 0), (17, .new 23, 4, 25, 0, 1), (25, .aload_n 0, 0, 0, 0, 0), (26, .getfield 10, 2, 0, 0, 0), (29, .getfield 48, 1, 1, 0, 0), (32, .bipush 14, 0, 0, 0, 0), (34, .if_icmp .ne 11, 45, 0, 0, 0), (37, .new 51, 6, 53, 0, 1), (45, .aload_n 0, 0, 0, 0, 0), (46, .getfield 10, 2, 0, 0, 0), (49, .iload_n 1, 0, 0, 0, 0), (50, .iload_n 2, 0, 0, 0, 0), (51, .iload_n 3, 0, 0, 0, 0), (52, .invokevirtual 54, 16, 4, 1, 0), (55, .ireturn, 0, 0, 0, 0)]
def xp_F_fibre : xm_M := (⟨"FibrePairs", "fibre", "(III)I"⟩, prog_1_method_3_code, 4, (some .int), [], xt_F_fibre_0)
def xt_F_requireTwoSites_0 : List xm_I := [(0, .iload_n 1, 0, 0, 0, 0), (1, .ifCond .lt 29, 30, 0, 0, 0), (4, .iload_n 1, 0, 0, 0, 0), (5, .aload_n 0, 0, 0, 0, 0), (6, .getfield 10, 2, 0, 0, 0), (9, .getfield 132, 1, 0, 0, 0), (12, .if_icmp .ge 18, 30, 0, 0, 0), (15, .iload_n 2, 0, 0, 0, 0), (16, .ifCond .lt 14, 30, 0, 0, 0), (19, .iload_n 2, 0, 0, 0, 0), (20, .aload_n 0, 0, 0, 0, 0), (21, .getfield 10, 2, 0, 0, 0), (24, .getfield 132, 1, 0, 0, 0), (27, .if_icmp .lt 11, 38, 0, 0, 0), (30, .new 143, 5, 145, 0, 1), (38, .iload_n 1, 0, 0, 0, 0), (39, .iload_n 2, 0, 0, 0, 0), (40, .if_icmp .ne 11, 51, 0, 0, 0), (43, .new 23, 4, 25, 0, 1), (51, .return_, 0, 0, 0, 0)]
def xp_F_requireTwoSites : xm_M := (⟨"FibrePairs", "requireTwoSites", "(II)V"⟩, prog_1_method_19_code, 3, none, [], xt_F_requireTwoSites_0)
def xt_N_add_0 : List xm_I := [(0, .aload_n 0, 0, 0, 0, 0), (1, .getfield 37, 1, 1, 0, 0), (4, .istore 4, 0, 0, 0, 0), (6, .aload_n 0, 0, 0, 0, 0), (7, .getfield 15, 1, 2, 0, 0), (10, .iload 4, 0, 0, 0, 0), (12, .iload_n 1, 0, 0, 0, 0), (13, .iastore, 0, 0, 0, 0), (14, .aload_n 0, 0, 0, 0, 0), (15, .getfield 19, 1, 3, 0, 0), (18, .iload 4, 0, 0, 0, 0), (20, .iload_n 2, 0, 0, 0, 0), (21, .iastore, 0, 0, 0, 0), (22, .aload_n 0, 0, 0, 0, 0), (23, .getfield 22, 1, 4, 0, 0), (26, .iload 4, 0, 0, 0, 0), (28, .iload_n 3, 0, 0, 0, 0), (29, .iastore, 0, 0, 0, 0), (30, .aload_n 0, 0, 0, 0, 0), (31, .dup, 0, 0, 0, 0), (32, .getfield 37, 1, 1, 0, 0), (35, .iconst 1, 0, 0, 0, 0), (36, .iadd, 0, 0, 0, 0), (37, .putfield 37, 1, 1, 0, 0), (40, .iload 4, 0, 0, 0, 0), (42, .ireturn, 0, 0, 0, 0)]
def xp_N_add : xm_M := (⟨"FibrePairs$Net", "add", "(III)I"⟩, prog_3_method_3_code, 5, (some .int), [], xt_N_add_0)
def xt_L_request_0 : List xm_I := [(0, .aload 4, 0, 0, 0, 0), (2, .iconst 0, 0, 0, 0, 0), (3, .aload_n 0, 0, 0, 0, 0), (4, .iload_n 1, 0, 0, 0, 0), (5, .iload_n 2, 0, 0, 0, 0), (6, .iload_n 3, 0, 0, 0, 0), (7, .invokevirtual 23, 18, 4, 2, 0), (10, .i2l, 0, 0, 0, 0), (11, .lastore, 0, 0, 0, 0), (12, .goto 15, 27, 0, 0, 0), (15, .astore 5, 0, 0, 0, 0), (17, .iconst 1, 0, 0, 0, 0), (18, .ireturn, 0, 0, 0, 0), (19, .astore 5, 0, 0, 0, 0), (21, .iconst 2, 0, 0, 0, 0), (22, .ireturn, 0, 0, 0, 0), (23, .astore 5, 0, 0, 0, 0), (25, .iconst 3, 0, 0, 0, 0), (26, .ireturn, 0, 0, 0, 0), (27, .iconst 0, 0, 0, 0, 0), (28, .ireturn, 0, 0, 0, 0)]
def xp_L_request : xm_M := (⟨"FibrePairsLaw", "request", "(LFibrePairs;IIZ[J)I"⟩, method_5_code, 6, (some .int), [(0, 12, 15, 19, 5), (0, 12, 19, 13, 4), (0, 12, 23, 21, 6)], xt_L_request_0)
def xt_F_request_0 : List xm_I := [(0, .aload_n 0, 0, 0, 0, 0), (1, .iload_n 1, 0, 0, 0, 0), (2, .iload_n 2, 0, 0, 0, 0), (3, .invokevirtual 44, 15, 3, 2, 0), (6, .aload_n 0, 0, 0, 0, 0), (7, .invokevirtual 58, 19, 1, 2, 0), (10, .istore 4, 0, 0, 0, 0), (12, .iload 4, 0, 0, 0, 0), (14, .iconst (-1), 0, 0, 0, 0), (15, .if_icmp .ne 11, 26, 0, 0, 0), (18, .new 51, 6, 53, 0, 1), (26, .aload_n 0, 0, 0, 0, 0), (27, .getfield 18, 2, 1, 0, 0), (30, .iload 4, 0, 0, 0, 0), (32, .aaload, 0, 0, 0, 0), (33, .astore 5, 0, 0, 0, 0), (35, .aload 5, 0, 0, 0, 0), (37, .iload_n 1, 0, 0, 0, 0), (38, .iload_n 2, 0, 0, 0, 0), (39, .iload_n 3, 0, 0, 0, 0), (40, .invokevirtual 62, 20, 4, 0, 0), (43, .aload 5, 0, 0, 0, 0), (45, .aload_n 0, 0, 0, 0, 0), (46, .aload 5, 0, 0, 0, 0), (48, .iconst 0, 0, 0, 0, 0), (49, .invokevirtual 66, 21, 3, 2, 0), (52, .putfield 30, 0, 0, 0, 1), (55, .aload 5, 0, 0, 0, 0), (57, .getfield 30, 0, 0, 0, 0), (60, .ifCond .eq 8, 68, 0, 0, 0), (63, .iload 4, 0, 0, 0, 0), (65, .goto 4, 69, 0, 0, 0), (68, .iconst (-1), 0, 0, 0, 0), (69, .ireturn, 0, 0, 0, 0)]
def xp_F_request : xm_M := (⟨"FibrePairs", "request", "(IIZ)I"⟩, prog_1_method_4_code, 6, (some .int), [], xt_F_request_0)
def xt_F_leastNotThere_0 : List xm_I := [(0, .iconst 0, 0, 0, 0, 0), (1, .istore_n 1, 0, 0, 0, 0), (2, .iload_n 1, 0, 0, 0, 0), (3, .bipush 12, 0, 0, 0, 0), (5, .if_icmp .ge 23, 28, 0, 0, 0), (8, .aload_n 0, 0, 0, 0, 0), (9, .getfield 18, 2, 1, 0, 0), (12, .iload_n 1, 0, 0, 0, 0), (13, .aaload, 0, 0, 0, 0), (14, .getfield 30, 0, 0, 0, 0), (17, .ifCond .ne 5, 22, 0, 0, 0), (20, .iload_n 1, 0, 0, 0, 0), (21, .ireturn, 0, 0, 0, 0), (22, .iinc 1 1, 0, 0, 0, 0), (25, .goto (-23), 2, 0, 0, 0), (28, .iconst (-1), 0, 0, 0, 0), (29, .ireturn, 0, 0, 0, 0)]
def xp_F_leastNotThere : xm_M := (⟨"FibrePairs", "leastNotThere", "()I"⟩, prog_1_method_24_code, 2, (some .int), [], xt_F_leastNotThere_0)
def xt_C_ask_0 : List xm_I := [(0, .aload_n 0, 0, 0, 0, 0), (1, .iload_n 1, 0, 0, 0, 0), (2, .putfield 9, 0, 2, 0, 0), (5, .aload_n 0, 0, 0, 0, 0), (6, .iload_n 2, 0, 0, 0, 0), (7, .putfield 15, 0, 3, 0, 0), (10, .aload_n 0, 0, 0, 0, 0), (11, .iload_n 3, 0, 0, 0, 0), (12, .putfield 18, 0, 1, 0, 1), (15, .return_, 0, 0, 0, 0)]
def xp_C_ask : xm_M := (⟨"FibrePairs$Connection", "ask", "(IIZ)V"⟩, prog_2_method_2_code, 4, none, [], xt_C_ask_0)
def xt_F_lay_0 : List xm_I := [(0, .iload_n 2, 0, 0, 0, 0), (1, .istore_n 3, 0, 0, 0, 0), (2, .iload_n 3, 0, 0, 0, 0), (3, .iconst 4, 0, 0, 0, 0), (4, .if_icmp .ge 93, 97, 0, 0, 0), (7, .aload_n 0, 0, 0, 0, 0), (8, .iload_n 3, 0, 0, 0, 0), (9, .invokevirtual 123, 22, 2, 2, 0), (12, .istore 4, 0, 0, 0, 0), (14, .aload_n 1, 0, 0, 0, 0), (15, .getfield 108, 0, 1, 0, 0), (18, .ifCond .eq 23, 41, 0, 0, 0), (21, .aload_n 0, 0, 0, 0, 0), (22, .getfield 10, 2, 0, 0, 0), (25, .iload 4, 0, 0, 0, 0), (27, .aload_n 1, 0, 0, 0, 0), (28, .getfield 92, 0, 2, 0, 0), (31, .aload_n 1, 0, 0, 0, 0), (32, .getfield 101, 0, 3, 0, 0), (35, .invokevirtual 126, 25, 4, 1, 0), (38, .goto 20, 58, 0, 0, 0), (41, .aload_n 0, 0, 0, 0, 0), (42, .getfield 10, 2, 0, 0, 0), (45, .iload 4, 0, 0, 0, 0), (47, .aload_n 1, 0, 0, 0, 0), (48, .getfield 92, 0, 2, 0, 0), (51, .aload_n 1, 0, 0, 0, 0), (52, .getfield 101, 0, 3, 0, 0), (55, .invokevirtual 129, 26, 4, 1, 0), (58, .istore 5, 0, 0, 0, 0), (60, .iload 5, 0, 0, 0, 0), (62, .ifCond .eq 29, 91, 0, 0, 0), (65, .aload_n 1, 0, 0, 0, 0), (66, .iload_n 3, 0, 0, 0, 0), (67, .aload_n 0, 0, 0, 0, 0), (68, .getfield 10, 2, 0, 0, 0), (71, .iload 5, 0, 0, 0, 0), (73, .aload_n 1, 0, 0, 0, 0), (74, .getfield 92, 0, 2, 0, 0), (77, .aload_n 1, 0, 0, 0, 0), (78, .getfield 101, 0, 3, 0, 0), (81, .invokevirtual 129, 26, 4, 1, 0), (84, .iload 5, 0, 0, 0, 0), (86, .invokevirtual 149, 36, 4, 0, 0), (89, .iconst 1, 0, 0, 0, 0), (90, .ireturn, 0, 0, 0, 1), (91, .iinc 3 1, 0, 0, 0, 0), (94, .goto (-92), 2, 0, 0, 0), (97, .iconst 0, 0, 0, 0, 0), (98, .ireturn, 0, 0, 0, 1)]
def xp_F_lay : xm_M := (⟨"FibrePairs", "lay", "(LFibrePairs$Connection;I)Z"⟩, prog_1_method_27_code, 6, (some .boolean), [], xt_F_lay_0)
def xt_F_freeOn_0 : List xm_I := [(0, .aload_n 0, 0, 0, 0, 0), (1, .getfield 34, 2, 2, 0, 0), (4, .aload_n 0, 0, 0, 0, 0), (5, .getfield 38, 2, 3, 0, 0), (8, .ior, 0, 0, 0, 0), (9, .istore_n 2, 0, 0, 0, 0), (10, .iconst 0, 0, 0, 0, 0), (11, .istore_n 3, 0, 0, 0, 0), (12, .iload_n 3, 0, 0, 0, 0), (13, .bipush 12, 0, 0, 0, 0), (15, .if_icmp .ge 22, 37, 0, 0, 0), (18, .iload_n 2, 0, 0, 0, 0), (19, .aload_n 0, 0, 0, 0, 0), (20, .getfield 18, 2, 1, 0, 0), (23, .iload_n 3, 0, 0, 0, 0), (24, .aaload, 0, 0, 0, 0), (25, .iload_n 1, 0, 0, 0, 0), (26, .invokevirtual 120, 23, 2, 0, 0), (29, .ior, 0, 0, 0, 0), (30, .istore_n 2, 0, 0, 0, 0), (31, .iinc 3 1, 0, 0, 0, 0), (34, .goto (-22), 12, 0, 0, 0), (37, .aload_n 0, 0, 0, 0, 0), (38, .getfield 10, 2, 0, 0, 0), (41, .invokevirtual 146, 24, 1, 1, 0), (44, .iload_n 2, 0, 0, 0, 0), (45, .iconst (-1), 0, 0, 0, 0), (46, .ixor, 0, 0, 0, 0), (47, .iand, 0, 0, 0, 0), (48, .ireturn, 0, 0, 0, 0)]
def xp_F_freeOn : xm_M := (⟨"FibrePairs", "freeOn", "(I)I"⟩, prog_1_method_26_code, 4, (some .int), [], xt_F_freeOn_0)
def xt_C_usedOn_0 : List xm_I := [(0, .aload_n 0, 0, 0, 0, 0), (1, .getfield 37, 0, 0, 0, 0), (4, .ifCond .eq 23, 27, 0, 0, 0), (7, .aload_n 0, 0, 0, 0, 0), (8, .getfield 22, 0, 4, 0, 0), (11, .iload_n 1, 0, 0, 0, 0), (12, .if_icmp .ne 15, 27, 0, 0, 0), (15, .aload_n 0, 0, 0, 0, 0), (16, .getfield 25, 0, 5, 0, 0), (19, .aload_n 0, 0, 0, 0, 0), (20, .getfield 28, 0, 6, 0, 0), (23, .ior, 0, 0, 0, 0), (24, .goto 4, 28, 0, 0, 0), (27, .iconst 0, 0, 0, 0, 0), (28, .ireturn, 0, 0, 0, 0)]
def xp_C_usedOn : xm_M := (⟨"FibrePairs$Connection", "usedOn", "(I)I"⟩, prog_2_method_4_code, 2, (some .int), [], xt_C_usedOn_0)
def xt_N_everyFibre_0 : List xm_I := [(0, .iconst 1, 0, 0, 0, 0), (1, .aload_n 0, 0, 0, 0, 0), (2, .getfield 37, 1, 1, 0, 0), (5, .ishl, 0, 0, 0, 0), (6, .iconst 1, 0, 0, 0, 0), (7, .isub, 0, 0, 0, 0), (8, .ireturn, 0, 0, 0, 0)]
def xp_N_everyFibre : xm_M := (⟨"FibrePairs$Net", "everyFibre", "()I"⟩, prog_3_method_4_code, 1, (some .int), [], xt_N_everyFibre_0)
def xt_N_bestPair_0 : List xm_I := [(0, .aload_n 0, 0, 0, 0, 0), (1, .iload_n 1, 0, 0, 0, 0), (2, .iload_n 2, 0, 0, 0, 0), (3, .iload_n 3, 0, 0, 0, 0), (4, .invokevirtual 64, 26, 4, 1, 0), (7, .istore 4, 0, 0, 0, 0), (9, .iload 4, 0, 0, 0, 0), (11, .ifCond .ne 5, 16, 0, 0, 0), (14, .iconst 0, 0, 0, 0, 0), (15, .ireturn, 0, 0, 0, 0), (16, .aload_n 0, 0, 0, 0, 0), (17, .iload 4, 0, 0, 0, 0), (19, .iload_n 2, 0, 0, 0, 0), (20, .invokevirtual 68, 33, 3, 1, 0), (23, .aload_n 0, 0, 0, 0, 0), (24, .iload_n 2, 0, 0, 0, 0), (25, .iload_n 3, 0, 0, 0, 0), (26, .invokevirtual 61, 30, 3, 1, 0), (29, .istore 5, 0, 0, 0, 0), (31, .iload 5, 0, 0, 0, 0), (33, .ifCond .ne 7, 40, 0, 0, 0), (36, .iconst 0, 0, 0, 0, 0), (37, .goto 8, 45, 0, 0, 0), (40, .iload 4, 0, 0, 0, 0), (42, .iload 5, 0, 0, 0, 0), (44, .ixor, 0, 0, 0, 0), (45, .ireturn, 0, 0, 0, 0)]
def xp_N_bestPair : xm_M := (⟨"FibrePairs$Net", "bestPair", "(III)I"⟩, prog_3_method_10_code, 6, (some .int), [], xt_N_bestPair_0)
def xt_N_bestPath_0 : List xm_I := [(0, .aload_n 0, 0, 0, 0, 0), (1, .iload_n 1, 0, 0, 0, 0), (2, .invokevirtual 57, 27, 2, 1, 0), (5, .aload_n 0, 0, 0, 0, 0), (6, .iload_n 2, 0, 0, 0, 0), (7, .iload_n 3, 0, 0, 0, 0), (8, .invokevirtual 61, 30, 3, 1, 0), (11, .ireturn, 0, 0, 0, 0)]
def xp_N_bestPath : xm_M := (⟨"FibrePairs$Net", "bestPath", "(III)I"⟩, prog_3_method_9_code, 4, (some .int), [], xt_N_bestPath_0)
def xt_N_openBothWays_0 : List xm_I := [(0, .iconst 0, 0, 0, 0, 0), (1, .istore_n 2, 0, 0, 0, 0), (2, .iload_n 2, 0, 0, 0, 0), (3, .aload_n 0, 0, 0, 0, 0), (4, .getfield 37, 1, 1, 0, 0), (7, .if_icmp .ge 42, 49, 0, 0, 0), (10, .iload_n 1, 0, 0, 0, 0), (11, .iload_n 2, 0, 0, 0, 0), (12, .invokestatic 40, 28, 2, 0, 0), (15, .ifCond .eq 11, 26, 0, 0, 0), (18, .aload_n 0, 0, 0, 0, 0), (19, .iload_n 2, 0, 0, 0, 0), (20, .invokevirtual 72, 29, 2, 1, 0), (23, .goto 5, 28, 0, 0, 0), (26, .ldc 75, 2147483647, 0, 0, 0), (28, .istore_n 3, 0, 0, 0, 0), (29, .aload_n 0, 0, 0, 0, 0), (30, .getfield 25, 1, 5, 0, 0), (33, .iload_n 2, 0, 0, 0, 0), (34, .iload_n 3, 0, 0, 0, 0), (35, .iastore, 0, 0, 0, 0), (36, .aload_n 0, 0, 0, 0, 0), (37, .getfield 28, 1, 6, 0, 0), (40, .iload_n 2, 0, 0, 0, 0), (41, .iload_n 3, 0, 0, 0, 0), (42, .iastore, 0, 0, 0, 0), (43, .iinc 2 1, 0, 0, 0, 0), (46, .goto (-44), 2, 0, 0, 0), (49, .return_, 0, 0, 0, 0)]
def xp_N_openBothWays : xm_M := (⟨"FibrePairs$Net", "openBothWays", "(I)V"⟩, prog_3_method_12_code, 4, none, [], xt_N_openBothWays_0)
def xt_F_holds_0 : List xm_I := [(0, .iload_n 0, 0, 0, 0, 0), (1, .iconst 1, 0, 0, 0, 0), (2, .iload_n 1, 0, 0, 0, 0), (3, .ishl, 0, 0, 0, 0), (4, .iand, 0, 0, 0, 0), (5, .ifCond .eq 7, 12, 0, 0, 0), (8, .iconst 1, 0, 0, 0, 0), (9, .goto 4, 13, 0, 0, 0), (12, .iconst 0, 0, 0, 0, 0), (13, .ireturn, 0, 0, 0, 1)]
def xp_F_holds : xm_M := (⟨"FibrePairs", "holds", "(II)Z"⟩, prog_1_method_23_code, 2, (some .boolean), [], xt_F_holds_0)
def xt_N_weight_0 : List xm_I := [(0, .aload_n 0, 0, 0, 0, 0), (1, .getfield 22, 1, 4, 0, 0), (4, .iload_n 1, 0, 0, 0, 0), (5, .iaload, 0, 0, 0, 0), (6, .bipush 14, 0, 0, 0, 0), (8, .ishl, 0, 0, 0, 0), (9, .iconst 1, 0, 0, 0, 0), (10, .bipush 13, 0, 0, 0, 0), (12, .iload_n 1, 0, 0, 0, 0), (13, .isub, 0, 0, 0, 0), (14, .ishl, 0, 0, 0, 0), (15, .isub, 0, 0, 0, 0), (16, .ireturn, 0, 0, 0, 0)]
def xp_N_weight : xm_M := (⟨"FibrePairs$Net", "weight", "(I)I"⟩, prog_3_method_11_code, 2, (some .int), [], xt_N_weight_0)
def xt_N_cheapestWay_0 : List xm_I := [(0, .aload_n 0, 0, 0, 0, 0), (1, .getfield 31, 1, 7, 0, 0), (4, .ldc 75, 2147483647, 0, 0, 0), (6, .invokestatic 76, 31, 2, 0, 0), (9, .aload_n 0, 0, 0, 0, 0), (10, .getfield 34, 1, 8, 0, 0), (13, .iconst 0, 0, 0, 0, 0), (14, .invokestatic 76, 31, 2, 0, 0), (17, .aload_n 0, 0, 0, 0, 0), (18, .getfield 31, 1, 7, 0, 0), (21, .iload_n 1, 0, 0, 0, 0), (22, .iconst 0, 0, 0, 0, 0), (23, .iastore, 0, 0, 0, 0), (24, .iconst 1, 0, 0, 0, 0), (25, .istore_n 3, 0, 0, 0, 0), (26, .iconst 1, 0, 0, 0, 0), (27, .istore 4, 0, 0, 0, 0), (29, .iload 4, 0, 0, 0, 0), (31, .aload_n 0, 0, 0, 0, 0), (32, .getfield 9, 1, 0, 0, 0), (35, .if_icmp .ge 97, 132, 0, 0, 0), (38, .iload_n 3, 0, 0, 0, 0), (39, .ifCond .eq 93, 132, 0, 0, 0), (42, .iconst 0, 0, 0, 0, 0), (43, .istore_n 3, 0, 0, 0, 0), (44, .iconst 0, 0, 0, 0, 0), (45, .istore 5, 0, 0, 0, 0), (47, .iload 5, 0, 0, 0, 0), (49, .aload_n 0, 0, 0, 0, 0), (50, .getfield 37, 1, 1, 0, 0), (53, .if_icmp .ge 73, 126, 0, 0, 0), (56, .aload_n 0, 0, 0, 0, 0), (57, .aload_n 0, 0, 0, 0, 0), (58, .getfield 15, 1, 2, 0, 0), (61, .iload 5, 0, 0, 0, 0), (63, .iaload, 0, 0, 0, 0), (64, .iload 5, 0, 0, 0, 0), (66, .aload_n 0, 0, 0, 0, 0), (67, .getfield 19, 1, 3, 0, 0), (70, .iload 5, 0, 0, 0, 0), (72, .iaload, 0, 0, 0, 0), (73, .aload_n 0, 0, 0, 0, 0), (74, .getfield 25, 1, 5, 0, 0), (77, .iload 5, 0, 0, 0, 0), (79, .iaload, 0, 0, 0, 0), (80, .invokevirtual 82, 32, 5, 1, 0), (83, .ifCond .eq 5, 88, 0, 0, 0), (86, .iconst 1, 0, 0, 0, 0), (87, .istore_n 3, 0, 0, 0, 0), (88, .aload_n 0, 0, 0, 0, 0), (89, .aload_n 0, 0, 0, 0, 0), (90, .getfield 19, 1, 3, 0, 0), (93, .iload 5, 0, 0, 0, 0), (95, .iaload, 0, 0, 0, 0), (96, .iload 5, 0, 0, 0, 0), (98, .aload_n 0, 0, 0, 0, 0), (99, .getfield 15, 1, 2, 0, 0), (102, .iload 5, 0, 0, 0, 0), (104, .iaload, 0, 0, 0, 0), (105, .aload_n 0, 0, 0, 0, 0)]
def xt_N_cheapestWay_1 : List xm_I := [(106, .getfield 28, 1, 6, 0, 0), (109, .iload 5, 0, 0, 0, 0), (111, .iaload, 0, 0, 0, 0), (112, .invokevirtual 82, 32, 5, 1, 0), (115, .ifCond .eq 5, 120, 0, 0, 0), (118, .iconst 1, 0, 0, 0, 0), (119, .istore_n 3, 0, 0, 0, 0), (120, .iinc 5 1, 0, 0, 0, 0), (123, .goto (-76), 47, 0, 0, 0), (126, .iinc 4 1, 0, 0, 0, 0), (129, .goto (-100), 29, 0, 0, 0), (132, .aload_n 0, 0, 0, 0, 0), (133, .getfield 34, 1, 8, 0, 0), (136, .iload_n 2, 0, 0, 0, 0), (137, .iaload, 0, 0, 0, 0), (138, .ireturn, 0, 0, 0, 0)]
def xp_N_cheapestWay : xm_M := (⟨"FibrePairs$Net", "cheapestWay", "(II)I"⟩, prog_3_method_14_code, 6, (some .int), [], xt_N_cheapestWay_0 ++ xt_N_cheapestWay_1)
def xt_J_fill_0 : List xm_I := [(0, .iconst 0, 0, 0, 0, 0), (1, .istore_n 2, 0, 0, 0, 0), (2, .aload_n 0, 0, 0, 0, 0), (3, .arraylength, 0, 0, 0, 0), (4, .istore_n 3, 0, 0, 0, 0), (5, .iload_n 2, 0, 0, 0, 0), (6, .iload_n 3, 0, 0, 0, 0), (7, .if_icmp .ge 13, 20, 0, 0, 0), (10, .aload_n 0, 0, 0, 0, 0), (11, .iload_n 2, 0, 0, 0, 0), (12, .iload_n 1, 0, 0, 0, 0), (13, .iastore, 0, 0, 0, 0), (14, .iinc 2 1, 0, 0, 0, 0), (17, .goto (-12), 5, 0, 0, 0), (20, .return_, 0, 0, 0, 0)]
def xp_J_fill : xm_M := (⟨"java/util/Arrays", "fill", "([II)V"⟩, prog_13_method_103_code, 4, none, [], xt_J_fill_0)
def xt_N_extend_0 : List xm_I := [(0, .iload 4, 0, 0, 0, 0), (2, .ldc 75, 2147483647, 0, 0, 0), (4, .if_icmp .eq 32, 36, 0, 0, 0), (7, .aload_n 0, 0, 0, 0, 0), (8, .getfield 31, 1, 7, 0, 0), (11, .iload_n 1, 0, 0, 0, 0), (12, .iaload, 0, 0, 0, 0), (13, .ldc 75, 2147483647, 0, 0, 0), (15, .if_icmp .eq 21, 36, 0, 0, 0), (18, .aload_n 0, 0, 0, 0, 0), (19, .getfield 31, 1, 7, 0, 0), (22, .iload_n 1, 0, 0, 0, 0), (23, .iaload, 0, 0, 0, 0), (24, .iload 4, 0, 0, 0, 0), (26, .iadd, 0, 0, 0, 0), (27, .aload_n 0, 0, 0, 0, 0), (28, .getfield 31, 1, 7, 0, 0), (31, .iload_n 3, 0, 0, 0, 0), (32, .iaload, 0, 0, 0, 0), (33, .if_icmp .lt 5, 38, 0, 0, 0), (36, .iconst 0, 0, 0, 0, 0), (37, .ireturn, 0, 0, 0, 1), (38, .aload_n 0, 0, 0, 0, 0), (39, .getfield 31, 1, 7, 0, 0), (42, .iload_n 3, 0, 0, 0, 0), (43, .aload_n 0, 0, 0, 0, 0), (44, .getfield 31, 1, 7, 0, 0), (47, .iload_n 1, 0, 0, 0, 0), (48, .iaload, 0, 0, 0, 0), (49, .iload 4, 0, 0, 0, 0), (51, .iadd, 0, 0, 0, 0), (52, .iastore, 0, 0, 0, 0), (53, .aload_n 0, 0, 0, 0, 0), (54, .getfield 34, 1, 8, 0, 0), (57, .iload_n 3, 0, 0, 0, 0), (58, .aload_n 0, 0, 0, 0, 0), (59, .getfield 34, 1, 8, 0, 0), (62, .iload_n 1, 0, 0, 0, 0), (63, .iaload, 0, 0, 0, 0), (64, .iconst 1, 0, 0, 0, 0), (65, .iload_n 2, 0, 0, 0, 0), (66, .ishl, 0, 0, 0, 0), (67, .ior, 0, 0, 0, 0), (68, .iastore, 0, 0, 0, 0), (69, .iconst 1, 0, 0, 0, 0), (70, .ireturn, 0, 0, 0, 1)]
def xp_N_extend : xm_M := (⟨"FibrePairs$Net", "extend", "(IIII)Z"⟩, prog_3_method_15_code, 5, (some .boolean), [], xt_N_extend_0)
def xt_N_openBackOnly_0 : List xm_I := [(0, .iload_n 1, 0, 0, 0, 0), (1, .istore_n 3, 0, 0, 0, 0), (2, .iload_n 2, 0, 0, 0, 0), (3, .istore 4, 0, 0, 0, 0), (5, .aload_n 0, 0, 0, 0, 0), (6, .iload_n 3, 0, 0, 0, 0), (7, .iload 4, 0, 0, 0, 0), (9, .invokevirtual 50, 34, 3, 1, 0), (12, .istore 5, 0, 0, 0, 0), (14, .iconst 0, 0, 0, 0, 0), (15, .istore 6, 0, 0, 0, 0), (17, .iload 6, 0, 0, 0, 0), (19, .bipush 7, 0, 0, 0, 0), (21, .if_icmp .ge 108, 129, 0, 0, 0), (24, .iload 5, 0, 0, 0, 0), (26, .iconst (-1), 0, 0, 0, 0), (27, .if_icmp .eq 102, 129, 0, 0, 0), (30, .aload_n 0, 0, 0, 0, 0), (31, .getfield 15, 1, 2, 0, 0), (34, .iload 5, 0, 0, 0, 0), (36, .iaload, 0, 0, 0, 0), (37, .iload 4, 0, 0, 0, 0), (39, .if_icmp .ne 7, 46, 0, 0, 0), (42, .iconst 1, 0, 0, 0, 0), (43, .goto 4, 47, 0, 0, 0), (46, .iconst 0, 0, 0, 0, 0), (47, .istore 7, 0, 0, 0, 0), (49, .aload_n 0, 0, 0, 0, 0), (50, .getfield 25, 1, 5, 0, 0), (53, .iload 5, 0, 0, 0, 0), (55, .iload 7, 0, 0, 0, 0), (57, .ifCond .eq 8, 65, 0, 0, 0), (60, .ldc 75, 2147483647, 0, 0, 0), (62, .goto 10, 72, 0, 0, 0), (65, .aload_n 0, 0, 0, 0, 0), (66, .iload 5, 0, 0, 0, 0), (68, .invokevirtual 72, 29, 2, 1, 0), (71, .ineg, 0, 0, 0, 0), (72, .iastore, 0, 0, 0, 0), (73, .aload_n 0, 0, 0, 0, 0), (74, .getfield 28, 1, 6, 0, 0), (77, .iload 5, 0, 0, 0, 0), (79, .iload 7, 0, 0, 0, 0), (81, .ifCond .eq 13, 94, 0, 0, 0), (84, .aload_n 0, 0, 0, 0, 0), (85, .iload 5, 0, 0, 0, 0), (87, .invokevirtual 72, 29, 2, 1, 0), (90, .ineg, 0, 0, 0, 0), (91, .goto 5, 96, 0, 0, 0), (94, .ldc 75, 2147483647, 0, 0, 0), (96, .iastore, 0, 0, 0, 0), (97, .iload_n 3, 0, 0, 0, 0), (98, .iconst 1, 0, 0, 0, 0), (99, .iload 5, 0, 0, 0, 0), (101, .ishl, 0, 0, 0, 0), (102, .ixor, 0, 0, 0, 0), (103, .istore_n 3, 0, 0, 0, 0), (104, .aload_n 0, 0, 0, 0, 0), (105, .iload 5, 0, 0, 0, 0), (107, .iload 4, 0, 0, 0, 0)]
def xt_N_openBackOnly_1 : List xm_I := [(109, .invokevirtual 54, 35, 3, 1, 0), (112, .istore 4, 0, 0, 0, 0), (114, .aload_n 0, 0, 0, 0, 0), (115, .iload_n 3, 0, 0, 0, 0), (116, .iload 4, 0, 0, 0, 0), (118, .invokevirtual 50, 34, 3, 1, 0), (121, .istore 5, 0, 0, 0, 0), (123, .iinc 6 1, 0, 0, 0, 0), (126, .goto (-109), 17, 0, 0, 0), (129, .return_, 0, 0, 0, 0)]
def xp_N_openBackOnly : xm_M := (⟨"FibrePairs$Net", "openBackOnly", "(II)V"⟩, prog_3_method_13_code, 8, none, [], xt_N_openBackOnly_0 ++ xt_N_openBackOnly_1)
def xt_N_touching_0 : List xm_I := [(0, .iconst 0, 0, 0, 0, 0), (1, .istore_n 3, 0, 0, 0, 0), (2, .iload_n 3, 0, 0, 0, 0), (3, .aload_n 0, 0, 0, 0, 0), (4, .getfield 37, 1, 1, 0, 0), (7, .if_icmp .ge 39, 46, 0, 0, 0), (10, .iload_n 1, 0, 0, 0, 0), (11, .iload_n 3, 0, 0, 0, 0), (12, .invokestatic 40, 28, 2, 0, 0), (15, .ifCond .eq 25, 40, 0, 0, 0), (18, .aload_n 0, 0, 0, 0, 0), (19, .getfield 15, 1, 2, 0, 0), (22, .iload_n 3, 0, 0, 0, 0), (23, .iaload, 0, 0, 0, 0), (24, .iload_n 2, 0, 0, 0, 0), (25, .if_icmp .eq 13, 38, 0, 0, 0), (28, .aload_n 0, 0, 0, 0, 0), (29, .getfield 19, 1, 3, 0, 0), (32, .iload_n 3, 0, 0, 0, 0), (33, .iaload, 0, 0, 0, 0), (34, .iload_n 2, 0, 0, 0, 0), (35, .if_icmp .ne 5, 40, 0, 0, 0), (38, .iload_n 3, 0, 0, 0, 0), (39, .ireturn, 0, 0, 0, 0), (40, .iinc 3 1, 0, 0, 0, 0), (43, .goto (-41), 2, 0, 0, 0), (46, .iconst (-1), 0, 0, 0, 0), (47, .ireturn, 0, 0, 0, 0)]
def xp_N_touching : xm_M := (⟨"FibrePairs$Net", "touching", "(II)I"⟩, prog_3_method_7_code, 4, (some .int), [], xt_N_touching_0)
def xt_N_otherEnd_0 : List xm_I := [(0, .aload_n 0, 0, 0, 0, 0), (1, .getfield 15, 1, 2, 0, 0), (4, .iload_n 1, 0, 0, 0, 0), (5, .iaload, 0, 0, 0, 0), (6, .iload_n 2, 0, 0, 0, 0), (7, .if_icmp .ne 12, 19, 0, 0, 0), (10, .aload_n 0, 0, 0, 0, 0), (11, .getfield 19, 1, 3, 0, 0), (14, .iload_n 1, 0, 0, 0, 0), (15, .iaload, 0, 0, 0, 0), (16, .goto 9, 25, 0, 0, 0), (19, .aload_n 0, 0, 0, 0, 0), (20, .getfield 15, 1, 2, 0, 0), (23, .iload_n 1, 0, 0, 0, 0), (24, .iaload, 0, 0, 0, 0), (25, .ireturn, 0, 0, 0, 0)]
def xp_N_otherEnd : xm_M := (⟨"FibrePairs$Net", "otherEnd", "(II)I"⟩, prog_3_method_8_code, 3, (some .int), [], xt_N_otherEnd_0)
def xt_C_settle_0 : List xm_I := [(0, .aload_n 0, 0, 0, 0, 0), (1, .iload_n 1, 0, 0, 0, 0), (2, .putfield 22, 0, 4, 0, 0), (5, .aload_n 0, 0, 0, 0, 0), (6, .iload_n 2, 0, 0, 0, 0), (7, .putfield 25, 0, 5, 0, 0), (10, .aload_n 0, 0, 0, 0, 0), (11, .iload_n 3, 0, 0, 0, 0), (12, .iload_n 2, 0, 0, 0, 0), (13, .iconst (-1), 0, 0, 0, 0), (14, .ixor, 0, 0, 0, 0), (15, .iand, 0, 0, 0, 0), (16, .putfield 28, 0, 6, 0, 0), (19, .aload_n 0, 0, 0, 0, 0), (20, .iconst 0, 0, 0, 0, 0), (21, .putfield 31, 0, 7, 0, 0), (24, .aload_n 0, 0, 0, 0, 0), (25, .iconst 0, 0, 0, 0, 0), (26, .putfield 34, 0, 8, 0, 0), (29, .return_, 0, 0, 0, 0)]
def xp_C_settle : xm_M := (⟨"FibrePairs$Connection", "settle", "(III)V"⟩, prog_2_method_3_code, 4, none, [], xt_C_settle_0)
def xt_L_release_0 : List xm_I := [(0, .aload_n 0, 0, 0, 0, 0), (1, .iload_n 1, 0, 0, 0, 0), (2, .invokevirtual 27, 38, 2, 2, 0), (5, .goto 6, 11, 0, 0, 0), (8, .astore_n 2, 0, 0, 0, 0), (9, .iconst 1, 0, 0, 0, 0), (10, .ireturn, 0, 0, 0, 0), (11, .iconst 0, 0, 0, 0, 0), (12, .ireturn, 0, 0, 0, 0)]
def xp_L_release : xm_M := (⟨"FibrePairsLaw", "release", "(LFibrePairs;I)I"⟩, method_6_code, 3, (some .int), [(0, 5, 8, 19, 5)], xt_L_release_0)
def xt_F_release_0 : List xm_I := [(0, .aload_n 0, 0, 0, 0, 0), (1, .iload_n 1, 0, 0, 0, 0), (2, .invokevirtual 70, 39, 2, 2, 0), (5, .aload_n 0, 0, 0, 0, 0), (6, .getfield 18, 2, 1, 0, 0), (9, .iload_n 1, 0, 0, 0, 0), (10, .aaload, 0, 0, 0, 0), (11, .iconst 0, 0, 0, 0, 0), (12, .putfield 30, 0, 0, 0, 1), (15, .return_, 0, 0, 0, 0)]
def xp_F_release : xm_M := (⟨"FibrePairs", "release", "(I)V"⟩, prog_1_method_5_code, 2, none, [], xt_F_release_0)
def xt_F_requireConnection_0 : List xm_I := [(0, .iload_n 1, 0, 0, 0, 0), (1, .ifCond .lt 21, 22, 0, 0, 0), (4, .iload_n 1, 0, 0, 0, 0), (5, .bipush 12, 0, 0, 0, 0), (7, .if_icmp .ge 15, 22, 0, 0, 0), (10, .aload_n 0, 0, 0, 0, 0), (11, .getfield 18, 2, 1, 0, 0), (14, .iload_n 1, 0, 0, 0, 0), (15, .aaload, 0, 0, 0, 0), (16, .getfield 30, 0, 0, 0, 0), (19, .ifCond .ne 11, 30, 0, 0, 0), (22, .new 143, 5, 145, 0, 1), (30, .return_, 0, 0, 0, 0)]
def xp_F_requireConnection : xm_M := (⟨"FibrePairs", "requireConnection", "(I)V"⟩, prog_1_method_21_code, 2, none, [], xt_F_requireConnection_0)
def xt_L_lock_0 : List xm_I := [(0, .aload_n 0, 0, 0, 0, 0), (1, .iload_n 1, 0, 0, 0, 0), (2, .iload_n 2, 0, 0, 0, 0), (3, .invokevirtual 30, 41, 3, 2, 0), (6, .goto 9, 15, 0, 0, 0), (9, .astore_n 3, 0, 0, 0, 0), (10, .iconst 1, 0, 0, 0, 0), (11, .ireturn, 0, 0, 0, 0), (12, .astore_n 3, 0, 0, 0, 0), (13, .iconst 2, 0, 0, 0, 0), (14, .ireturn, 0, 0, 0, 0), (15, .iconst 0, 0, 0, 0, 0), (16, .ireturn, 0, 0, 0, 0)]
def xp_L_lock : xm_M := (⟨"FibrePairsLaw", "lock", "(LFibrePairs;IZ)I"⟩, method_7_code, 4, (some .int), [(0, 6, 9, 19, 5), (0, 6, 12, 21, 6)], xt_L_lock_0)
def xt_F_lock_0 : List xm_I := [(0, .aload_n 0, 0, 0, 0, 0), (1, .iload_n 1, 0, 0, 0, 0), (2, .invokevirtual 73, 42, 2, 2, 0), (5, .aload_n 0, 0, 0, 0, 0), (6, .getfield 38, 2, 3, 0, 0), (9, .iload_n 1, 0, 0, 0, 0), (10, .invokestatic 76, 28, 2, 0, 0), (13, .iload_n 2, 0, 0, 0, 0), (14, .if_icmp .ne 11, 25, 0, 0, 0), (17, .new 51, 6, 53, 0, 1), (25, .aload_n 0, 0, 0, 0, 0), (26, .dup, 0, 0, 0, 0), (27, .getfield 38, 2, 3, 0, 0), (30, .iconst 1, 0, 0, 0, 0), (31, .iload_n 1, 0, 0, 0, 0), (32, .ishl, 0, 0, 0, 0), (33, .ixor, 0, 0, 0, 0), (34, .putfield 38, 2, 3, 0, 0), (37, .return_, 0, 0, 0, 0)]
def xp_F_lock : xm_M := (⟨"FibrePairs", "lock", "(IZ)V"⟩, prog_1_method_6_code, 3, none, [], xt_F_lock_0)
def xt_F_requireFibre_0 : List xm_I := [(0, .iload_n 1, 0, 0, 0, 0), (1, .ifCond .lt 14, 15, 0, 0, 0), (4, .iload_n 1, 0, 0, 0, 0), (5, .aload_n 0, 0, 0, 0, 0), (6, .getfield 10, 2, 0, 0, 0), (9, .getfield 48, 1, 1, 0, 0), (12, .if_icmp .lt 11, 23, 0, 0, 0), (15, .new 143, 5, 145, 0, 1), (23, .return_, 0, 0, 0, 0)]
def xp_F_requireFibre : xm_M := (⟨"FibrePairs", "requireFibre", "(I)V"⟩, prog_1_method_20_code, 2, none, [], xt_F_requireFibre_0)
def xt_L_cut_0 : List xm_I := [(0, .aload_n 0, 0, 0, 0, 0), (1, .iload_n 1, 0, 0, 0, 0), (2, .invokevirtual 34, 44, 2, 2, 0), (5, .goto 9, 14, 0, 0, 0), (8, .astore_n 2, 0, 0, 0, 0), (9, .iconst 1, 0, 0, 0, 0), (10, .ireturn, 0, 0, 0, 0), (11, .astore_n 2, 0, 0, 0, 0), (12, .iconst 2, 0, 0, 0, 0), (13, .ireturn, 0, 0, 0, 0), (14, .iconst 0, 0, 0, 0, 0), (15, .ireturn, 0, 0, 0, 0)]
def xp_L_cut : xm_M := (⟨"FibrePairsLaw", "cut", "(LFibrePairs;I)I"⟩, method_8_code, 3, (some .int), [(0, 5, 8, 19, 5), (0, 5, 11, 21, 6)], xt_L_cut_0)
def xt_F_cut_0 : List xm_I := [(0, .aload_n 0, 0, 0, 0, 0), (1, .iload_n 1, 0, 0, 0, 0), (2, .invokevirtual 73, 42, 2, 2, 0), (5, .aload_n 0, 0, 0, 0, 0), (6, .getfield 34, 2, 2, 0, 0), (9, .iload_n 1, 0, 0, 0, 0), (10, .invokestatic 76, 28, 2, 0, 0), (13, .ifCond .eq 11, 24, 0, 0, 0), (16, .new 51, 6, 53, 0, 1), (24, .aload_n 0, 0, 0, 0, 0), (25, .dup, 0, 0, 0, 0), (26, .getfield 34, 2, 2, 0, 0), (29, .iconst 1, 0, 0, 0, 0), (30, .iload_n 1, 0, 0, 0, 0), (31, .ishl, 0, 0, 0, 0), (32, .ixor, 0, 0, 0, 0), (33, .putfield 34, 2, 2, 0, 0), (36, .aload_n 0, 0, 0, 0, 0), (37, .invokevirtual 80, 6, 1, 2, 0), (40, .return_, 0, 0, 0, 0)]
def xp_F_cut : xm_M := (⟨"FibrePairs", "cut", "(I)V"⟩, prog_1_method_7_code, 2, none, [], xt_F_cut_0)
def xt_L_mend_0 : List xm_I := [(0, .aload_n 0, 0, 0, 0, 0), (1, .iload_n 1, 0, 0, 0, 0), (2, .invokevirtual 37, 46, 2, 2, 0), (5, .goto 9, 14, 0, 0, 0), (8, .astore_n 2, 0, 0, 0, 0), (9, .iconst 1, 0, 0, 0, 0), (10, .ireturn, 0, 0, 0, 0), (11, .astore_n 2, 0, 0, 0, 0), (12, .iconst 2, 0, 0, 0, 0), (13, .ireturn, 0, 0, 0, 0), (14, .iconst 0, 0, 0, 0, 0), (15, .ireturn, 0, 0, 0, 0)]
def xp_L_mend : xm_M := (⟨"FibrePairsLaw", "mend", "(LFibrePairs;I)I"⟩, method_9_code, 3, (some .int), [(0, 5, 8, 19, 5), (0, 5, 11, 21, 6)], xt_L_mend_0)
def xt_F_mend_0 : List xm_I := [(0, .aload_n 0, 0, 0, 0, 0), (1, .iload_n 1, 0, 0, 0, 0), (2, .invokevirtual 73, 42, 2, 2, 0), (5, .aload_n 0, 0, 0, 0, 0), (6, .getfield 34, 2, 2, 0, 0), (9, .iload_n 1, 0, 0, 0, 0), (10, .invokestatic 76, 28, 2, 0, 0), (13, .ifCond .ne 11, 24, 0, 0, 0), (16, .new 51, 6, 53, 0, 1), (24, .aload_n 0, 0, 0, 0, 0), (25, .dup, 0, 0, 0, 0), (26, .getfield 34, 2, 2, 0, 0), (29, .iconst 1, 0, 0, 0, 0), (30, .iload_n 1, 0, 0, 0, 0), (31, .ishl, 0, 0, 0, 0), (32, .ixor, 0, 0, 0, 0), (33, .putfield 34, 2, 2, 0, 0), (36, .aload_n 0, 0, 0, 0, 0), (37, .invokevirtual 80, 6, 1, 2, 0), (40, .return_, 0, 0, 0, 0)]
def xp_F_mend : xm_M := (⟨"FibrePairs", "mend", "(I)V"⟩, prog_1_method_8_code, 2, none, [], xt_F_mend_0)
def xt_L_hold_0 : List xm_I := [(0, .aload_n 0, 0, 0, 0, 0), (1, .iload_n 1, 0, 0, 0, 0), (2, .invokevirtual 40, 48, 2, 2, 0), (5, .goto 6, 11, 0, 0, 0), (8, .astore_n 2, 0, 0, 0, 0), (9, .iconst 1, 0, 0, 0, 0), (10, .ireturn, 0, 0, 0, 0), (11, .iconst 0, 0, 0, 0, 0), (12, .ireturn, 0, 0, 0, 0)]
def xp_L_hold : xm_M := (⟨"FibrePairsLaw", "hold", "(LFibrePairs;I)I"⟩, method_10_code, 3, (some .int), [(0, 5, 8, 13, 4)], xt_L_hold_0)
def xt_F_hold_0 : List xm_I := [(0, .iload_n 1, 0, 0, 0, 0), (1, .ifCond .lt 10, 11, 0, 0, 0), (4, .iload_n 1, 0, 0, 0, 0), (5, .sipush 1000, 0, 0, 0, 0), (8, .if_icmp .le 11, 19, 0, 0, 0), (11, .new 23, 4, 25, 0, 1), (19, .aload_n 0, 0, 0, 0, 0), (20, .iload_n 1, 0, 0, 0, 0), (21, .putfield 41, 2, 4, 0, 0), (24, .aload_n 0, 0, 0, 0, 0), (25, .invokevirtual 80, 6, 1, 2, 0), (28, .return_, 0, 0, 0, 0)]
def xp_F_hold : xm_M := (⟨"FibrePairs", "hold", "(I)V"⟩, prog_1_method_9_code, 2, none, [], xt_F_hold_0)
def xt_L_path_0 : List xm_I := [(0, .aload 4, 0, 0, 0, 0), (2, .iconst 0, 0, 0, 0, 0), (3, .aload_n 0, 0, 0, 0, 0), (4, .iload_n 1, 0, 0, 0, 0), (5, .iload_n 2, 0, 0, 0, 0), (6, .iload_n 3, 0, 0, 0, 0), (7, .invokevirtual 43, 50, 4, 2, 0), (10, .i2l, 0, 0, 0, 0), (11, .lastore, 0, 0, 0, 0), (12, .goto 7, 19, 0, 0, 0), (15, .astore 5, 0, 0, 0, 0), (17, .iconst 1, 0, 0, 0, 0), (18, .ireturn, 0, 0, 0, 0), (19, .iconst 0, 0, 0, 0, 0), (20, .ireturn, 0, 0, 0, 0)]
def xp_L_path : xm_M := (⟨"FibrePairsLaw", "path", "(LFibrePairs;IZI[J)I"⟩, method_11_code, 6, (some .int), [(0, 12, 15, 19, 5)], xt_L_path_0)
def xt_F_path_0 : List xm_I := [(0, .aload_n 0, 0, 0, 0, 0), (1, .iload_n 1, 0, 0, 0, 0), (2, .invokevirtual 70, 39, 2, 2, 0), (5, .aload_n 0, 0, 0, 0, 0), (6, .getfield 18, 2, 1, 0, 0), (9, .iload_n 1, 0, 0, 0, 0), (10, .aaload, 0, 0, 0, 0), (11, .astore 4, 0, 0, 0, 0), (13, .aload_n 0, 0, 0, 0, 0), (14, .getfield 10, 2, 0, 0, 0), (17, .iload_n 2, 0, 0, 0, 0), (18, .ifCond .eq 11, 29, 0, 0, 0), (21, .aload 4, 0, 0, 0, 0), (23, .getfield 86, 0, 6, 0, 0), (26, .goto 8, 34, 0, 0, 0), (29, .aload 4, 0, 0, 0, 0), (31, .getfield 89, 0, 5, 0, 0), (34, .aload 4, 0, 0, 0, 0), (36, .getfield 92, 0, 2, 0, 0), (39, .iload_n 3, 0, 0, 0, 0), (40, .invokevirtual 95, 51, 4, 1, 0), (43, .ireturn, 0, 0, 0, 0)]
def xp_F_path : xm_M := (⟨"FibrePairs", "path", "(IZI)I"⟩, prog_1_method_11_code, 5, (some .int), [], xt_F_path_0)
def xt_N_step_0 : List xm_I := [(0, .iload_n 3, 0, 0, 0, 0), (1, .ifCond .lt 11, 12, 0, 0, 0), (4, .iload_n 3, 0, 0, 0, 0), (5, .iload_n 1, 0, 0, 0, 0), (6, .invokestatic 44, 52, 1, 0, 0), (9, .if_icmp .lt 5, 14, 0, 0, 0), (12, .iconst (-1), 0, 0, 0, 0), (13, .ireturn, 0, 0, 0, 0), (14, .iload_n 1, 0, 0, 0, 0), (15, .istore 4, 0, 0, 0, 0), (17, .iload_n 2, 0, 0, 0, 0), (18, .istore 5, 0, 0, 0, 0), (20, .aload_n 0, 0, 0, 0, 0), (21, .iload 4, 0, 0, 0, 0), (23, .iload 5, 0, 0, 0, 0), (25, .invokevirtual 50, 34, 3, 1, 0), (28, .istore 6, 0, 0, 0, 0), (30, .iconst 0, 0, 0, 0, 0), (31, .istore 7, 0, 0, 0, 0), (33, .iload 7, 0, 0, 0, 0), (35, .iload_n 3, 0, 0, 0, 0), (36, .if_icmp .ge 44, 80, 0, 0, 0), (39, .iload 6, 0, 0, 0, 0), (41, .iconst (-1), 0, 0, 0, 0), (42, .if_icmp .eq 38, 80, 0, 0, 0), (45, .iload 4, 0, 0, 0, 0), (47, .iconst 1, 0, 0, 0, 0), (48, .iload 6, 0, 0, 0, 0), (50, .ishl, 0, 0, 0, 0), (51, .ixor, 0, 0, 0, 0), (52, .istore 4, 0, 0, 0, 0), (54, .aload_n 0, 0, 0, 0, 0), (55, .iload 6, 0, 0, 0, 0), (57, .iload 5, 0, 0, 0, 0), (59, .invokevirtual 54, 35, 3, 1, 0), (62, .istore 5, 0, 0, 0, 0), (64, .aload_n 0, 0, 0, 0, 0), (65, .iload 4, 0, 0, 0, 0), (67, .iload 5, 0, 0, 0, 0), (69, .invokevirtual 50, 34, 3, 1, 0), (72, .istore 6, 0, 0, 0, 0), (74, .iinc 7 1, 0, 0, 0, 0), (77, .goto (-44), 33, 0, 0, 0), (80, .iload 6, 0, 0, 0, 0), (82, .ireturn, 0, 0, 0, 0)]
def xp_N_step : xm_M := (⟨"FibrePairs$Net", "step", "(III)I"⟩, prog_3_method_6_code, 8, (some .int), [], xt_N_step_0)
def xt_J_bitCount_0 : List xm_I := [(0, .iload_n 0, 0, 0, 0, 0), (1, .iload_n 0, 0, 0, 0, 0), (2, .iconst 1, 0, 0, 0, 0), (3, .iushr, 0, 0, 0, 0), (4, .ldc_w 265, 1431655765, 0, 0, 0), (7, .iand, 0, 0, 0, 0), (8, .isub, 0, 0, 0, 0), (9, .istore_n 0, 0, 0, 0, 0), (10, .iload_n 0, 0, 0, 0, 0), (11, .ldc_w 266, 858993459, 0, 0, 0), (14, .iand, 0, 0, 0, 0), (15, .iload_n 0, 0, 0, 0, 0), (16, .iconst 2, 0, 0, 0, 0), (17, .iushr, 0, 0, 0, 0), (18, .ldc_w 266, 858993459, 0, 0, 0), (21, .iand, 0, 0, 0, 0), (22, .iadd, 0, 0, 0, 0), (23, .istore_n 0, 0, 0, 0, 0), (24, .iload_n 0, 0, 0, 0, 0), (25, .iload_n 0, 0, 0, 0, 0), (26, .iconst 4, 0, 0, 0, 0), (27, .iushr, 0, 0, 0, 0), (28, .iadd, 0, 0, 0, 0), (29, .ldc_w 267, 252645135, 0, 0, 0), (32, .iand, 0, 0, 0, 0), (33, .istore_n 0, 0, 0, 0, 0), (34, .iload_n 0, 0, 0, 0, 0), (35, .iload_n 0, 0, 0, 0, 0), (36, .bipush 8, 0, 0, 0, 0), (38, .iushr, 0, 0, 0, 0), (39, .iadd, 0, 0, 0, 0), (40, .istore_n 0, 0, 0, 0, 0), (41, .iload_n 0, 0, 0, 0, 0), (42, .iload_n 0, 0, 0, 0, 0), (43, .bipush 16, 0, 0, 0, 0), (45, .iushr, 0, 0, 0, 0), (46, .iadd, 0, 0, 0, 0), (47, .istore_n 0, 0, 0, 0, 0), (48, .iload_n 0, 0, 0, 0, 0), (49, .bipush 63, 0, 0, 0, 0), (51, .iand, 0, 0, 0, 0), (52, .ireturn, 0, 0, 0, 0)]
def xp_J_bitCount : xm_M := (⟨"java/lang/Integer", "bitCount", "(I)I"⟩, prog_10_method_49_code, 1, (some .int), [], xt_J_bitCount_0)
def xt_L_about_0 : List xm_I := [(0, .aload_n 3, 0, 0, 0, 0), (1, .iconst 0, 0, 0, 0, 0), (2, .aload_n 0, 0, 0, 0, 0), (3, .iload_n 1, 0, 0, 0, 0), (4, .iload_n 2, 0, 0, 0, 0), (5, .invokevirtual 47, 54, 3, 2, 0), (8, .i2l, 0, 0, 0, 0), (9, .lastore, 0, 0, 0, 0), (10, .goto 11, 21, 0, 0, 0), (13, .astore 4, 0, 0, 0, 0), (15, .iconst 1, 0, 0, 0, 0), (16, .ireturn, 0, 0, 0, 0), (17, .astore 4, 0, 0, 0, 0), (19, .iconst 2, 0, 0, 0, 0), (20, .ireturn, 0, 0, 0, 0), (21, .iconst 0, 0, 0, 0, 0), (22, .ireturn, 0, 0, 0, 0)]
def xp_L_about : xm_M := (⟨"FibrePairsLaw", "about", "(LFibrePairs;II[J)I"⟩, method_12_code, 5, (some .int), [(0, 10, 13, 19, 5), (0, 10, 17, 13, 4)], xt_L_about_0)
def xt_F_about_0 : List xm_I := [(0, .aload_n 0, 0, 0, 0, 0), (1, .iload_n 1, 0, 0, 0, 0), (2, .invokevirtual 70, 39, 2, 2, 0), (5, .aload_n 0, 0, 0, 0, 0), (6, .getfield 18, 2, 1, 0, 0), (9, .iload_n 1, 0, 0, 0, 0), (10, .aaload, 0, 0, 0, 0), (11, .astore_n 3, 0, 0, 0, 0), (12, .iload_n 2, 0, 0, 0, 0), (13, .tableswitch 103 0 6 #[43, 48, 53, 58, 70, 93, 98], 0, 0, 43, 0), (56, .aload_n 3, 0, 0, 0, 0), (57, .getfield 98, 0, 4, 0, 0), (60, .ireturn, 0, 0, 0, 0), (61, .aload_n 3, 0, 0, 0, 0), (62, .getfield 92, 0, 2, 0, 0), (65, .ireturn, 0, 0, 0, 0), (66, .aload_n 3, 0, 0, 0, 0), (67, .getfield 101, 0, 3, 0, 0), (70, .ireturn, 0, 0, 0, 0), (71, .aload_n 0, 0, 0, 0, 0), (72, .getfield 10, 2, 0, 0, 0), (75, .aload_n 3, 0, 0, 0, 0), (76, .getfield 89, 0, 5, 0, 0), (79, .invokevirtual 104, 55, 2, 1, 0), (82, .ireturn, 0, 0, 0, 0), (83, .aload_n 3, 0, 0, 0, 0), (84, .getfield 108, 0, 1, 0, 0), (87, .ifCond .eq 17, 104, 0, 0, 0), (90, .aload_n 0, 0, 0, 0, 0), (91, .getfield 10, 2, 0, 0, 0), (94, .aload_n 3, 0, 0, 0, 0), (95, .getfield 86, 0, 6, 0, 0), (98, .invokevirtual 104, 55, 2, 1, 0), (101, .goto 4, 105, 0, 0, 0), (104, .iconst (-1), 0, 0, 0, 0), (105, .ireturn, 0, 0, 0, 0), (106, .aload_n 3, 0, 0, 0, 0), (107, .getfield 111, 0, 7, 0, 0), (110, .ireturn, 0, 0, 0, 0), (111, .aload_n 3, 0, 0, 0, 0), (112, .getfield 114, 0, 8, 0, 0), (115, .ireturn, 0, 0, 0, 0), (116, .new 23, 4, 25, 0, 1)]
def xp_F_about : xm_M := (⟨"FibrePairs", "about", "(II)I"⟩, prog_1_method_12_code, 4, (some .int), [], xt_F_about_0)
def xt_N_lengthOf_0 : List xm_I := [(0, .iconst 0, 0, 0, 0, 0), (1, .istore_n 2, 0, 0, 0, 0), (2, .iconst 0, 0, 0, 0, 0), (3, .istore_n 3, 0, 0, 0, 0), (4, .iload_n 3, 0, 0, 0, 0), (5, .aload_n 0, 0, 0, 0, 0), (6, .getfield 37, 1, 1, 0, 0), (9, .if_icmp .ge 26, 35, 0, 0, 0), (12, .iload_n 1, 0, 0, 0, 0), (13, .iload_n 3, 0, 0, 0, 0), (14, .invokestatic 40, 28, 2, 0, 0), (17, .ifCond .eq 12, 29, 0, 0, 0), (20, .iload_n 2, 0, 0, 0, 0), (21, .aload_n 0, 0, 0, 0, 0), (22, .getfield 22, 1, 4, 0, 0), (25, .iload_n 3, 0, 0, 0, 0), (26, .iaload, 0, 0, 0, 0), (27, .iadd, 0, 0, 0, 0), (28, .istore_n 2, 0, 0, 0, 0), (29, .iinc 3 1, 0, 0, 0, 0), (32, .goto (-28), 4, 0, 0, 0), (35, .iload_n 2, 0, 0, 0, 0), (36, .ireturn, 0, 0, 0, 0)]
def xp_N_lengthOf : xm_M := (⟨"FibrePairs$Net", "lengthOf", "(I)I"⟩, prog_3_method_5_code, 4, (some .int), [], xt_N_lengthOf_0)
def xt_L_user_0 : List xm_I := [(0, .aload_n 3, 0, 0, 0, 0), (1, .iconst 0, 0, 0, 0, 0), (2, .aload_n 0, 0, 0, 0, 0), (3, .iload_n 1, 0, 0, 0, 0), (4, .iload_n 2, 0, 0, 0, 0), (5, .invokevirtual 51, 57, 3, 2, 0), (8, .i2l, 0, 0, 0, 0), (9, .lastore, 0, 0, 0, 0), (10, .goto 7, 17, 0, 0, 0), (13, .astore 4, 0, 0, 0, 0), (15, .iconst 1, 0, 0, 0, 0), (16, .ireturn, 0, 0, 0, 0), (17, .iconst 0, 0, 0, 0, 0), (18, .ireturn, 0, 0, 0, 0)]
def xp_L_user : xm_M := (⟨"FibrePairsLaw", "user", "(LFibrePairs;II[J)I"⟩, method_13_code, 5, (some .int), [(0, 10, 13, 19, 5)], xt_L_user_0)
def xt_F_user_0 : List xm_I := [(0, .aload_n 0, 0, 0, 0, 0), (1, .iload_n 1, 0, 0, 0, 0), (2, .invokevirtual 73, 42, 2, 2, 0), (5, .iload_n 2, 0, 0, 0, 0), (6, .invokestatic 117, 58, 1, 0, 0), (9, .iconst 0, 0, 0, 0, 0), (10, .istore_n 3, 0, 0, 0, 0), (11, .iload_n 3, 0, 0, 0, 0), (12, .bipush 12, 0, 0, 0, 0), (14, .if_icmp .ge 28, 42, 0, 0, 0), (17, .aload_n 0, 0, 0, 0, 0), (18, .getfield 18, 2, 1, 0, 0), (21, .iload_n 3, 0, 0, 0, 0), (22, .aaload, 0, 0, 0, 0), (23, .iload_n 2, 0, 0, 0, 0), (24, .invokevirtual 120, 23, 2, 0, 0), (27, .iload_n 1, 0, 0, 0, 0), (28, .invokestatic 76, 28, 2, 0, 0), (31, .ifCond .eq 5, 36, 0, 0, 0), (34, .iload_n 3, 0, 0, 0, 0), (35, .ireturn, 0, 0, 0, 0), (36, .iinc 3 1, 0, 0, 0, 0), (39, .goto (-28), 11, 0, 0, 0), (42, .iconst (-1), 0, 0, 0, 0), (43, .ireturn, 0, 0, 0, 0)]
def xp_F_user : xm_M := (⟨"FibrePairs", "user", "(II)I"⟩, prog_1_method_13_code, 4, (some .int), [], xt_F_user_0)
def xt_F_requireWavelength_0 : List xm_I := [(0, .iload_n 0, 0, 0, 0, 0), (1, .ifCond .lt 8, 9, 0, 0, 0), (4, .iload_n 0, 0, 0, 0, 0), (5, .iconst 4, 0, 0, 0, 0), (6, .if_icmp .lt 11, 17, 0, 0, 0), (9, .new 143, 5, 145, 0, 1), (17, .return_, 0, 0, 0, 0)]
def xp_F_requireWavelength : xm_M := (⟨"FibrePairs", "requireWavelength", "(I)V"⟩, prog_1_method_22_code, 1, none, [], xt_F_requireWavelength_0)
def xt_L_move_0 : List xm_I := [(0, .aload_n 2, 0, 0, 0, 0), (1, .iconst 0, 0, 0, 0, 0), (2, .aload_n 0, 0, 0, 0, 0), (3, .iload_n 1, 0, 0, 0, 0), (4, .invokevirtual 54, 60, 2, 2, 0), (7, .i2l, 0, 0, 0, 0), (8, .lastore, 0, 0, 0, 0), (9, .goto 6, 15, 0, 0, 0), (12, .astore_n 3, 0, 0, 0, 0), (13, .iconst 1, 0, 0, 0, 0), (14, .ireturn, 0, 0, 0, 0), (15, .iconst 0, 0, 0, 0, 0), (16, .ireturn, 0, 0, 0, 0)]
def xp_L_move : xm_M := (⟨"FibrePairsLaw", "move", "(LFibrePairs;I[J)I"⟩, method_14_code, 4, (some .int), [(0, 9, 12, 19, 5)], xt_L_move_0)
def xt_F_move_0 : List xm_I := [(0, .aload_n 0, 0, 0, 0, 0), (1, .iload_n 1, 0, 0, 0, 0), (2, .invokevirtual 70, 39, 2, 2, 0), (5, .aload_n 0, 0, 0, 0, 0), (6, .getfield 18, 2, 1, 0, 0), (9, .iload_n 1, 0, 0, 0, 0), (10, .aaload, 0, 0, 0, 0), (11, .astore_n 2, 0, 0, 0, 0), (12, .aload_n 0, 0, 0, 0, 0), (13, .aload_n 2, 0, 0, 0, 0), (14, .aload_n 2, 0, 0, 0, 0), (15, .getfield 98, 0, 4, 0, 0), (18, .iconst 1, 0, 0, 0, 0), (19, .iadd, 0, 0, 0, 0), (20, .invokevirtual 66, 21, 3, 2, 0), (23, .ifCond .eq 10, 33, 0, 0, 0), (26, .aload_n 2, 0, 0, 0, 0), (27, .getfield 98, 0, 4, 0, 0), (30, .goto 4, 34, 0, 0, 0), (33, .iconst (-1), 0, 0, 0, 0), (34, .ireturn, 0, 0, 0, 0)]
def xp_F_move : xm_M := (⟨"FibrePairs", "move", "(I)I"⟩, prog_1_method_14_code, 3, (some .int), [], xt_F_move_0)
def xt_L_fits_0 : List xm_I := [(0, .aload_n 3, 0, 0, 0, 0), (1, .iconst 0, 0, 0, 0, 0), (2, .aload_n 0, 0, 0, 0, 0), (3, .iload_n 1, 0, 0, 0, 0), (4, .iload_n 2, 0, 0, 0, 0), (5, .invokevirtual 58, 62, 3, 2, 0), (8, .i2l, 0, 0, 0, 0), (9, .lastore, 0, 0, 0, 0), (10, .goto 11, 21, 0, 0, 0), (13, .astore 4, 0, 0, 0, 0), (15, .iconst 1, 0, 0, 0, 0), (16, .ireturn, 0, 0, 0, 0), (17, .astore 4, 0, 0, 0, 0), (19, .iconst 2, 0, 0, 0, 0), (20, .ireturn, 0, 0, 0, 0), (21, .iconst 0, 0, 0, 0, 0), (22, .ireturn, 0, 0, 0, 0)]
def xp_L_fits : xm_M := (⟨"FibrePairsLaw", "fits", "(LFibrePairs;II[J)I"⟩, method_15_code, 5, (some .int), [(0, 10, 13, 19, 5), (0, 10, 17, 13, 4)], xt_L_fits_0)
def xt_F_fits_0 : List xm_I := [(0, .aload_n 0, 0, 0, 0, 0), (1, .iload_n 1, 0, 0, 0, 0), (2, .iload_n 2, 0, 0, 0, 0), (3, .invokevirtual 44, 15, 3, 2, 0), (6, .iconst 0, 0, 0, 0, 0), (7, .istore_n 3, 0, 0, 0, 0), (8, .iconst 0, 0, 0, 0, 0), (9, .istore 4, 0, 0, 0, 0), (11, .iload 4, 0, 0, 0, 0), (13, .iconst 4, 0, 0, 0, 0), (14, .if_icmp .ge 30, 44, 0, 0, 0), (17, .aload_n 0, 0, 0, 0, 0), (18, .getfield 10, 2, 0, 0, 0), (21, .aload_n 0, 0, 0, 0, 0), (22, .iload 4, 0, 0, 0, 0), (24, .invokevirtual 123, 22, 2, 2, 0), (27, .iload_n 1, 0, 0, 0, 0), (28, .iload_n 2, 0, 0, 0, 0), (29, .invokevirtual 126, 25, 4, 1, 0), (32, .ifCond .eq 6, 38, 0, 0, 0), (35, .iinc 3 1, 0, 0, 0, 0), (38, .iinc 4 1, 0, 0, 0, 0), (41, .goto (-30), 11, 0, 0, 0), (44, .iload_n 3, 0, 0, 0, 0), (45, .ireturn, 0, 0, 0, 0)]
def xp_F_fits : xm_M := (⟨"FibrePairs", "fits", "(II)I"⟩, prog_1_method_15_code, 5, (some .int), [], xt_F_fits_0)
def xt_L_bridge_0 : List xm_I := [(0, .aload 4, 0, 0, 0, 0), (2, .iconst 0, 0, 0, 0, 0), (3, .aload_n 0, 0, 0, 0, 0), (4, .iload_n 1, 0, 0, 0, 0), (5, .iload_n 2, 0, 0, 0, 0), (6, .iload_n 3, 0, 0, 0, 0), (7, .invokevirtual 61, 64, 4, 2, 0), (10, .i2l, 0, 0, 0, 0), (11, .lastore, 0, 0, 0, 0), (12, .goto 11, 23, 0, 0, 0), (15, .astore 5, 0, 0, 0, 0), (17, .iconst 1, 0, 0, 0, 0), (18, .ireturn, 0, 0, 0, 0), (19, .astore 5, 0, 0, 0, 0), (21, .iconst 2, 0, 0, 0, 0), (22, .ireturn, 0, 0, 0, 0), (23, .iconst 0, 0, 0, 0, 0), (24, .ireturn, 0, 0, 0, 0)]
def xp_L_bridge : xm_M := (⟨"FibrePairsLaw", "bridge", "(LFibrePairs;III[J)I"⟩, method_16_code, 6, (some .int), [(0, 12, 15, 19, 5), (0, 12, 19, 13, 4)], xt_L_bridge_0)
def xt_F_bridge_0 : List xm_I := [(0, .iload_n 3, 0, 0, 0, 0), (1, .invokestatic 117, 58, 1, 0, 0), (4, .aload_n 0, 0, 0, 0, 0), (5, .iload_n 1, 0, 0, 0, 0), (6, .iload_n 2, 0, 0, 0, 0), (7, .invokevirtual 44, 15, 3, 2, 0), (10, .aload_n 0, 0, 0, 0, 0), (11, .iload_n 3, 0, 0, 0, 0), (12, .invokevirtual 123, 22, 2, 2, 0), (15, .istore 4, 0, 0, 0, 0), (17, .aload_n 0, 0, 0, 0, 0), (18, .getfield 10, 2, 0, 0, 0), (21, .iload 4, 0, 0, 0, 0), (23, .iload_n 1, 0, 0, 0, 0), (24, .iload_n 2, 0, 0, 0, 0), (25, .invokevirtual 129, 26, 4, 1, 0), (28, .istore 5, 0, 0, 0, 0), (30, .iload 5, 0, 0, 0, 0), (32, .ifCond .ne 5, 37, 0, 0, 0), (35, .iconst (-1), 0, 0, 0, 0), (36, .ireturn, 0, 0, 0, 0), (37, .iconst 0, 0, 0, 0, 0), (38, .istore 6, 0, 0, 0, 0), (40, .iload 6, 0, 0, 0, 0), (42, .aload_n 0, 0, 0, 0, 0), (43, .getfield 10, 2, 0, 0, 0), (46, .getfield 48, 1, 1, 0, 0), (49, .if_icmp .ge 41, 90, 0, 0, 0), (52, .iload 5, 0, 0, 0, 0), (54, .iload 6, 0, 0, 0, 0), (56, .invokestatic 76, 28, 2, 0, 0), (59, .ifCond .eq 25, 84, 0, 0, 0), (62, .aload_n 0, 0, 0, 0, 0), (63, .getfield 10, 2, 0, 0, 0), (66, .iload 4, 0, 0, 0, 0), (68, .iconst 1, 0, 0, 0, 0), (69, .iload 6, 0, 0, 0, 0), (71, .ishl, 0, 0, 0, 0), (72, .ixor, 0, 0, 0, 0), (73, .iload_n 1, 0, 0, 0, 0), (74, .iload_n 2, 0, 0, 0, 0), (75, .invokevirtual 129, 26, 4, 1, 0), (78, .ifCond .ne 6, 84, 0, 0, 0), (81, .iload 6, 0, 0, 0, 0), (83, .ireturn, 0, 0, 0, 0), (84, .iinc 6 1, 0, 0, 0, 0), (87, .goto (-47), 40, 0, 0, 0), (90, .bipush (-2), 0, 0, 0, 0), (92, .ireturn, 0, 0, 0, 0)]
def xp_F_bridge : xm_M := (⟨"FibrePairs", "bridge", "(III)I"⟩, prog_1_method_16_code, 7, (some .int), [], xt_F_bridge_0)
def xt_L_count_0 : List xm_I := [(0, .aload_n 2, 0, 0, 0, 0), (1, .iconst 0, 0, 0, 0, 0), (2, .aload_n 0, 0, 0, 0, 0), (3, .iload_n 1, 0, 0, 0, 0), (4, .invokevirtual 64, 66, 2, 2, 0), (7, .i2l, 0, 0, 0, 0), (8, .lastore, 0, 0, 0, 0), (9, .goto 6, 15, 0, 0, 0), (12, .astore_n 3, 0, 0, 0, 0), (13, .iconst 1, 0, 0, 0, 0), (14, .ireturn, 0, 0, 0, 0), (15, .iconst 0, 0, 0, 0, 0), (16, .ireturn, 0, 0, 0, 0)]
def xp_L_count : xm_M := (⟨"FibrePairsLaw", "count", "(LFibrePairs;I[J)I"⟩, method_17_code, 4, (some .int), [(0, 9, 12, 13, 4)], xt_L_count_0)
def xt_F_count_0 : List xm_I := [(0, .iload_n 1, 0, 0, 0, 0), (1, .tableswitch 72 0 4 #[35, 43, 51, 56, 64], 0, 0, 35, 0), (36, .aload_n 0, 0, 0, 0, 0), (37, .getfield 10, 2, 0, 0, 0), (40, .getfield 132, 1, 0, 0, 0), (43, .ireturn, 0, 0, 0, 0), (44, .aload_n 0, 0, 0, 0, 0), (45, .getfield 10, 2, 0, 0, 0), (48, .getfield 48, 1, 1, 0, 0), (51, .ireturn, 0, 0, 0, 0), (52, .aload_n 0, 0, 0, 0, 0), (53, .invokevirtual 135, 67, 1, 2, 0), (56, .ireturn, 0, 0, 0, 0), (57, .aload_n 0, 0, 0, 0, 0), (58, .getfield 34, 2, 2, 0, 0), (61, .invokestatic 138, 52, 1, 0, 0), (64, .ireturn, 0, 0, 0, 0), (65, .aload_n 0, 0, 0, 0, 0), (66, .getfield 38, 2, 3, 0, 0), (69, .invokestatic 138, 52, 1, 0, 0), (72, .ireturn, 0, 0, 0, 0), (73, .new 23, 4, 25, 0, 1)]
def xp_F_count : xm_M := (⟨"FibrePairs", "count", "(I)I"⟩, prog_1_method_18_code, 2, (some .int), [], xt_F_count_0)
def xt_F_connectionsThere_0 : List xm_I := [(0, .iconst 0, 0, 0, 0, 0), (1, .istore_n 1, 0, 0, 0, 0), (2, .iconst 0, 0, 0, 0, 0), (3, .istore_n 2, 0, 0, 0, 0), (4, .iload_n 2, 0, 0, 0, 0), (5, .bipush 12, 0, 0, 0, 0), (7, .if_icmp .ge 24, 31, 0, 0, 0), (10, .aload_n 0, 0, 0, 0, 0), (11, .getfield 18, 2, 1, 0, 0), (14, .iload_n 2, 0, 0, 0, 0), (15, .aaload, 0, 0, 0, 0), (16, .getfield 30, 0, 0, 0, 0), (19, .ifCond .eq 6, 25, 0, 0, 0), (22, .iinc 1 1, 0, 0, 0, 0), (25, .iinc 2 1, 0, 0, 0, 0), (28, .goto (-24), 4, 0, 0, 0), (31, .iload_n 1, 0, 0, 0, 0), (32, .ireturn, 0, 0, 0, 0)]
def xp_F_connectionsThere : xm_M := (⟨"FibrePairs", "connectionsThere", "()I"⟩, prog_1_method_25_code, 3, (some .int), [], xt_F_connectionsThere_0)
def xt_M_init_0 : List xm_I := [(0, .aload_n 0, 0, 0, 0, 0), (1, .invokespecial 1, 0, 0, 0, 1), (4, .aload_n 0, 0, 0, 0, 0), (5, .iconst 2, 0, 0, 0, 0), (6, .putfield 7, 3, 1, 0, 0), (9, .aload_n 0, 0, 0, 0, 0), (10, .bipush 28, 0, 0, 0, 0), (12, .newarray .int, 0, 0, 0, 0), (14, .putfield 13, 3, 3, 0, 2), (17, .aload_n 0, 0, 0, 0, 0), (18, .bipush 14, 0, 0, 0, 0), (20, .newarray .int, 0, 0, 0, 0), (22, .putfield 17, 3, 4, 0, 2), (25, .aload_n 0, 0, 0, 0, 0), (26, .bipush 14, 0, 0, 0, 0), (28, .newarray .boolean, 1, 0, 0, 0), (30, .putfield 20, 3, 5, 0, 2), (33, .aload_n 0, 0, 0, 0, 0), (34, .bipush 14, 0, 0, 0, 0), (36, .newarray .boolean, 1, 0, 0, 0), (38, .putfield 24, 3, 6, 0, 2), (41, .aload_n 0, 0, 0, 0, 0), (42, .bipush 12, 0, 0, 0, 0), (44, .newarray .boolean, 1, 0, 0, 0), (46, .putfield 27, 3, 8, 0, 2), (49, .aload_n 0, 0, 0, 0, 0), (50, .bipush 12, 0, 0, 0, 0), (52, .newarray .boolean, 1, 0, 0, 0), (54, .putfield 30, 3, 9, 0, 2), (57, .aload_n 0, 0, 0, 0, 0), (58, .bipush 12, 0, 0, 0, 0), (60, .newarray .int, 0, 0, 0, 0), (62, .putfield 33, 3, 10, 0, 2), (65, .aload_n 0, 0, 0, 0, 0), (66, .bipush 12, 0, 0, 0, 0), (68, .newarray .int, 0, 0, 0, 0), (70, .putfield 36, 3, 11, 0, 2), (73, .aload_n 0, 0, 0, 0, 0), (74, .bipush 12, 0, 0, 0, 0), (76, .newarray .int, 0, 0, 0, 0), (78, .putfield 39, 3, 12, 0, 2), (81, .aload_n 0, 0, 0, 0, 0), (82, .bipush 12, 0, 0, 0, 0), (84, .newarray .int, 0, 0, 0, 0), (86, .putfield 42, 3, 13, 0, 2), (89, .aload_n 0, 0, 0, 0, 0), (90, .bipush 12, 0, 0, 0, 0), (92, .newarray .int, 0, 0, 0, 0), (94, .putfield 45, 3, 14, 0, 2), (97, .aload_n 0, 0, 0, 0, 0), (98, .bipush 12, 0, 0, 0, 0), (100, .newarray .int, 0, 0, 0, 0), (102, .putfield 48, 3, 15, 0, 2), (105, .aload_n 0, 0, 0, 0, 0), (106, .bipush 12, 0, 0, 0, 0), (108, .newarray .int, 0, 0, 0, 0), (110, .putfield 51, 3, 16, 0, 2), (113, .aload_n 0, 0, 0, 0, 0), (114, .sipush 4000, 0, 0, 0, 0), (117, .newarray .int, 0, 0, 0, 0)]
def xt_M_init_1 : List xm_I := [(119, .putfield 54, 3, 18, 0, 2), (122, .aload_n 0, 0, 0, 0, 0), (123, .sipush 4000, 0, 0, 0, 0), (126, .newarray .int, 0, 0, 0, 0), (128, .putfield 57, 3, 19, 0, 2), (131, .aload_n 0, 0, 0, 0, 0), (132, .bipush 8, 0, 0, 0, 0), (134, .newarray .int, 0, 0, 0, 0), (136, .putfield 60, 3, 20, 0, 2), (139, .aload_n 0, 0, 0, 0, 0), (140, .bipush 8, 0, 0, 0, 0), (142, .newarray .int, 0, 0, 0, 0), (144, .putfield 63, 3, 21, 0, 2), (147, .return_, 0, 0, 0, 0)]
def xp_M_init : xm_M := (⟨"FibrePairsModel", "<init>", "()V"⟩, prog_5_method_1_code, 1, none, [], xt_M_init_0 ++ xt_M_init_1)
def xt_M_thrown_0 : List xm_I := [(0, .aload_n 0, 0, 0, 0, 0), (1, .getfield 66, 3, 0, 0, 0), (4, .ireturn, 0, 0, 0, 0)]
def xp_M_thrown : xm_M := (⟨"FibrePairsModel", "thrown", "()I"⟩, prog_5_method_2_code, 1, (some .int), [], xt_M_thrown_0)
def xt_M_clear_0 : List xm_I := [(0, .aload_n 0, 0, 0, 0, 0), (1, .iload_n 1, 0, 0, 0, 0), (2, .iconst 2, 0, 0, 0, 0), (3, .if_icmp .lt 9, 12, 0, 0, 0), (6, .iload_n 1, 0, 0, 0, 0), (7, .bipush 7, 0, 0, 0, 0), (9, .if_icmp .le 7, 16, 0, 0, 0), (12, .iconst 1, 0, 0, 0, 0), (13, .goto 4, 17, 0, 0, 0), (16, .iconst 0, 0, 0, 0, 0), (17, .putfield 66, 3, 0, 0, 0), (20, .aload_n 0, 0, 0, 0, 0), (21, .getfield 66, 3, 0, 0, 0), (24, .ifCond .le 4, 28, 0, 0, 0), (27, .return_, 0, 0, 0, 0), (28, .aload_n 0, 0, 0, 0, 0), (29, .iload_n 1, 0, 0, 0, 0), (30, .putfield 7, 3, 1, 0, 0), (33, .aload_n 0, 0, 0, 0, 0), (34, .iconst 0, 0, 0, 0, 0), (35, .putfield 69, 3, 2, 0, 0), (38, .aload_n 0, 0, 0, 0, 0), (39, .iconst 0, 0, 0, 0, 0), (40, .putfield 76, 3, 7, 0, 0), (43, .iconst 0, 0, 0, 0, 0), (44, .istore_n 2, 0, 0, 0, 0), (45, .iload_n 2, 0, 0, 0, 0), (46, .bipush 12, 0, 0, 0, 0), (48, .if_icmp .ge 16, 64, 0, 0, 0), (51, .aload_n 0, 0, 0, 0, 0), (52, .getfield 27, 3, 8, 0, 0), (55, .iload_n 2, 0, 0, 0, 0), (56, .iconst 0, 0, 0, 0, 0), (57, .bastore, 0, 0, 0, 0), (58, .iinc 2 1, 0, 0, 0, 0), (61, .goto (-16), 45, 0, 0, 0), (64, .return_, 0, 0, 0, 0)]
def xp_M_clear : xm_M := (⟨"FibrePairsModel", "clear", "(I)V"⟩, prog_5_method_9_code, 3, none, [], xt_M_clear_0)
def xt_M_fibre_0 : List xm_I := [(0, .aload_n 0, 0, 0, 0, 0), (1, .aload_n 0, 0, 0, 0, 0), (2, .iload_n 1, 0, 0, 0, 0), (3, .invokevirtual 79, 72, 2, 3, 0), (6, .ifCond .ne 11, 17, 0, 0, 0), (9, .aload_n 0, 0, 0, 0, 0), (10, .iload_n 2, 0, 0, 0, 0), (11, .invokevirtual 79, 72, 2, 3, 0), (14, .ifCond .eq 7, 21, 0, 0, 0), (17, .iconst 1, 0, 0, 0, 0), (18, .goto 37, 55, 0, 0, 0), (21, .iload_n 1, 0, 0, 0, 0), (22, .iload_n 2, 0, 0, 0, 0), (23, .if_icmp .eq 14, 37, 0, 0, 0), (26, .iload_n 3, 0, 0, 0, 0), (27, .iconst 1, 0, 0, 0, 0), (28, .if_icmp .lt 9, 37, 0, 0, 0), (31, .iload_n 3, 0, 0, 0, 0), (32, .bipush 100, 0, 0, 0, 0), (34, .if_icmp .le 7, 41, 0, 0, 0), (37, .iconst 2, 0, 0, 0, 0), (38, .goto 17, 55, 0, 0, 0), (41, .aload_n 0, 0, 0, 0, 0), (42, .getfield 69, 3, 2, 0, 0), (45, .bipush 14, 0, 0, 0, 0), (47, .if_icmp .ne 7, 54, 0, 0, 0), (50, .iconst 3, 0, 0, 0, 0), (51, .goto 4, 55, 0, 0, 0), (54, .iconst 0, 0, 0, 0, 0), (55, .putfield 66, 3, 0, 0, 0), (58, .aload_n 0, 0, 0, 0, 0), (59, .getfield 66, 3, 0, 0, 0), (62, .ifCond .le 5, 67, 0, 0, 0), (65, .iconst 0, 0, 0, 0, 0), (66, .ireturn, 0, 0, 0, 0), (67, .aload_n 0, 0, 0, 0, 0), (68, .getfield 13, 3, 3, 0, 0), (71, .iconst 2, 0, 0, 0, 0), (72, .aload_n 0, 0, 0, 0, 0), (73, .getfield 69, 3, 2, 0, 0), (76, .imul, 0, 0, 0, 0), (77, .iload_n 1, 0, 0, 0, 0), (78, .iastore, 0, 0, 0, 0), (79, .aload_n 0, 0, 0, 0, 0), (80, .getfield 13, 3, 3, 0, 0), (83, .iconst 2, 0, 0, 0, 0), (84, .aload_n 0, 0, 0, 0, 0), (85, .getfield 69, 3, 2, 0, 0), (88, .imul, 0, 0, 0, 0), (89, .iconst 1, 0, 0, 0, 0), (90, .iadd, 0, 0, 0, 0), (91, .iload_n 2, 0, 0, 0, 0), (92, .iastore, 0, 0, 0, 0), (93, .aload_n 0, 0, 0, 0, 0), (94, .getfield 17, 3, 4, 0, 0), (97, .aload_n 0, 0, 0, 0, 0), (98, .getfield 69, 3, 2, 0, 0), (101, .iload_n 3, 0, 0, 0, 0), (102, .iastore, 0, 0, 0, 0), (103, .aload_n 0, 0, 0, 0, 0)]
def xt_M_fibre_1 : List xm_I := [(104, .getfield 20, 3, 5, 0, 0), (107, .aload_n 0, 0, 0, 0, 0), (108, .getfield 69, 3, 2, 0, 0), (111, .iconst 0, 0, 0, 0, 0), (112, .bastore, 0, 0, 0, 0), (113, .aload_n 0, 0, 0, 0, 0), (114, .getfield 24, 3, 6, 0, 0), (117, .aload_n 0, 0, 0, 0, 0), (118, .getfield 69, 3, 2, 0, 0), (121, .iconst 0, 0, 0, 0, 0), (122, .bastore, 0, 0, 0, 0), (123, .aload_n 0, 0, 0, 0, 0), (124, .dup, 0, 0, 0, 0), (125, .getfield 69, 3, 2, 0, 0), (128, .iconst 1, 0, 0, 0, 0), (129, .iadd, 0, 0, 0, 0), (130, .putfield 69, 3, 2, 0, 0), (133, .aload_n 0, 0, 0, 0, 0), (134, .getfield 69, 3, 2, 0, 0), (137, .iconst 1, 0, 0, 0, 0), (138, .isub, 0, 0, 0, 0), (139, .ireturn, 0, 0, 0, 0)]
def xp_M_fibre : xm_M := (⟨"FibrePairsModel", "fibre", "(III)I"⟩, prog_5_method_10_code, 4, (some .int), [], xt_M_fibre_0 ++ xt_M_fibre_1)
def xt_M_noSite_0 : List xm_I := [(0, .iload_n 1, 0, 0, 0, 0), (1, .ifCond .lt 11, 12, 0, 0, 0), (4, .iload_n 1, 0, 0, 0, 0), (5, .aload_n 0, 0, 0, 0, 0), (6, .getfield 7, 3, 1, 0, 0), (9, .if_icmp .lt 7, 16, 0, 0, 0), (12, .iconst 1, 0, 0, 0, 0), (13, .goto 4, 17, 0, 0, 0), (16, .iconst 0, 0, 0, 0, 0), (17, .ireturn, 0, 0, 0, 1)]
def xp_M_noSite : xm_M := (⟨"FibrePairsModel", "noSite", "(I)Z"⟩, prog_5_method_3_code, 2, (some .boolean), [], xt_M_noSite_0)
def xt_M_request_0 : List xm_I := [(0, .aload_n 0, 0, 0, 0, 0), (1, .invokevirtual 122, 74, 1, 3, 0), (4, .istore 4, 0, 0, 0, 0), (6, .aload_n 0, 0, 0, 0, 0), (7, .aload_n 0, 0, 0, 0, 0), (8, .iload_n 1, 0, 0, 0, 0), (9, .invokevirtual 79, 72, 2, 3, 0), (12, .ifCond .ne 11, 23, 0, 0, 0), (15, .aload_n 0, 0, 0, 0, 0), (16, .iload_n 2, 0, 0, 0, 0), (17, .invokevirtual 79, 72, 2, 3, 0), (20, .ifCond .eq 7, 27, 0, 0, 0), (23, .iconst 1, 0, 0, 0, 0), (24, .goto 24, 48, 0, 0, 0), (27, .iload_n 1, 0, 0, 0, 0), (28, .iload_n 2, 0, 0, 0, 0), (29, .if_icmp .ne 7, 36, 0, 0, 0), (32, .iconst 2, 0, 0, 0, 0), (33, .goto 15, 48, 0, 0, 0), (36, .iload 4, 0, 0, 0, 0), (38, .bipush 12, 0, 0, 0, 0), (40, .if_icmp .ne 7, 47, 0, 0, 0), (43, .iconst 3, 0, 0, 0, 0), (44, .goto 4, 48, 0, 0, 0), (47, .iconst 0, 0, 0, 0, 0), (48, .putfield 66, 3, 0, 0, 0), (51, .aload_n 0, 0, 0, 0, 0), (52, .getfield 66, 3, 0, 0, 0), (55, .ifCond .le 5, 60, 0, 0, 0), (58, .iconst 0, 0, 0, 0, 0), (59, .ireturn, 0, 0, 0, 0), (60, .iconst 0, 0, 0, 0, 0), (61, .istore 5, 0, 0, 0, 0), (63, .iload 5, 0, 0, 0, 0), (65, .iconst 4, 0, 0, 0, 0), (66, .if_icmp .ge 64, 130, 0, 0, 0), (69, .aload_n 0, 0, 0, 0, 0), (70, .iload 5, 0, 0, 0, 0), (72, .iload_n 1, 0, 0, 0, 0), (73, .iload_n 2, 0, 0, 0, 0), (74, .iload_n 3, 0, 0, 0, 0), (75, .invokevirtual 126, 75, 5, 3, 0), (78, .ifCond .eq 46, 124, 0, 0, 0), (81, .aload_n 0, 0, 0, 0, 0), (82, .getfield 27, 3, 8, 0, 0), (85, .iload 4, 0, 0, 0, 0), (87, .iconst 1, 0, 0, 0, 0), (88, .bastore, 0, 0, 0, 0), (89, .aload_n 0, 0, 0, 0, 0), (90, .getfield 30, 3, 9, 0, 0), (93, .iload 4, 0, 0, 0, 0), (95, .iload_n 3, 0, 0, 0, 0), (96, .bastore, 0, 0, 0, 0), (97, .aload_n 0, 0, 0, 0, 0), (98, .getfield 33, 3, 10, 0, 0), (101, .iload 4, 0, 0, 0, 0), (103, .iload_n 1, 0, 0, 0, 0), (104, .iastore, 0, 0, 0, 0), (105, .aload_n 0, 0, 0, 0, 0), (106, .getfield 36, 3, 11, 0, 0)]
def xt_M_request_1 : List xm_I := [(109, .iload 4, 0, 0, 0, 0), (111, .iload_n 2, 0, 0, 0, 0), (112, .iastore, 0, 0, 0, 0), (113, .aload_n 0, 0, 0, 0, 0), (114, .iload 4, 0, 0, 0, 0), (116, .iload 5, 0, 0, 0, 0), (118, .invokevirtual 130, 85, 3, 3, 0), (121, .iload 4, 0, 0, 0, 0), (123, .ireturn, 0, 0, 0, 0), (124, .iinc 5 1, 0, 0, 0, 0), (127, .goto (-64), 63, 0, 0, 0), (130, .iconst (-1), 0, 0, 0, 0), (131, .ireturn, 0, 0, 0, 0)]
def xp_M_request : xm_M := (⟨"FibrePairsModel", "request", "(IIZ)I"⟩, prog_5_method_20_code, 6, (some .int), [], xt_M_request_0 ++ xt_M_request_1)
def xt_M_unused_0 : List xm_I := [(0, .iconst 0, 0, 0, 0, 0), (1, .istore_n 1, 0, 0, 0, 0), (2, .iload_n 1, 0, 0, 0, 0), (3, .bipush 12, 0, 0, 0, 0), (5, .if_icmp .ge 20, 25, 0, 0, 0), (8, .aload_n 0, 0, 0, 0, 0), (9, .getfield 27, 3, 8, 0, 0), (12, .iload_n 1, 0, 0, 0, 0), (13, .baload, 0, 0, 0, 0), (14, .ifCond .ne 5, 19, 0, 0, 0), (17, .iload_n 1, 0, 0, 0, 0), (18, .ireturn, 0, 0, 0, 0), (19, .iinc 1 1, 0, 0, 0, 0), (22, .goto (-20), 2, 0, 0, 0), (25, .bipush 12, 0, 0, 0, 0), (27, .ireturn, 0, 0, 0, 0)]
def xp_M_unused : xm_M := (⟨"FibrePairsModel", "unused", "()I"⟩, prog_5_method_18_code, 2, (some .int), [], xt_M_unused_0)
def xt_M_find_0 : List xm_I := [(0, .iload 4, 0, 0, 0, 0), (2, .ifCond .eq 17, 19, 0, 0, 0), (5, .aload_n 0, 0, 0, 0, 0), (6, .aload_n 0, 0, 0, 0, 0), (7, .iload_n 1, 0, 0, 0, 0), (8, .invokevirtual 112, 76, 2, 3, 0), (11, .iload_n 2, 0, 0, 0, 0), (12, .iload_n 3, 0, 0, 0, 0), (13, .invokevirtual 115, 79, 4, 3, 0), (16, .goto 14, 30, 0, 0, 0), (19, .aload_n 0, 0, 0, 0, 0), (20, .aload_n 0, 0, 0, 0, 0), (21, .iload_n 1, 0, 0, 0, 0), (22, .invokevirtual 112, 76, 2, 3, 0), (25, .iload_n 2, 0, 0, 0, 0), (26, .iload_n 3, 0, 0, 0, 0), (27, .invokevirtual 119, 84, 4, 3, 0), (30, .ireturn, 0, 0, 0, 1)]
def xp_M_find : xm_M := (⟨"FibrePairsModel", "find", "(IIIZ)Z"⟩, prog_5_method_17_code, 5, (some .boolean), [], xt_M_find_0)
def xt_M_free_0 : List xm_I := [(0, .iconst 0, 0, 0, 0, 0), (1, .istore_n 2, 0, 0, 0, 0), (2, .iconst 0, 0, 0, 0, 0), (3, .istore_n 3, 0, 0, 0, 0), (4, .iload_n 3, 0, 0, 0, 0), (5, .aload_n 0, 0, 0, 0, 0), (6, .getfield 69, 3, 2, 0, 0), (9, .if_icmp .ge 46, 55, 0, 0, 0), (12, .aload_n 0, 0, 0, 0, 0), (13, .getfield 20, 3, 5, 0, 0), (16, .iload_n 3, 0, 0, 0, 0), (17, .baload, 0, 0, 0, 0), (18, .ifCond .ne 29, 47, 0, 0, 0), (21, .aload_n 0, 0, 0, 0, 0), (22, .getfield 24, 3, 6, 0, 0), (25, .iload_n 3, 0, 0, 0, 0), (26, .baload, 0, 0, 0, 0), (27, .ifCond .ne 20, 47, 0, 0, 0), (30, .aload_n 0, 0, 0, 0, 0), (31, .iload_n 3, 0, 0, 0, 0), (32, .iload_n 1, 0, 0, 0, 0), (33, .invokevirtual 83, 77, 3, 3, 0), (36, .ifCond .ge 11, 47, 0, 0, 0), (39, .iload_n 2, 0, 0, 0, 0), (40, .iconst 1, 0, 0, 0, 0), (41, .iload_n 3, 0, 0, 0, 0), (42, .ishl, 0, 0, 0, 0), (43, .ior, 0, 0, 0, 0), (44, .goto 4, 48, 0, 0, 0), (47, .iload_n 2, 0, 0, 0, 0), (48, .istore_n 2, 0, 0, 0, 0), (49, .iinc 3 1, 0, 0, 0, 0), (52, .goto (-48), 4, 0, 0, 0), (55, .iload_n 2, 0, 0, 0, 0), (56, .ireturn, 0, 0, 0, 0)]
def xp_M_free : xm_M := (⟨"FibrePairsModel", "free", "(I)I"⟩, prog_5_method_12_code, 4, (some .int), [], xt_M_free_0)
def xt_M_userOf_0 : List xm_I := [(0, .iconst 0, 0, 0, 0, 0), (1, .istore_n 3, 0, 0, 0, 0), (2, .iload_n 3, 0, 0, 0, 0), (3, .bipush 12, 0, 0, 0, 0), (5, .if_icmp .ge 51, 56, 0, 0, 0), (8, .aload_n 0, 0, 0, 0, 0), (9, .getfield 27, 3, 8, 0, 0), (12, .iload_n 3, 0, 0, 0, 0), (13, .baload, 0, 0, 0, 0), (14, .ifCond .eq 36, 50, 0, 0, 0), (17, .aload_n 0, 0, 0, 0, 0), (18, .getfield 39, 3, 12, 0, 0), (21, .iload_n 3, 0, 0, 0, 0), (22, .iaload, 0, 0, 0, 0), (23, .iload_n 2, 0, 0, 0, 0), (24, .if_icmp .ne 26, 50, 0, 0, 0), (27, .aload_n 0, 0, 0, 0, 0), (28, .getfield 42, 3, 13, 0, 0), (31, .iload_n 3, 0, 0, 0, 0), (32, .iaload, 0, 0, 0, 0), (33, .aload_n 0, 0, 0, 0, 0), (34, .getfield 45, 3, 14, 0, 0), (37, .iload_n 3, 0, 0, 0, 0), (38, .iaload, 0, 0, 0, 0), (39, .ior, 0, 0, 0, 0), (40, .iload_n 1, 0, 0, 0, 0), (41, .invokestatic 72, 78, 2, 0, 0), (44, .iconst 1, 0, 0, 0, 0), (45, .if_icmp .ne 5, 50, 0, 0, 0), (48, .iload_n 3, 0, 0, 0, 0), (49, .ireturn, 0, 0, 0, 0), (50, .iinc 3 1, 0, 0, 0, 0), (53, .goto (-51), 2, 0, 0, 0), (56, .iconst (-1), 0, 0, 0, 0), (57, .ireturn, 0, 0, 0, 0)]
def xp_M_userOf : xm_M := (⟨"FibrePairsModel", "userOf", "(II)I"⟩, prog_5_method_11_code, 4, (some .int), [], xt_M_userOf_0)
def xt_M_bit_0 : List xm_I := [(0, .iload_n 0, 0, 0, 0, 0), (1, .iload_n 1, 0, 0, 0, 0), (2, .ishr, 0, 0, 0, 0), (3, .iconst 1, 0, 0, 0, 0), (4, .iand, 0, 0, 0, 0), (5, .ireturn, 0, 0, 0, 0)]
def xp_M_bit : xm_M := (⟨"FibrePairsModel", "bit", "(II)I"⟩, prog_5_method_6_code, 2, (some .int), [], xt_M_bit_0)
def xt_M_findPair_0 : List xm_I := [(0, .aload_n 0, 0, 0, 0, 0), (1, .iload_n 1, 0, 0, 0, 0), (2, .iload_n 2, 0, 0, 0, 0), (3, .iload_n 3, 0, 0, 0, 0), (4, .invokevirtual 97, 80, 4, 3, 0), (7, .iconst 0, 0, 0, 0, 0), (8, .istore 4, 0, 0, 0, 0), (10, .ldc 111, 100000, 0, 0, 0), (12, .istore 5, 0, 0, 0, 0), (14, .iconst 0, 0, 0, 0, 0), (15, .istore 6, 0, 0, 0, 0), (17, .iload 6, 0, 0, 0, 0), (19, .aload_n 0, 0, 0, 0, 0), (20, .getfield 86, 3, 17, 0, 0), (23, .if_icmp .ge 118, 141, 0, 0, 0), (26, .iconst 0, 0, 0, 0, 0), (27, .istore 7, 0, 0, 0, 0), (29, .iload 7, 0, 0, 0, 0), (31, .iload 6, 0, 0, 0, 0), (33, .if_icmp .ge 102, 135, 0, 0, 0), (36, .aload_n 0, 0, 0, 0, 0), (37, .getfield 57, 3, 19, 0, 0), (40, .iload 6, 0, 0, 0, 0), (42, .iaload, 0, 0, 0, 0), (43, .aload_n 0, 0, 0, 0, 0), (44, .getfield 57, 3, 19, 0, 0), (47, .iload 7, 0, 0, 0, 0), (49, .iaload, 0, 0, 0, 0), (50, .iadd, 0, 0, 0, 0), (51, .istore 8, 0, 0, 0, 0), (53, .aload_n 0, 0, 0, 0, 0), (54, .getfield 54, 3, 18, 0, 0), (57, .iload 6, 0, 0, 0, 0), (59, .iaload, 0, 0, 0, 0), (60, .aload_n 0, 0, 0, 0, 0), (61, .getfield 54, 3, 18, 0, 0), (64, .iload 7, 0, 0, 0, 0), (66, .iaload, 0, 0, 0, 0), (67, .iand, 0, 0, 0, 0), (68, .ifCond .ne 61, 129, 0, 0, 0), (71, .iload 8, 0, 0, 0, 0), (73, .iload 5, 0, 0, 0, 0), (75, .if_icmp .lt 33, 108, 0, 0, 0), (78, .iload 8, 0, 0, 0, 0), (80, .iload 5, 0, 0, 0, 0), (82, .if_icmp .ne 47, 129, 0, 0, 0), (85, .aload_n 0, 0, 0, 0, 0), (86, .getfield 54, 3, 18, 0, 0), (89, .iload 6, 0, 0, 0, 0), (91, .iaload, 0, 0, 0, 0), (92, .aload_n 0, 0, 0, 0, 0), (93, .getfield 54, 3, 18, 0, 0), (96, .iload 7, 0, 0, 0, 0), (98, .iaload, 0, 0, 0, 0), (99, .ior, 0, 0, 0, 0), (100, .iload 4, 0, 0, 0, 0), (102, .invokestatic 101, 83, 2, 0, 0), (105, .ifCond .eq 24, 129, 0, 0, 0), (108, .iload 8, 0, 0, 0, 0), (110, .istore 5, 0, 0, 0, 0)]
def xt_M_findPair_1 : List xm_I := [(112, .aload_n 0, 0, 0, 0, 0), (113, .getfield 54, 3, 18, 0, 0), (116, .iload 6, 0, 0, 0, 0), (118, .iaload, 0, 0, 0, 0), (119, .aload_n 0, 0, 0, 0, 0), (120, .getfield 54, 3, 18, 0, 0), (123, .iload 7, 0, 0, 0, 0), (125, .iaload, 0, 0, 0, 0), (126, .ior, 0, 0, 0, 0), (127, .istore 4, 0, 0, 0, 0), (129, .iinc 7 1, 0, 0, 0, 0), (132, .goto (-103), 29, 0, 0, 0), (135, .iinc 6 1, 0, 0, 0, 0), (138, .goto (-121), 17, 0, 0, 0), (141, .iload 4, 0, 0, 0, 0), (143, .ifCond .ne 5, 148, 0, 0, 0), (146, .iconst 0, 0, 0, 0, 0), (147, .ireturn, 0, 0, 0, 1), (148, .iconst (-1), 0, 0, 0, 0), (149, .istore 6, 0, 0, 0, 0), (151, .iconst 0, 0, 0, 0, 0), (152, .istore 7, 0, 0, 0, 0), (154, .iload 7, 0, 0, 0, 0), (156, .aload_n 0, 0, 0, 0, 0), (157, .getfield 86, 3, 17, 0, 0), (160, .if_icmp .ge 213, 373, 0, 0, 0), (163, .iconst 0, 0, 0, 0, 0), (164, .istore 8, 0, 0, 0, 0), (166, .iload 8, 0, 0, 0, 0), (168, .aload_n 0, 0, 0, 0, 0), (169, .getfield 86, 3, 17, 0, 0), (172, .if_icmp .ge 195, 367, 0, 0, 0), (175, .iload 7, 0, 0, 0, 0), (177, .iload 8, 0, 0, 0, 0), (179, .if_icmp .eq 45, 224, 0, 0, 0), (182, .aload_n 0, 0, 0, 0, 0), (183, .getfield 54, 3, 18, 0, 0), (186, .iload 7, 0, 0, 0, 0), (188, .iaload, 0, 0, 0, 0), (189, .aload_n 0, 0, 0, 0, 0), (190, .getfield 54, 3, 18, 0, 0), (193, .iload 8, 0, 0, 0, 0), (195, .iaload, 0, 0, 0, 0), (196, .iand, 0, 0, 0, 0), (197, .ifCond .ne 27, 224, 0, 0, 0), (200, .aload_n 0, 0, 0, 0, 0), (201, .getfield 54, 3, 18, 0, 0), (204, .iload 7, 0, 0, 0, 0), (206, .iaload, 0, 0, 0, 0), (207, .aload_n 0, 0, 0, 0, 0), (208, .getfield 54, 3, 18, 0, 0), (211, .iload 8, 0, 0, 0, 0), (213, .iaload, 0, 0, 0, 0), (214, .ior, 0, 0, 0, 0), (215, .iload 4, 0, 0, 0, 0), (217, .if_icmp .ne 7, 224, 0, 0, 0), (220, .iconst 1, 0, 0, 0, 0), (221, .goto 4, 225, 0, 0, 0), (224, .iconst 0, 0, 0, 0, 0), (225, .istore 9, 0, 0, 0, 0)]
def xt_M_findPair_2 : List xm_I := [(227, .aload_n 0, 0, 0, 0, 0), (228, .getfield 57, 3, 19, 0, 0), (231, .iload 7, 0, 0, 0, 0), (233, .iaload, 0, 0, 0, 0), (234, .aload_n 0, 0, 0, 0, 0), (235, .getfield 57, 3, 19, 0, 0), (238, .iload 8, 0, 0, 0, 0), (240, .iaload, 0, 0, 0, 0), (241, .if_icmp .lt 40, 281, 0, 0, 0), (244, .aload_n 0, 0, 0, 0, 0), (245, .getfield 57, 3, 19, 0, 0), (248, .iload 7, 0, 0, 0, 0), (250, .iaload, 0, 0, 0, 0), (251, .aload_n 0, 0, 0, 0, 0), (252, .getfield 57, 3, 19, 0, 0), (255, .iload 8, 0, 0, 0, 0), (257, .iaload, 0, 0, 0, 0), (258, .if_icmp .ne 27, 285, 0, 0, 0), (261, .aload_n 0, 0, 0, 0, 0), (262, .getfield 54, 3, 18, 0, 0), (265, .iload 7, 0, 0, 0, 0), (267, .iaload, 0, 0, 0, 0), (268, .aload_n 0, 0, 0, 0, 0), (269, .getfield 54, 3, 18, 0, 0), (272, .iload 8, 0, 0, 0, 0), (274, .iaload, 0, 0, 0, 0), (275, .invokestatic 101, 83, 2, 0, 0), (278, .ifCond .eq 7, 285, 0, 0, 0), (281, .iconst 1, 0, 0, 0, 0), (282, .goto 4, 286, 0, 0, 0), (285, .iconst 0, 0, 0, 0, 0), (286, .istore 10, 0, 0, 0, 0), (288, .iload 9, 0, 0, 0, 0), (290, .ifCond .eq 71, 361, 0, 0, 0), (293, .iload 10, 0, 0, 0, 0), (295, .ifCond .eq 66, 361, 0, 0, 0), (298, .iload 6, 0, 0, 0, 0), (300, .ifCond .lt 57, 357, 0, 0, 0), (303, .aload_n 0, 0, 0, 0, 0), (304, .getfield 57, 3, 19, 0, 0), (307, .iload 7, 0, 0, 0, 0), (309, .iaload, 0, 0, 0, 0), (310, .aload_n 0, 0, 0, 0, 0), (311, .getfield 57, 3, 19, 0, 0), (314, .iload 6, 0, 0, 0, 0), (316, .iaload, 0, 0, 0, 0), (317, .if_icmp .lt 40, 357, 0, 0, 0), (320, .aload_n 0, 0, 0, 0, 0), (321, .getfield 57, 3, 19, 0, 0), (324, .iload 7, 0, 0, 0, 0), (326, .iaload, 0, 0, 0, 0), (327, .aload_n 0, 0, 0, 0, 0), (328, .getfield 57, 3, 19, 0, 0), (331, .iload 6, 0, 0, 0, 0), (333, .iaload, 0, 0, 0, 0), (334, .if_icmp .ne 27, 361, 0, 0, 0), (337, .aload_n 0, 0, 0, 0, 0), (338, .getfield 54, 3, 18, 0, 0), (341, .iload 7, 0, 0, 0, 0), (343, .iaload, 0, 0, 0, 0)]
def xt_M_findPair_3 : List xm_I := [(344, .aload_n 0, 0, 0, 0, 0), (345, .getfield 54, 3, 18, 0, 0), (348, .iload 6, 0, 0, 0, 0), (350, .iaload, 0, 0, 0, 0), (351, .invokestatic 101, 83, 2, 0, 0), (354, .ifCond .eq 7, 361, 0, 0, 0), (357, .iload 7, 0, 0, 0, 0), (359, .istore 6, 0, 0, 0, 0), (361, .iinc 8 1, 0, 0, 0, 0), (364, .goto (-198), 166, 0, 0, 0), (367, .iinc 7 1, 0, 0, 0, 0), (370, .goto (-216), 154, 0, 0, 0), (373, .aload_n 0, 0, 0, 0, 0), (374, .aload_n 0, 0, 0, 0, 0), (375, .getfield 54, 3, 18, 0, 0), (378, .iload 6, 0, 0, 0, 0), (380, .iaload, 0, 0, 0, 0), (381, .putfield 105, 3, 22, 0, 0), (384, .aload_n 0, 0, 0, 0, 0), (385, .iload 4, 0, 0, 0, 0), (387, .aload_n 0, 0, 0, 0, 0), (388, .getfield 54, 3, 18, 0, 0), (391, .iload 6, 0, 0, 0, 0), (393, .iaload, 0, 0, 0, 0), (394, .iconst (-1), 0, 0, 0, 0), (395, .ixor, 0, 0, 0, 0), (396, .iand, 0, 0, 0, 0), (397, .putfield 108, 3, 23, 0, 0), (400, .iconst 1, 0, 0, 0, 0), (401, .ireturn, 0, 0, 0, 1)]
def xp_M_findPair : xm_M := (⟨"FibrePairsModel", "findPair", "(III)Z"⟩, prog_5_method_16_code, 11, (some .boolean), [], xt_M_findPair_0 ++ xt_M_findPair_1 ++ xt_M_findPair_2 ++ xt_M_findPair_3)
def xt_M_list_0 : List xm_I := [(0, .aload_n 0, 0, 0, 0, 0), (1, .iconst 0, 0, 0, 0, 0), (2, .putfield 86, 3, 17, 0, 0), (5, .iconst 0, 0, 0, 0, 0), (6, .istore 4, 0, 0, 0, 0), (8, .iconst 0, 0, 0, 0, 0), (9, .istore 5, 0, 0, 0, 0), (11, .aload_n 0, 0, 0, 0, 0), (12, .getfield 60, 3, 20, 0, 0), (15, .iconst 0, 0, 0, 0, 0), (16, .iload_n 2, 0, 0, 0, 0), (17, .iastore, 0, 0, 0, 0), (18, .aload_n 0, 0, 0, 0, 0), (19, .getfield 63, 3, 21, 0, 0), (22, .iconst 0, 0, 0, 0, 0), (23, .iconst 0, 0, 0, 0, 0), (24, .iastore, 0, 0, 0, 0), (25, .iload 4, 0, 0, 0, 0), (27, .ifCond .lt 167, 194, 0, 0, 0), (30, .aload_n 0, 0, 0, 0, 0), (31, .getfield 63, 3, 21, 0, 0), (34, .iload 4, 0, 0, 0, 0), (36, .iaload, 0, 0, 0, 0), (37, .istore 6, 0, 0, 0, 0), (39, .aload_n 0, 0, 0, 0, 0), (40, .getfield 60, 3, 20, 0, 0), (43, .iload 4, 0, 0, 0, 0), (45, .iaload, 0, 0, 0, 0), (46, .iload_n 3, 0, 0, 0, 0), (47, .if_icmp .eq 12, 59, 0, 0, 0), (50, .iload 6, 0, 0, 0, 0), (52, .aload_n 0, 0, 0, 0, 0), (53, .getfield 69, 3, 2, 0, 0), (56, .if_icmp .ne 79, 135, 0, 0, 0), (59, .aload_n 0, 0, 0, 0, 0), (60, .getfield 60, 3, 20, 0, 0), (63, .iload 4, 0, 0, 0, 0), (65, .iaload, 0, 0, 0, 0), (66, .iload_n 3, 0, 0, 0, 0), (67, .if_icmp .ne 39, 106, 0, 0, 0), (70, .aload_n 0, 0, 0, 0, 0), (71, .getfield 54, 3, 18, 0, 0), (74, .aload_n 0, 0, 0, 0, 0), (75, .getfield 86, 3, 17, 0, 0), (78, .iload 5, 0, 0, 0, 0), (80, .iastore, 0, 0, 0, 0), (81, .aload_n 0, 0, 0, 0, 0), (82, .getfield 57, 3, 19, 0, 0), (85, .aload_n 0, 0, 0, 0, 0), (86, .getfield 86, 3, 17, 0, 0), (89, .aload_n 0, 0, 0, 0, 0), (90, .iload 5, 0, 0, 0, 0), (92, .invokevirtual 89, 81, 2, 3, 0), (95, .iastore, 0, 0, 0, 0), (96, .aload_n 0, 0, 0, 0, 0), (97, .dup, 0, 0, 0, 0), (98, .getfield 86, 3, 17, 0, 0), (101, .iconst 1, 0, 0, 0, 0), (102, .iadd, 0, 0, 0, 0), (103, .putfield 86, 3, 17, 0, 0)]
def xt_M_list_1 : List xm_I := [(106, .iinc 4 (-1), 0, 0, 0, 0), (109, .iload 4, 0, 0, 0, 0), (111, .ifCond .lt 80, 191, 0, 0, 0), (114, .iload 5, 0, 0, 0, 0), (116, .iconst 1, 0, 0, 0, 0), (117, .aload_n 0, 0, 0, 0, 0), (118, .getfield 63, 3, 21, 0, 0), (121, .iload 4, 0, 0, 0, 0), (123, .iaload, 0, 0, 0, 0), (124, .iconst 1, 0, 0, 0, 0), (125, .isub, 0, 0, 0, 0), (126, .ishl, 0, 0, 0, 0), (127, .iconst (-1), 0, 0, 0, 0), (128, .ixor, 0, 0, 0, 0), (129, .iand, 0, 0, 0, 0), (130, .istore 5, 0, 0, 0, 0), (132, .goto 59, 191, 0, 0, 0), (135, .aload_n 0, 0, 0, 0, 0), (136, .getfield 63, 3, 21, 0, 0), (139, .iload 4, 0, 0, 0, 0), (141, .iload 6, 0, 0, 0, 0), (143, .iconst 1, 0, 0, 0, 0), (144, .iadd, 0, 0, 0, 0), (145, .iastore, 0, 0, 0, 0), (146, .aload_n 0, 0, 0, 0, 0), (147, .iload_n 1, 0, 0, 0, 0), (148, .iload 6, 0, 0, 0, 0), (150, .iload 4, 0, 0, 0, 0), (152, .invokevirtual 93, 82, 4, 3, 0), (155, .istore 7, 0, 0, 0, 0), (157, .iload 7, 0, 0, 0, 0), (159, .ifCond .lt 32, 191, 0, 0, 0), (162, .iload 5, 0, 0, 0, 0), (164, .iconst 1, 0, 0, 0, 0), (165, .iload 6, 0, 0, 0, 0), (167, .ishl, 0, 0, 0, 0), (168, .ior, 0, 0, 0, 0), (169, .istore 5, 0, 0, 0, 0), (171, .iinc 4 1, 0, 0, 0, 0), (174, .aload_n 0, 0, 0, 0, 0), (175, .getfield 60, 3, 20, 0, 0), (178, .iload 4, 0, 0, 0, 0), (180, .iload 7, 0, 0, 0, 0), (182, .iastore, 0, 0, 0, 0), (183, .aload_n 0, 0, 0, 0, 0), (184, .getfield 63, 3, 21, 0, 0), (187, .iload 4, 0, 0, 0, 0), (189, .iconst 0, 0, 0, 0, 0), (190, .iastore, 0, 0, 0, 0), (191, .goto (-166), 25, 0, 0, 0), (194, .return_, 0, 0, 0, 0)]
def xp_M_list : xm_M := (⟨"FibrePairsModel", "list", "(III)V"⟩, prog_5_method_14_code, 8, none, [], xt_M_list_0 ++ xt_M_list_1)
def xt_M_lengthOf_0 : List xm_I := [(0, .iconst 0, 0, 0, 0, 0), (1, .istore_n 2, 0, 0, 0, 0), (2, .iconst 0, 0, 0, 0, 0), (3, .istore_n 3, 0, 0, 0, 0), (4, .iload_n 3, 0, 0, 0, 0), (5, .aload_n 0, 0, 0, 0, 0), (6, .getfield 69, 3, 2, 0, 0), (9, .if_icmp .ge 24, 33, 0, 0, 0), (12, .iload_n 2, 0, 0, 0, 0), (13, .iload_n 1, 0, 0, 0, 0), (14, .iload_n 3, 0, 0, 0, 0), (15, .invokestatic 72, 78, 2, 0, 0), (18, .aload_n 0, 0, 0, 0, 0), (19, .getfield 17, 3, 4, 0, 0), (22, .iload_n 3, 0, 0, 0, 0), (23, .iaload, 0, 0, 0, 0), (24, .imul, 0, 0, 0, 0), (25, .iadd, 0, 0, 0, 0), (26, .istore_n 2, 0, 0, 0, 0), (27, .iinc 3 1, 0, 0, 0, 0), (30, .goto (-26), 4, 0, 0, 0), (33, .iload_n 2, 0, 0, 0, 0), (34, .ireturn, 0, 0, 0, 0)]
def xp_M_lengthOf : xm_M := (⟨"FibrePairsModel", "lengthOf", "(I)I"⟩, prog_5_method_7_code, 4, (some .int), [], xt_M_lengthOf_0)
def xt_M_leads_0 : List xm_I := [(0, .iload_n 1, 0, 0, 0, 0), (1, .iload_n 2, 0, 0, 0, 0), (2, .invokestatic 72, 78, 2, 0, 0), (5, .ifCond .ne 5, 10, 0, 0, 0), (8, .iconst (-1), 0, 0, 0, 0), (9, .ireturn, 0, 0, 0, 0), (10, .aload_n 0, 0, 0, 0, 0), (11, .getfield 60, 3, 20, 0, 0), (14, .iload_n 3, 0, 0, 0, 0), (15, .iaload, 0, 0, 0, 0), (16, .istore 4, 0, 0, 0, 0), (18, .aload_n 0, 0, 0, 0, 0), (19, .getfield 13, 3, 3, 0, 0), (22, .iconst 2, 0, 0, 0, 0), (23, .iload_n 2, 0, 0, 0, 0), (24, .imul, 0, 0, 0, 0), (25, .iaload, 0, 0, 0, 0), (26, .iload 4, 0, 0, 0, 0), (28, .if_icmp .eq 20, 48, 0, 0, 0), (31, .aload_n 0, 0, 0, 0, 0), (32, .getfield 13, 3, 3, 0, 0), (35, .iconst 2, 0, 0, 0, 0), (36, .iload_n 2, 0, 0, 0, 0), (37, .imul, 0, 0, 0, 0), (38, .iconst 1, 0, 0, 0, 0), (39, .iadd, 0, 0, 0, 0), (40, .iaload, 0, 0, 0, 0), (41, .iload 4, 0, 0, 0, 0), (43, .if_icmp .eq 5, 48, 0, 0, 0), (46, .iconst (-1), 0, 0, 0, 0), (47, .ireturn, 0, 0, 0, 0), (48, .aload_n 0, 0, 0, 0, 0), (49, .getfield 13, 3, 3, 0, 0), (52, .iconst 2, 0, 0, 0, 0), (53, .iload_n 2, 0, 0, 0, 0), (54, .imul, 0, 0, 0, 0), (55, .iaload, 0, 0, 0, 0), (56, .iload 4, 0, 0, 0, 0), (58, .if_icmp .ne 16, 74, 0, 0, 0), (61, .aload_n 0, 0, 0, 0, 0), (62, .getfield 13, 3, 3, 0, 0), (65, .iconst 2, 0, 0, 0, 0), (66, .iload_n 2, 0, 0, 0, 0), (67, .imul, 0, 0, 0, 0), (68, .iconst 1, 0, 0, 0, 0), (69, .iadd, 0, 0, 0, 0), (70, .iaload, 0, 0, 0, 0), (71, .goto 11, 82, 0, 0, 0), (74, .aload_n 0, 0, 0, 0, 0), (75, .getfield 13, 3, 3, 0, 0), (78, .iconst 2, 0, 0, 0, 0), (79, .iload_n 2, 0, 0, 0, 0), (80, .imul, 0, 0, 0, 0), (81, .iaload, 0, 0, 0, 0), (82, .istore 5, 0, 0, 0, 0), (84, .iconst 0, 0, 0, 0, 0), (85, .istore 6, 0, 0, 0, 0), (87, .iload 6, 0, 0, 0, 0), (89, .iload_n 3, 0, 0, 0, 0), (90, .if_icmp .gt 23, 113, 0, 0, 0)]
def xt_M_leads_1 : List xm_I := [(93, .aload_n 0, 0, 0, 0, 0), (94, .getfield 60, 3, 20, 0, 0), (97, .iload 6, 0, 0, 0, 0), (99, .iaload, 0, 0, 0, 0), (100, .iload 5, 0, 0, 0, 0), (102, .if_icmp .ne 5, 107, 0, 0, 0), (105, .iconst (-1), 0, 0, 0, 0), (106, .ireturn, 0, 0, 0, 0), (107, .iinc 6 1, 0, 0, 0, 0), (110, .goto (-23), 87, 0, 0, 0), (113, .iload 5, 0, 0, 0, 0), (115, .ireturn, 0, 0, 0, 0)]
def xp_M_leads : xm_M := (⟨"FibrePairsModel", "leads", "(III)I"⟩, prog_5_method_13_code, 7, (some .int), [], xt_M_leads_0 ++ xt_M_leads_1)
def xt_M_before_0 : List xm_I := [(0, .iconst 0, 0, 0, 0, 0), (1, .istore_n 2, 0, 0, 0, 0), (2, .iload_n 2, 0, 0, 0, 0), (3, .bipush 14, 0, 0, 0, 0), (5, .if_icmp .ge 74, 79, 0, 0, 0), (8, .iload_n 0, 0, 0, 0, 0), (9, .iload_n 2, 0, 0, 0, 0), (10, .invokestatic 72, 78, 2, 0, 0), (13, .iload_n 1, 0, 0, 0, 0), (14, .iload_n 2, 0, 0, 0, 0), (15, .invokestatic 72, 78, 2, 0, 0), (18, .if_icmp .eq 55, 73, 0, 0, 0), (21, .iload_n 0, 0, 0, 0, 0), (22, .iload_n 2, 0, 0, 0, 0), (23, .invokestatic 72, 78, 2, 0, 0), (26, .iconst 1, 0, 0, 0, 0), (27, .if_icmp .ne 7, 34, 0, 0, 0), (30, .iconst 1, 0, 0, 0, 0), (31, .goto 4, 35, 0, 0, 0), (34, .iconst 0, 0, 0, 0, 0), (35, .istore_n 3, 0, 0, 0, 0), (36, .iload_n 3, 0, 0, 0, 0), (37, .ifCond .eq 7, 44, 0, 0, 0), (40, .iload_n 1, 0, 0, 0, 0), (41, .goto 4, 45, 0, 0, 0), (44, .iload_n 0, 0, 0, 0, 0), (45, .istore 4, 0, 0, 0, 0), (47, .iload 4, 0, 0, 0, 0), (49, .iload_n 2, 0, 0, 0, 0), (50, .ishr, 0, 0, 0, 0), (51, .ifCond .le 7, 58, 0, 0, 0), (54, .iconst 1, 0, 0, 0, 0), (55, .goto 4, 59, 0, 0, 0), (58, .iconst 0, 0, 0, 0, 0), (59, .istore 5, 0, 0, 0, 0), (61, .iload_n 3, 0, 0, 0, 0), (62, .iload 5, 0, 0, 0, 0), (64, .if_icmp .ne 7, 71, 0, 0, 0), (67, .iconst 1, 0, 0, 0, 0), (68, .goto 4, 72, 0, 0, 0), (71, .iconst 0, 0, 0, 0, 0), (72, .ireturn, 0, 0, 0, 1), (73, .iinc 2 1, 0, 0, 0, 0), (76, .goto (-74), 2, 0, 0, 0), (79, .iconst 0, 0, 0, 0, 0), (80, .ireturn, 0, 0, 0, 1)]
def xp_M_before : xm_M := (⟨"FibrePairsModel", "before", "(II)Z"⟩, prog_5_method_8_code, 6, (some .boolean), [], xt_M_before_0)
def xt_M_findPath_0 : List xm_I := [(0, .aload_n 0, 0, 0, 0, 0), (1, .iload_n 1, 0, 0, 0, 0), (2, .iload_n 2, 0, 0, 0, 0), (3, .iload_n 3, 0, 0, 0, 0), (4, .invokevirtual 97, 80, 4, 3, 0), (7, .iconst (-1), 0, 0, 0, 0), (8, .istore 4, 0, 0, 0, 0), (10, .iconst 0, 0, 0, 0, 0), (11, .istore 5, 0, 0, 0, 0), (13, .iload 5, 0, 0, 0, 0), (15, .aload_n 0, 0, 0, 0, 0), (16, .getfield 86, 3, 17, 0, 0), (19, .if_icmp .ge 72, 91, 0, 0, 0), (22, .iload 4, 0, 0, 0, 0), (24, .ifCond .lt 57, 81, 0, 0, 0), (27, .aload_n 0, 0, 0, 0, 0), (28, .getfield 57, 3, 19, 0, 0), (31, .iload 5, 0, 0, 0, 0), (33, .iaload, 0, 0, 0, 0), (34, .aload_n 0, 0, 0, 0, 0), (35, .getfield 57, 3, 19, 0, 0), (38, .iload 4, 0, 0, 0, 0), (40, .iaload, 0, 0, 0, 0), (41, .if_icmp .lt 40, 81, 0, 0, 0), (44, .aload_n 0, 0, 0, 0, 0), (45, .getfield 57, 3, 19, 0, 0), (48, .iload 5, 0, 0, 0, 0), (50, .iaload, 0, 0, 0, 0), (51, .aload_n 0, 0, 0, 0, 0), (52, .getfield 57, 3, 19, 0, 0), (55, .iload 4, 0, 0, 0, 0), (57, .iaload, 0, 0, 0, 0), (58, .if_icmp .ne 27, 85, 0, 0, 0), (61, .aload_n 0, 0, 0, 0, 0), (62, .getfield 54, 3, 18, 0, 0), (65, .iload 5, 0, 0, 0, 0), (67, .iaload, 0, 0, 0, 0), (68, .aload_n 0, 0, 0, 0, 0), (69, .getfield 54, 3, 18, 0, 0), (72, .iload 4, 0, 0, 0, 0), (74, .iaload, 0, 0, 0, 0), (75, .invokestatic 101, 83, 2, 0, 0), (78, .ifCond .eq 7, 85, 0, 0, 0), (81, .iload 5, 0, 0, 0, 0), (83, .istore 4, 0, 0, 0, 0), (85, .iinc 5 1, 0, 0, 0, 0), (88, .goto (-75), 13, 0, 0, 0), (91, .iload 4, 0, 0, 0, 0), (93, .ifCond .ge 5, 98, 0, 0, 0), (96, .iconst 0, 0, 0, 0, 0), (97, .ireturn, 0, 0, 0, 1), (98, .aload_n 0, 0, 0, 0, 0), (99, .aload_n 0, 0, 0, 0, 0), (100, .getfield 54, 3, 18, 0, 0), (103, .iload 4, 0, 0, 0, 0), (105, .iaload, 0, 0, 0, 0), (106, .putfield 105, 3, 22, 0, 0), (109, .aload_n 0, 0, 0, 0, 0), (110, .iconst 0, 0, 0, 0, 0), (111, .putfield 108, 3, 23, 0, 0)]
def xt_M_findPath_1 : List xm_I := [(114, .iconst 1, 0, 0, 0, 0), (115, .ireturn, 0, 0, 0, 1)]
def xp_M_findPath : xm_M := (⟨"FibrePairsModel", "findPath", "(III)Z"⟩, prog_5_method_15_code, 6, (some .boolean), [], xt_M_findPath_0 ++ xt_M_findPath_1)
def xt_M_take_0 : List xm_I := [(0, .aload_n 0, 0, 0, 0, 0), (1, .getfield 39, 3, 12, 0, 0), (4, .iload_n 1, 0, 0, 0, 0), (5, .iload_n 2, 0, 0, 0, 0), (6, .iastore, 0, 0, 0, 0), (7, .aload_n 0, 0, 0, 0, 0), (8, .getfield 42, 3, 13, 0, 0), (11, .iload_n 1, 0, 0, 0, 0), (12, .aload_n 0, 0, 0, 0, 0), (13, .getfield 105, 3, 22, 0, 0), (16, .iastore, 0, 0, 0, 0), (17, .aload_n 0, 0, 0, 0, 0), (18, .getfield 45, 3, 14, 0, 0), (21, .iload_n 1, 0, 0, 0, 0), (22, .aload_n 0, 0, 0, 0, 0), (23, .getfield 108, 3, 23, 0, 0), (26, .iastore, 0, 0, 0, 0), (27, .aload_n 0, 0, 0, 0, 0), (28, .getfield 48, 3, 15, 0, 0), (31, .iload_n 1, 0, 0, 0, 0), (32, .iconst 0, 0, 0, 0, 0), (33, .iastore, 0, 0, 0, 0), (34, .aload_n 0, 0, 0, 0, 0), (35, .getfield 51, 3, 16, 0, 0), (38, .iload_n 1, 0, 0, 0, 0), (39, .iconst 0, 0, 0, 0, 0), (40, .iastore, 0, 0, 0, 0), (41, .return_, 0, 0, 0, 0)]
def xp_M_take : xm_M := (⟨"FibrePairsModel", "take", "(II)V"⟩, prog_5_method_19_code, 3, none, [], xt_M_take_0)
def xt_M_release_0 : List xm_I := [(0, .aload_n 0, 0, 0, 0, 0), (1, .aload_n 0, 0, 0, 0, 0), (2, .iload_n 1, 0, 0, 0, 0), (3, .invokevirtual 134, 87, 2, 3, 0), (6, .ifCond .eq 7, 13, 0, 0, 0), (9, .iconst 1, 0, 0, 0, 0), (10, .goto 4, 14, 0, 0, 0), (13, .iconst 0, 0, 0, 0, 0), (14, .putfield 66, 3, 0, 0, 0), (17, .aload_n 0, 0, 0, 0, 0), (18, .getfield 66, 3, 0, 0, 0), (21, .ifCond .ne 10, 31, 0, 0, 0), (24, .aload_n 0, 0, 0, 0, 0), (25, .getfield 27, 3, 8, 0, 0), (28, .iload_n 1, 0, 0, 0, 0), (29, .iconst 0, 0, 0, 0, 0), (30, .bastore, 0, 0, 0, 0), (31, .return_, 0, 0, 0, 0)]
def xp_M_release : xm_M := (⟨"FibrePairsModel", "release", "(I)V"⟩, prog_5_method_21_code, 2, none, [], xt_M_release_0)
def xt_M_noConnection_0 : List xm_I := [(0, .iload_n 1, 0, 0, 0, 0), (1, .ifCond .lt 18, 19, 0, 0, 0), (4, .iload_n 1, 0, 0, 0, 0), (5, .bipush 11, 0, 0, 0, 0), (7, .if_icmp .gt 12, 19, 0, 0, 0), (10, .aload_n 0, 0, 0, 0, 0), (11, .getfield 27, 3, 8, 0, 0), (14, .iload_n 1, 0, 0, 0, 0), (15, .baload, 0, 0, 0, 0), (16, .ifCond .ne 7, 23, 0, 0, 0), (19, .iconst 1, 0, 0, 0, 0), (20, .goto 4, 24, 0, 0, 0), (23, .iconst 0, 0, 0, 0, 0), (24, .ireturn, 0, 0, 0, 1)]
def xp_M_noConnection : xm_M := (⟨"FibrePairsModel", "noConnection", "(I)Z"⟩, prog_5_method_5_code, 2, (some .boolean), [], xt_M_noConnection_0)
def xt_M_lock_0 : List xm_I := [(0, .aload_n 0, 0, 0, 0, 0), (1, .aload_n 0, 0, 0, 0, 0), (2, .iload_n 1, 0, 0, 0, 0), (3, .invokevirtual 137, 89, 2, 3, 0), (6, .ifCond .eq 7, 13, 0, 0, 0), (9, .iconst 1, 0, 0, 0, 0), (10, .goto 18, 28, 0, 0, 0), (13, .aload_n 0, 0, 0, 0, 0), (14, .getfield 24, 3, 6, 0, 0), (17, .iload_n 1, 0, 0, 0, 0), (18, .baload, 0, 0, 0, 0), (19, .iload_n 2, 0, 0, 0, 0), (20, .if_icmp .ne 7, 27, 0, 0, 0), (23, .iconst 2, 0, 0, 0, 0), (24, .goto 4, 28, 0, 0, 0), (27, .iconst 0, 0, 0, 0, 0), (28, .putfield 66, 3, 0, 0, 0), (31, .aload_n 0, 0, 0, 0, 0), (32, .getfield 66, 3, 0, 0, 0), (35, .ifCond .ne 10, 45, 0, 0, 0), (38, .aload_n 0, 0, 0, 0, 0), (39, .getfield 24, 3, 6, 0, 0), (42, .iload_n 1, 0, 0, 0, 0), (43, .iload_n 2, 0, 0, 0, 0), (44, .bastore, 0, 0, 0, 0), (45, .return_, 0, 0, 0, 0)]
def xp_M_lock : xm_M := (⟨"FibrePairsModel", "lock", "(IZ)V"⟩, prog_5_method_22_code, 3, none, [], xt_M_lock_0)
def xt_M_noFibre_0 : List xm_I := [(0, .iload_n 1, 0, 0, 0, 0), (1, .ifCond .lt 11, 12, 0, 0, 0), (4, .iload_n 1, 0, 0, 0, 0), (5, .aload_n 0, 0, 0, 0, 0), (6, .getfield 69, 3, 2, 0, 0), (9, .if_icmp .lt 7, 16, 0, 0, 0), (12, .iconst 1, 0, 0, 0, 0), (13, .goto 4, 17, 0, 0, 0), (16, .iconst 0, 0, 0, 0, 0), (17, .ireturn, 0, 0, 0, 1)]
def xp_M_noFibre : xm_M := (⟨"FibrePairsModel", "noFibre", "(I)Z"⟩, prog_5_method_4_code, 2, (some .boolean), [], xt_M_noFibre_0)
def xt_M_cut_0 : List xm_I := [(0, .aload_n 0, 0, 0, 0, 0), (1, .aload_n 0, 0, 0, 0, 0), (2, .iload_n 1, 0, 0, 0, 0), (3, .invokevirtual 137, 89, 2, 3, 0), (6, .ifCond .eq 7, 13, 0, 0, 0), (9, .iconst 1, 0, 0, 0, 0), (10, .goto 17, 27, 0, 0, 0), (13, .aload_n 0, 0, 0, 0, 0), (14, .getfield 20, 3, 5, 0, 0), (17, .iload_n 1, 0, 0, 0, 0), (18, .baload, 0, 0, 0, 0), (19, .ifCond .eq 7, 26, 0, 0, 0), (22, .iconst 2, 0, 0, 0, 0), (23, .goto 4, 27, 0, 0, 0), (26, .iconst 0, 0, 0, 0, 0), (27, .putfield 66, 3, 0, 0, 0), (30, .aload_n 0, 0, 0, 0, 0), (31, .getfield 66, 3, 0, 0, 0), (34, .ifCond .le 4, 38, 0, 0, 0), (37, .return_, 0, 0, 0, 0), (38, .aload_n 0, 0, 0, 0, 0), (39, .getfield 20, 3, 5, 0, 0), (42, .iload_n 1, 0, 0, 0, 0), (43, .iconst 1, 0, 0, 0, 0), (44, .bastore, 0, 0, 0, 0), (45, .aload_n 0, 0, 0, 0, 0), (46, .invokevirtual 143, 91, 1, 3, 0), (49, .return_, 0, 0, 0, 0)]
def xp_M_cut : xm_M := (⟨"FibrePairsModel", "cut", "(I)V"⟩, prog_5_method_25_code, 2, none, [], xt_M_cut_0)
def xt_M_settle_0 : List xm_I := [(0, .iconst 0, 0, 0, 0, 0), (1, .istore_n 1, 0, 0, 0, 0), (2, .iload_n 1, 0, 0, 0, 0), (3, .bipush 12, 0, 0, 0, 0), (5, .if_icmp .ge 129, 134, 0, 0, 0), (8, .aload_n 0, 0, 0, 0, 0), (9, .getfield 27, 3, 8, 0, 0), (12, .iload_n 1, 0, 0, 0, 0), (13, .baload, 0, 0, 0, 0), (14, .ifCond .eq 114, 128, 0, 0, 0), (17, .aload_n 0, 0, 0, 0, 0), (18, .aload_n 0, 0, 0, 0, 0), (19, .getfield 42, 3, 13, 0, 0), (22, .iload_n 1, 0, 0, 0, 0), (23, .iaload, 0, 0, 0, 0), (24, .invokevirtual 140, 92, 2, 3, 0), (27, .istore_n 2, 0, 0, 0, 0), (28, .aload_n 0, 0, 0, 0, 0), (29, .aload_n 0, 0, 0, 0, 0), (30, .getfield 45, 3, 14, 0, 0), (33, .iload_n 1, 0, 0, 0, 0), (34, .iaload, 0, 0, 0, 0), (35, .invokevirtual 140, 92, 2, 3, 0), (38, .istore_n 3, 0, 0, 0, 0), (39, .iload_n 2, 0, 0, 0, 0), (40, .ifCond .eq 33, 73, 0, 0, 0), (43, .aload_n 0, 0, 0, 0, 0), (44, .getfield 48, 3, 15, 0, 0), (47, .iload_n 1, 0, 0, 0, 0), (48, .iaload, 0, 0, 0, 0), (49, .ifCond .eq 24, 73, 0, 0, 0), (52, .aload_n 0, 0, 0, 0, 0), (53, .getfield 51, 3, 16, 0, 0), (56, .iload_n 1, 0, 0, 0, 0), (57, .iaload, 0, 0, 0, 0), (58, .aload_n 0, 0, 0, 0, 0), (59, .getfield 76, 3, 7, 0, 0), (62, .if_icmp .ge 11, 73, 0, 0, 0), (65, .iload_n 3, 0, 0, 0, 0), (66, .ifCond .eq 7, 73, 0, 0, 0), (69, .iconst 1, 0, 0, 0, 0), (70, .goto 4, 74, 0, 0, 0), (73, .iconst 0, 0, 0, 0, 0), (74, .istore 4, 0, 0, 0, 0), (76, .aload_n 0, 0, 0, 0, 0), (77, .getfield 51, 3, 16, 0, 0), (80, .iload_n 1, 0, 0, 0, 0), (81, .iload_n 2, 0, 0, 0, 0), (82, .ifCond .eq 12, 94, 0, 0, 0), (85, .aload_n 0, 0, 0, 0, 0), (86, .getfield 51, 3, 16, 0, 0), (89, .iload_n 1, 0, 0, 0, 0), (90, .iaload, 0, 0, 0, 0), (91, .goto 4, 95, 0, 0, 0), (94, .iconst 0, 0, 0, 0, 0), (95, .iastore, 0, 0, 0, 0), (96, .aload_n 0, 0, 0, 0, 0), (97, .getfield 48, 3, 15, 0, 0), (100, .iload_n 1, 0, 0, 0, 0), (101, .iload_n 2, 0, 0, 0, 0)]
def xt_M_settle_1 : List xm_I := [(102, .ifCond .eq 16, 118, 0, 0, 0), (105, .iload 4, 0, 0, 0, 0), (107, .ifCond .eq 7, 114, 0, 0, 0), (110, .iconst 1, 0, 0, 0, 0), (111, .goto 16, 127, 0, 0, 0), (114, .iconst 0, 0, 0, 0, 0), (115, .goto 12, 127, 0, 0, 0), (118, .iload_n 3, 0, 0, 0, 0), (119, .ifCond .eq 7, 126, 0, 0, 0), (122, .iconst 1, 0, 0, 0, 0), (123, .goto 4, 127, 0, 0, 0), (126, .iconst 2, 0, 0, 0, 0), (127, .iastore, 0, 0, 0, 0), (128, .iinc 1 1, 0, 0, 0, 0), (131, .goto (-129), 2, 0, 0, 0), (134, .return_, 0, 0, 0, 0)]
def xp_M_settle : xm_M := (⟨"FibrePairsModel", "settle", "()V"⟩, prog_5_method_24_code, 5, none, [], xt_M_settle_0 ++ xt_M_settle_1)
def xt_M_whole_0 : List xm_I := [(0, .iload_n 1, 0, 0, 0, 0), (1, .ifCond .eq 7, 8, 0, 0, 0), (4, .iconst 1, 0, 0, 0, 0), (5, .goto 4, 9, 0, 0, 0), (8, .iconst 0, 0, 0, 0, 0), (9, .istore_n 2, 0, 0, 0, 0), (10, .iconst 0, 0, 0, 0, 0), (11, .istore_n 3, 0, 0, 0, 0), (12, .iload_n 3, 0, 0, 0, 0), (13, .aload_n 0, 0, 0, 0, 0), (14, .getfield 69, 3, 2, 0, 0), (17, .if_icmp .ge 37, 54, 0, 0, 0), (20, .iload_n 2, 0, 0, 0, 0), (21, .ifCond .eq 25, 46, 0, 0, 0), (24, .iload_n 1, 0, 0, 0, 0), (25, .iload_n 3, 0, 0, 0, 0), (26, .invokestatic 72, 78, 2, 0, 0), (29, .iconst 1, 0, 0, 0, 0), (30, .if_icmp .ne 12, 42, 0, 0, 0), (33, .aload_n 0, 0, 0, 0, 0), (34, .getfield 20, 3, 5, 0, 0), (37, .iload_n 3, 0, 0, 0, 0), (38, .baload, 0, 0, 0, 0), (39, .ifCond .ne 7, 46, 0, 0, 0), (42, .iconst 1, 0, 0, 0, 0), (43, .goto 4, 47, 0, 0, 0), (46, .iconst 0, 0, 0, 0, 0), (47, .istore_n 2, 0, 0, 0, 0), (48, .iinc 3 1, 0, 0, 0, 0), (51, .goto (-39), 12, 0, 0, 0), (54, .iload_n 2, 0, 0, 0, 0), (55, .ireturn, 0, 0, 0, 1)]
def xp_M_whole : xm_M := (⟨"FibrePairsModel", "whole", "(I)Z"⟩, prog_5_method_23_code, 4, (some .boolean), [], xt_M_whole_0)
def xt_M_mend_0 : List xm_I := [(0, .aload_n 0, 0, 0, 0, 0), (1, .aload_n 0, 0, 0, 0, 0), (2, .iload_n 1, 0, 0, 0, 0), (3, .invokevirtual 137, 89, 2, 3, 0), (6, .ifCond .eq 7, 13, 0, 0, 0), (9, .iconst 1, 0, 0, 0, 0), (10, .goto 17, 27, 0, 0, 0), (13, .aload_n 0, 0, 0, 0, 0), (14, .getfield 20, 3, 5, 0, 0), (17, .iload_n 1, 0, 0, 0, 0), (18, .baload, 0, 0, 0, 0), (19, .ifCond .ne 7, 26, 0, 0, 0), (22, .iconst 2, 0, 0, 0, 0), (23, .goto 4, 27, 0, 0, 0), (26, .iconst 0, 0, 0, 0, 0), (27, .putfield 66, 3, 0, 0, 0), (30, .aload_n 0, 0, 0, 0, 0), (31, .getfield 66, 3, 0, 0, 0), (34, .ifCond .le 4, 38, 0, 0, 0), (37, .return_, 0, 0, 0, 0), (38, .aload_n 0, 0, 0, 0, 0), (39, .getfield 20, 3, 5, 0, 0), (42, .iload_n 1, 0, 0, 0, 0), (43, .iconst 0, 0, 0, 0, 0), (44, .bastore, 0, 0, 0, 0), (45, .aload_n 0, 0, 0, 0, 0), (46, .invokevirtual 143, 91, 1, 3, 0), (49, .return_, 0, 0, 0, 0)]
def xp_M_mend : xm_M := (⟨"FibrePairsModel", "mend", "(I)V"⟩, prog_5_method_26_code, 2, none, [], xt_M_mend_0)
def xt_M_hold_0 : List xm_I := [(0, .aload_n 0, 0, 0, 0, 0), (1, .iload_n 1, 0, 0, 0, 0), (2, .ifCond .lt 10, 12, 0, 0, 0), (5, .iload_n 1, 0, 0, 0, 0), (6, .sipush 1000, 0, 0, 0, 0), (9, .if_icmp .le 7, 16, 0, 0, 0), (12, .iconst 1, 0, 0, 0, 0), (13, .goto 4, 17, 0, 0, 0), (16, .iconst 0, 0, 0, 0, 0), (17, .putfield 66, 3, 0, 0, 0), (20, .aload_n 0, 0, 0, 0, 0), (21, .getfield 66, 3, 0, 0, 0), (24, .ifCond .le 4, 28, 0, 0, 0), (27, .return_, 0, 0, 0, 0), (28, .aload_n 0, 0, 0, 0, 0), (29, .iload_n 1, 0, 0, 0, 0), (30, .putfield 76, 3, 7, 0, 0), (33, .aload_n 0, 0, 0, 0, 0), (34, .invokevirtual 143, 91, 1, 3, 0), (37, .return_, 0, 0, 0, 0)]
def xp_M_hold : xm_M := (⟨"FibrePairsModel", "hold", "(I)V"⟩, prog_5_method_27_code, 2, none, [], xt_M_hold_0)
def xt_M_clock_0 : List xm_I := [(0, .aload_n 0, 0, 0, 0, 0), (1, .iconst 0, 0, 0, 0, 0), (2, .putfield 66, 3, 0, 0, 0), (5, .iconst 0, 0, 0, 0, 0), (6, .istore_n 1, 0, 0, 0, 0), (7, .iload_n 1, 0, 0, 0, 0), (8, .bipush 12, 0, 0, 0, 0), (10, .if_icmp .ge 63, 73, 0, 0, 0), (13, .aload_n 0, 0, 0, 0, 0), (14, .getfield 51, 3, 16, 0, 0), (17, .iload_n 1, 0, 0, 0, 0), (18, .aload_n 0, 0, 0, 0, 0), (19, .getfield 27, 3, 8, 0, 0), (22, .iload_n 1, 0, 0, 0, 0), (23, .baload, 0, 0, 0, 0), (24, .ifCond .eq 36, 60, 0, 0, 0), (27, .aload_n 0, 0, 0, 0, 0), (28, .getfield 48, 3, 15, 0, 0), (31, .iload_n 1, 0, 0, 0, 0), (32, .iaload, 0, 0, 0, 0), (33, .ifCond .eq 27, 60, 0, 0, 0), (36, .aload_n 0, 0, 0, 0, 0), (37, .aload_n 0, 0, 0, 0, 0), (38, .getfield 42, 3, 13, 0, 0), (41, .iload_n 1, 0, 0, 0, 0), (42, .iaload, 0, 0, 0, 0), (43, .invokevirtual 140, 92, 2, 3, 0), (46, .ifCond .eq 14, 60, 0, 0, 0), (49, .aload_n 0, 0, 0, 0, 0), (50, .getfield 51, 3, 16, 0, 0), (53, .iload_n 1, 0, 0, 0, 0), (54, .iaload, 0, 0, 0, 0), (55, .iconst 1, 0, 0, 0, 0), (56, .iadd, 0, 0, 0, 0), (57, .goto 9, 66, 0, 0, 0), (60, .aload_n 0, 0, 0, 0, 0), (61, .getfield 51, 3, 16, 0, 0), (64, .iload_n 1, 0, 0, 0, 0), (65, .iaload, 0, 0, 0, 0), (66, .iastore, 0, 0, 0, 0), (67, .iinc 1 1, 0, 0, 0, 0), (70, .goto (-63), 7, 0, 0, 0), (73, .aload_n 0, 0, 0, 0, 0), (74, .invokevirtual 143, 91, 1, 3, 0), (77, .return_, 0, 0, 0, 0)]
def xp_M_clock : xm_M := (⟨"FibrePairsModel", "clock", "()V"⟩, prog_5_method_28_code, 2, none, [], xt_M_clock_0)
def xt_M_move_0 : List xm_I := [(0, .aload_n 0, 0, 0, 0, 0), (1, .aload_n 0, 0, 0, 0, 0), (2, .iload_n 1, 0, 0, 0, 0), (3, .invokevirtual 134, 87, 2, 3, 0), (6, .ifCond .eq 7, 13, 0, 0, 0), (9, .iconst 1, 0, 0, 0, 0), (10, .goto 4, 14, 0, 0, 0), (13, .iconst 0, 0, 0, 0, 0), (14, .putfield 66, 3, 0, 0, 0), (17, .aload_n 0, 0, 0, 0, 0), (18, .getfield 66, 3, 0, 0, 0), (21, .ifCond .le 5, 26, 0, 0, 0), (24, .iconst 0, 0, 0, 0, 0), (25, .ireturn, 0, 0, 0, 0), (26, .aload_n 0, 0, 0, 0, 0), (27, .getfield 39, 3, 12, 0, 0), (30, .iload_n 1, 0, 0, 0, 0), (31, .iaload, 0, 0, 0, 0), (32, .iconst 1, 0, 0, 0, 0), (33, .iadd, 0, 0, 0, 0), (34, .istore_n 2, 0, 0, 0, 0), (35, .iload_n 2, 0, 0, 0, 0), (36, .iconst 4, 0, 0, 0, 0), (37, .if_icmp .ge 43, 80, 0, 0, 0), (40, .aload_n 0, 0, 0, 0, 0), (41, .iload_n 2, 0, 0, 0, 0), (42, .aload_n 0, 0, 0, 0, 0), (43, .getfield 33, 3, 10, 0, 0), (46, .iload_n 1, 0, 0, 0, 0), (47, .iaload, 0, 0, 0, 0), (48, .aload_n 0, 0, 0, 0, 0), (49, .getfield 36, 3, 11, 0, 0), (52, .iload_n 1, 0, 0, 0, 0), (53, .iaload, 0, 0, 0, 0), (54, .aload_n 0, 0, 0, 0, 0), (55, .getfield 30, 3, 9, 0, 0), (58, .iload_n 1, 0, 0, 0, 0), (59, .baload, 0, 0, 0, 0), (60, .invokevirtual 126, 75, 5, 3, 0), (63, .ifCond .eq 11, 74, 0, 0, 0), (66, .aload_n 0, 0, 0, 0, 0), (67, .iload_n 1, 0, 0, 0, 0), (68, .iload_n 2, 0, 0, 0, 0), (69, .invokevirtual 130, 85, 3, 3, 0), (72, .iload_n 2, 0, 0, 0, 0), (73, .ireturn, 0, 0, 0, 0), (74, .iinc 2 1, 0, 0, 0, 0), (77, .goto (-42), 35, 0, 0, 0), (80, .iconst (-1), 0, 0, 0, 0), (81, .ireturn, 0, 0, 0, 0)]
def xp_M_move : xm_M := (⟨"FibrePairsModel", "move", "(I)I"⟩, prog_5_method_29_code, 3, (some .int), [], xt_M_move_0)
def xt_M_path_0 : List xm_I := [(0, .aload_n 0, 0, 0, 0, 0), (1, .aload_n 0, 0, 0, 0, 0), (2, .iload_n 1, 0, 0, 0, 0), (3, .invokevirtual 134, 87, 2, 3, 0), (6, .ifCond .eq 7, 13, 0, 0, 0), (9, .iconst 1, 0, 0, 0, 0), (10, .goto 4, 14, 0, 0, 0), (13, .iconst 0, 0, 0, 0, 0), (14, .putfield 66, 3, 0, 0, 0), (17, .aload_n 0, 0, 0, 0, 0), (18, .getfield 66, 3, 0, 0, 0), (21, .ifCond .le 5, 26, 0, 0, 0), (24, .iconst 0, 0, 0, 0, 0), (25, .ireturn, 0, 0, 0, 0), (26, .iload_n 2, 0, 0, 0, 0), (27, .ifCond .eq 12, 39, 0, 0, 0), (30, .aload_n 0, 0, 0, 0, 0), (31, .getfield 45, 3, 14, 0, 0), (34, .iload_n 1, 0, 0, 0, 0), (35, .iaload, 0, 0, 0, 0), (36, .goto 9, 45, 0, 0, 0), (39, .aload_n 0, 0, 0, 0, 0), (40, .getfield 42, 3, 13, 0, 0), (43, .iload_n 1, 0, 0, 0, 0), (44, .iaload, 0, 0, 0, 0), (45, .istore 4, 0, 0, 0, 0), (47, .aload_n 0, 0, 0, 0, 0), (48, .getfield 33, 3, 10, 0, 0), (51, .iload_n 1, 0, 0, 0, 0), (52, .iaload, 0, 0, 0, 0), (53, .istore 5, 0, 0, 0, 0), (55, .iconst 0, 0, 0, 0, 0), (56, .istore 6, 0, 0, 0, 0), (58, .iload 4, 0, 0, 0, 0), (60, .ifCond .eq 117, 177, 0, 0, 0), (63, .iconst 0, 0, 0, 0, 0), (64, .istore 7, 0, 0, 0, 0), (66, .iload 4, 0, 0, 0, 0), (68, .iload 7, 0, 0, 0, 0), (70, .invokestatic 72, 78, 2, 0, 0), (73, .ifCond .eq 33, 106, 0, 0, 0), (76, .aload_n 0, 0, 0, 0, 0), (77, .getfield 13, 3, 3, 0, 0), (80, .iconst 2, 0, 0, 0, 0), (81, .iload 7, 0, 0, 0, 0), (83, .imul, 0, 0, 0, 0), (84, .iaload, 0, 0, 0, 0), (85, .iload 5, 0, 0, 0, 0), (87, .if_icmp .eq 25, 112, 0, 0, 0), (90, .aload_n 0, 0, 0, 0, 0), (91, .getfield 13, 3, 3, 0, 0), (94, .iconst 2, 0, 0, 0, 0), (95, .iload 7, 0, 0, 0, 0), (97, .imul, 0, 0, 0, 0), (98, .iconst 1, 0, 0, 0, 0), (99, .iadd, 0, 0, 0, 0), (100, .iaload, 0, 0, 0, 0), (101, .iload 5, 0, 0, 0, 0), (103, .if_icmp .eq 9, 112, 0, 0, 0), (106, .iinc 7 1, 0, 0, 0, 0)]
def xt_M_path_1 : List xm_I := [(109, .goto (-43), 66, 0, 0, 0), (112, .iload 6, 0, 0, 0, 0), (114, .iload_n 3, 0, 0, 0, 0), (115, .if_icmp .ne 6, 121, 0, 0, 0), (118, .iload 7, 0, 0, 0, 0), (120, .ireturn, 0, 0, 0, 0), (121, .aload_n 0, 0, 0, 0, 0), (122, .getfield 13, 3, 3, 0, 0), (125, .iconst 2, 0, 0, 0, 0), (126, .iload 7, 0, 0, 0, 0), (128, .imul, 0, 0, 0, 0), (129, .iaload, 0, 0, 0, 0), (130, .iload 5, 0, 0, 0, 0), (132, .if_icmp .ne 17, 149, 0, 0, 0), (135, .aload_n 0, 0, 0, 0, 0), (136, .getfield 13, 3, 3, 0, 0), (139, .iconst 2, 0, 0, 0, 0), (140, .iload 7, 0, 0, 0, 0), (142, .imul, 0, 0, 0, 0), (143, .iconst 1, 0, 0, 0, 0), (144, .iadd, 0, 0, 0, 0), (145, .iaload, 0, 0, 0, 0), (146, .goto 12, 158, 0, 0, 0), (149, .aload_n 0, 0, 0, 0, 0), (150, .getfield 13, 3, 3, 0, 0), (153, .iconst 2, 0, 0, 0, 0), (154, .iload 7, 0, 0, 0, 0), (156, .imul, 0, 0, 0, 0), (157, .iaload, 0, 0, 0, 0), (158, .istore 5, 0, 0, 0, 0), (160, .iload 4, 0, 0, 0, 0), (162, .iconst 1, 0, 0, 0, 0), (163, .iload 7, 0, 0, 0, 0), (165, .ishl, 0, 0, 0, 0), (166, .iconst (-1), 0, 0, 0, 0), (167, .ixor, 0, 0, 0, 0), (168, .iand, 0, 0, 0, 0), (169, .istore 4, 0, 0, 0, 0), (171, .iinc 6 1, 0, 0, 0, 0), (174, .goto (-116), 58, 0, 0, 0), (177, .iconst (-1), 0, 0, 0, 0), (178, .ireturn, 0, 0, 0, 0)]
def xp_M_path : xm_M := (⟨"FibrePairsModel", "path", "(IZI)I"⟩, prog_5_method_30_code, 8, (some .int), [], xt_M_path_0 ++ xt_M_path_1)
def xt_M_about_0 : List xm_I := [(0, .aload_n 0, 0, 0, 0, 0), (1, .aload_n 0, 0, 0, 0, 0), (2, .iload_n 1, 0, 0, 0, 0), (3, .invokevirtual 134, 87, 2, 3, 0), (6, .ifCond .eq 7, 13, 0, 0, 0), (9, .iconst 1, 0, 0, 0, 0), (10, .goto 18, 28, 0, 0, 0), (13, .iload_n 2, 0, 0, 0, 0), (14, .ifCond .lt 9, 23, 0, 0, 0), (17, .iload_n 2, 0, 0, 0, 0), (18, .bipush 6, 0, 0, 0, 0), (20, .if_icmp .le 7, 27, 0, 0, 0), (23, .iconst 2, 0, 0, 0, 0), (24, .goto 4, 28, 0, 0, 0), (27, .iconst 0, 0, 0, 0, 0), (28, .putfield 66, 3, 0, 0, 0), (31, .aload_n 0, 0, 0, 0, 0), (32, .getfield 66, 3, 0, 0, 0), (35, .ifCond .le 5, 40, 0, 0, 0), (38, .iconst 0, 0, 0, 0, 0), (39, .ireturn, 0, 0, 0, 0), (40, .iload_n 2, 0, 0, 0, 0), (41, .tableswitch 102 0 5 #[39, 46, 53, 60, 71, 95], 0, 0, 39, 0), (80, .aload_n 0, 0, 0, 0, 0), (81, .getfield 39, 3, 12, 0, 0), (84, .iload_n 1, 0, 0, 0, 0), (85, .iaload, 0, 0, 0, 0), (86, .ireturn, 0, 0, 0, 0), (87, .aload_n 0, 0, 0, 0, 0), (88, .getfield 33, 3, 10, 0, 0), (91, .iload_n 1, 0, 0, 0, 0), (92, .iaload, 0, 0, 0, 0), (93, .ireturn, 0, 0, 0, 0), (94, .aload_n 0, 0, 0, 0, 0), (95, .getfield 36, 3, 11, 0, 0), (98, .iload_n 1, 0, 0, 0, 0), (99, .iaload, 0, 0, 0, 0), (100, .ireturn, 0, 0, 0, 0), (101, .aload_n 0, 0, 0, 0, 0), (102, .aload_n 0, 0, 0, 0, 0), (103, .getfield 42, 3, 13, 0, 0), (106, .iload_n 1, 0, 0, 0, 0), (107, .iaload, 0, 0, 0, 0), (108, .invokevirtual 89, 81, 2, 3, 0), (111, .ireturn, 0, 0, 0, 0), (112, .aload_n 0, 0, 0, 0, 0), (113, .getfield 30, 3, 9, 0, 0), (116, .iload_n 1, 0, 0, 0, 0), (117, .baload, 0, 0, 0, 0), (118, .ifCond .eq 16, 134, 0, 0, 0), (121, .aload_n 0, 0, 0, 0, 0), (122, .aload_n 0, 0, 0, 0, 0), (123, .getfield 45, 3, 14, 0, 0), (126, .iload_n 1, 0, 0, 0, 0), (127, .iaload, 0, 0, 0, 0), (128, .invokevirtual 89, 81, 2, 3, 0), (131, .goto 4, 135, 0, 0, 0), (134, .iconst (-1), 0, 0, 0, 0), (135, .ireturn, 0, 0, 0, 0), (136, .aload_n 0, 0, 0, 0, 0)]
def xt_M_about_1 : List xm_I := [(137, .getfield 48, 3, 15, 0, 0), (140, .iload_n 1, 0, 0, 0, 0), (141, .iaload, 0, 0, 0, 0), (142, .ireturn, 0, 0, 0, 0), (143, .aload_n 0, 0, 0, 0, 0), (144, .getfield 51, 3, 16, 0, 0), (147, .iload_n 1, 0, 0, 0, 0), (148, .iaload, 0, 0, 0, 0), (149, .ireturn, 0, 0, 0, 0)]
def xp_M_about : xm_M := (⟨"FibrePairsModel", "about", "(II)I"⟩, prog_5_method_31_code, 3, (some .int), [], xt_M_about_0 ++ xt_M_about_1)
def xt_M_user_0 : List xm_I := [(0, .aload_n 0, 0, 0, 0, 0), (1, .aload_n 0, 0, 0, 0, 0), (2, .iload_n 1, 0, 0, 0, 0), (3, .invokevirtual 137, 89, 2, 3, 0), (6, .ifCond .ne 12, 18, 0, 0, 0), (9, .iload_n 2, 0, 0, 0, 0), (10, .ifCond .lt 8, 18, 0, 0, 0), (13, .iload_n 2, 0, 0, 0, 0), (14, .iconst 3, 0, 0, 0, 0), (15, .if_icmp .le 7, 22, 0, 0, 0), (18, .iconst 1, 0, 0, 0, 0), (19, .goto 4, 23, 0, 0, 0), (22, .iconst 0, 0, 0, 0, 0), (23, .putfield 66, 3, 0, 0, 0), (26, .aload_n 0, 0, 0, 0, 0), (27, .getfield 66, 3, 0, 0, 0), (30, .ifCond .le 7, 37, 0, 0, 0), (33, .iconst 0, 0, 0, 0, 0), (34, .goto 9, 43, 0, 0, 0), (37, .aload_n 0, 0, 0, 0, 0), (38, .iload_n 1, 0, 0, 0, 0), (39, .iload_n 2, 0, 0, 0, 0), (40, .invokevirtual 83, 77, 3, 3, 0), (43, .ireturn, 0, 0, 0, 0)]
def xp_M_user : xm_M := (⟨"FibrePairsModel", "user", "(II)I"⟩, prog_5_method_32_code, 3, (some .int), [], xt_M_user_0)
def xt_M_fits_0 : List xm_I := [(0, .aload_n 0, 0, 0, 0, 0), (1, .aload_n 0, 0, 0, 0, 0), (2, .iload_n 1, 0, 0, 0, 0), (3, .invokevirtual 79, 72, 2, 3, 0), (6, .ifCond .ne 11, 17, 0, 0, 0), (9, .aload_n 0, 0, 0, 0, 0), (10, .iload_n 2, 0, 0, 0, 0), (11, .invokevirtual 79, 72, 2, 3, 0), (14, .ifCond .eq 7, 21, 0, 0, 0), (17, .iconst 1, 0, 0, 0, 0), (18, .goto 13, 31, 0, 0, 0), (21, .iload_n 1, 0, 0, 0, 0), (22, .iload_n 2, 0, 0, 0, 0), (23, .if_icmp .ne 7, 30, 0, 0, 0), (26, .iconst 2, 0, 0, 0, 0), (27, .goto 4, 31, 0, 0, 0), (30, .iconst 0, 0, 0, 0, 0), (31, .putfield 66, 3, 0, 0, 0), (34, .aload_n 0, 0, 0, 0, 0), (35, .getfield 66, 3, 0, 0, 0), (38, .ifCond .le 5, 43, 0, 0, 0), (41, .iconst 0, 0, 0, 0, 0), (42, .ireturn, 0, 0, 0, 0), (43, .iconst 0, 0, 0, 0, 0), (44, .istore_n 3, 0, 0, 0, 0), (45, .iconst 0, 0, 0, 0, 0), (46, .istore 4, 0, 0, 0, 0), (48, .iload 4, 0, 0, 0, 0), (50, .iconst 4, 0, 0, 0, 0), (51, .if_icmp .ge 27, 78, 0, 0, 0), (54, .aload_n 0, 0, 0, 0, 0), (55, .aload_n 0, 0, 0, 0, 0), (56, .iload 4, 0, 0, 0, 0), (58, .invokevirtual 112, 76, 2, 3, 0), (61, .iload_n 1, 0, 0, 0, 0), (62, .iload_n 2, 0, 0, 0, 0), (63, .invokevirtual 115, 79, 4, 3, 0), (66, .ifCond .eq 6, 72, 0, 0, 0), (69, .iinc 3 1, 0, 0, 0, 0), (72, .iinc 4 1, 0, 0, 0, 0), (75, .goto (-27), 48, 0, 0, 0), (78, .iload_n 3, 0, 0, 0, 0), (79, .ireturn, 0, 0, 0, 0)]
def xp_M_fits : xm_M := (⟨"FibrePairsModel", "fits", "(II)I"⟩, prog_5_method_33_code, 5, (some .int), [], xt_M_fits_0)
def xt_M_bridge_0 : List xm_I := [(0, .aload_n 0, 0, 0, 0, 0), (1, .aload_n 0, 0, 0, 0, 0), (2, .iload_n 1, 0, 0, 0, 0), (3, .invokevirtual 79, 72, 2, 3, 0), (6, .ifCond .ne 20, 26, 0, 0, 0), (9, .aload_n 0, 0, 0, 0, 0), (10, .iload_n 2, 0, 0, 0, 0), (11, .invokevirtual 79, 72, 2, 3, 0), (14, .ifCond .ne 12, 26, 0, 0, 0), (17, .iload_n 3, 0, 0, 0, 0), (18, .ifCond .lt 8, 26, 0, 0, 0), (21, .iload_n 3, 0, 0, 0, 0), (22, .iconst 3, 0, 0, 0, 0), (23, .if_icmp .le 7, 30, 0, 0, 0), (26, .iconst 1, 0, 0, 0, 0), (27, .goto 13, 40, 0, 0, 0), (30, .iload_n 1, 0, 0, 0, 0), (31, .iload_n 2, 0, 0, 0, 0), (32, .if_icmp .ne 7, 39, 0, 0, 0), (35, .iconst 2, 0, 0, 0, 0), (36, .goto 4, 40, 0, 0, 0), (39, .iconst 0, 0, 0, 0, 0), (40, .putfield 66, 3, 0, 0, 0), (43, .aload_n 0, 0, 0, 0, 0), (44, .getfield 66, 3, 0, 0, 0), (47, .ifCond .le 5, 52, 0, 0, 0), (50, .iconst 0, 0, 0, 0, 0), (51, .ireturn, 0, 0, 0, 0), (52, .aload_n 0, 0, 0, 0, 0), (53, .iload_n 3, 0, 0, 0, 0), (54, .invokevirtual 112, 76, 2, 3, 0), (57, .istore 4, 0, 0, 0, 0), (59, .aload_n 0, 0, 0, 0, 0), (60, .iload 4, 0, 0, 0, 0), (62, .iload_n 1, 0, 0, 0, 0), (63, .iload_n 2, 0, 0, 0, 0), (64, .invokevirtual 97, 80, 4, 3, 0), (67, .aload_n 0, 0, 0, 0, 0), (68, .getfield 86, 3, 17, 0, 0), (71, .ifCond .ne 5, 76, 0, 0, 0), (74, .iconst (-1), 0, 0, 0, 0), (75, .ireturn, 0, 0, 0, 0), (76, .iload 4, 0, 0, 0, 0), (78, .istore 5, 0, 0, 0, 0), (80, .iconst 0, 0, 0, 0, 0), (81, .istore 6, 0, 0, 0, 0), (83, .iload 6, 0, 0, 0, 0), (85, .aload_n 0, 0, 0, 0, 0), (86, .getfield 86, 3, 17, 0, 0), (89, .if_icmp .ge 21, 110, 0, 0, 0), (92, .iload 5, 0, 0, 0, 0), (94, .aload_n 0, 0, 0, 0, 0), (95, .getfield 54, 3, 18, 0, 0), (98, .iload 6, 0, 0, 0, 0), (100, .iaload, 0, 0, 0, 0), (101, .iand, 0, 0, 0, 0), (102, .istore 5, 0, 0, 0, 0), (104, .iinc 6 1, 0, 0, 0, 0), (107, .goto (-24), 83, 0, 0, 0), (110, .iconst 0, 0, 0, 0, 0)]
def xt_M_bridge_1 : List xm_I := [(111, .istore 6, 0, 0, 0, 0), (113, .iload 6, 0, 0, 0, 0), (115, .aload_n 0, 0, 0, 0, 0), (116, .getfield 69, 3, 2, 0, 0), (119, .if_icmp .ge 23, 142, 0, 0, 0), (122, .iload 5, 0, 0, 0, 0), (124, .iload 6, 0, 0, 0, 0), (126, .invokestatic 72, 78, 2, 0, 0), (129, .iconst 1, 0, 0, 0, 0), (130, .if_icmp .ne 6, 136, 0, 0, 0), (133, .iload 6, 0, 0, 0, 0), (135, .ireturn, 0, 0, 0, 0), (136, .iinc 6 1, 0, 0, 0, 0), (139, .goto (-26), 113, 0, 0, 0), (142, .bipush (-2), 0, 0, 0, 0), (144, .ireturn, 0, 0, 0, 0)]
def xp_M_bridge : xm_M := (⟨"FibrePairsModel", "bridge", "(III)I"⟩, prog_5_method_34_code, 7, (some .int), [], xt_M_bridge_0 ++ xt_M_bridge_1)
def xt_M_exposed_0 : List xm_I := [(0, .aload_n 0, 0, 0, 0, 0), (1, .iconst 0, 0, 0, 0, 0), (2, .putfield 66, 3, 0, 0, 0), (5, .iconst 0, 0, 0, 0, 0), (6, .istore_n 1, 0, 0, 0, 0), (7, .iconst 0, 0, 0, 0, 0), (8, .istore_n 2, 0, 0, 0, 0), (9, .iload_n 2, 0, 0, 0, 0), (10, .bipush 12, 0, 0, 0, 0), (12, .if_icmp .ge 40, 52, 0, 0, 0), (15, .aload_n 0, 0, 0, 0, 0), (16, .getfield 27, 3, 8, 0, 0), (19, .iload_n 2, 0, 0, 0, 0), (20, .baload, 0, 0, 0, 0), (21, .ifCond .eq 25, 46, 0, 0, 0), (24, .aload_n 0, 0, 0, 0, 0), (25, .getfield 30, 3, 9, 0, 0), (28, .iload_n 2, 0, 0, 0, 0), (29, .baload, 0, 0, 0, 0), (30, .ifCond .eq 16, 46, 0, 0, 0), (33, .aload_n 0, 0, 0, 0, 0), (34, .getfield 48, 3, 15, 0, 0), (37, .iload_n 2, 0, 0, 0, 0), (38, .iaload, 0, 0, 0, 0), (39, .iconst 2, 0, 0, 0, 0), (40, .if_icmp .ne 6, 46, 0, 0, 0), (43, .iinc 1 1, 0, 0, 0, 0), (46, .iinc 2 1, 0, 0, 0, 0), (49, .goto (-40), 9, 0, 0, 0), (52, .iload_n 1, 0, 0, 0, 0), (53, .ireturn, 0, 0, 0, 0)]
def xp_M_exposed : xm_M := (⟨"FibrePairsModel", "exposed", "()I"⟩, prog_5_method_35_code, 3, (some .int), [], xt_M_exposed_0)
def xt_M_count_0 : List xm_I := [(0, .aload_n 0, 0, 0, 0, 0), (1, .iload_n 1, 0, 0, 0, 0), (2, .ifCond .lt 8, 10, 0, 0, 0), (5, .iload_n 1, 0, 0, 0, 0), (6, .iconst 4, 0, 0, 0, 0), (7, .if_icmp .le 7, 14, 0, 0, 0), (10, .iconst 1, 0, 0, 0, 0), (11, .goto 4, 15, 0, 0, 0), (14, .iconst 0, 0, 0, 0, 0), (15, .putfield 66, 3, 0, 0, 0), (18, .aload_n 0, 0, 0, 0, 0), (19, .getfield 66, 3, 0, 0, 0), (22, .ifCond .le 5, 27, 0, 0, 0), (25, .iconst 0, 0, 0, 0, 0), (26, .ireturn, 0, 0, 0, 0), (27, .iconst 0, 0, 0, 0, 0), (28, .istore_n 2, 0, 0, 0, 0), (29, .iconst 0, 0, 0, 0, 0), (30, .istore_n 3, 0, 0, 0, 0), (31, .iconst 0, 0, 0, 0, 0), (32, .istore 4, 0, 0, 0, 0), (34, .iconst 0, 0, 0, 0, 0), (35, .istore 5, 0, 0, 0, 0), (37, .iload 5, 0, 0, 0, 0), (39, .bipush 12, 0, 0, 0, 0), (41, .if_icmp .ge 22, 63, 0, 0, 0), (44, .aload_n 0, 0, 0, 0, 0), (45, .getfield 27, 3, 8, 0, 0), (48, .iload 5, 0, 0, 0, 0), (50, .baload, 0, 0, 0, 0), (51, .ifCond .eq 6, 57, 0, 0, 0), (54, .iinc 2 1, 0, 0, 0, 0), (57, .iinc 5 1, 0, 0, 0, 0), (60, .goto (-23), 37, 0, 0, 0), (63, .iconst 0, 0, 0, 0, 0), (64, .istore 5, 0, 0, 0, 0), (66, .iload 5, 0, 0, 0, 0), (68, .aload_n 0, 0, 0, 0, 0), (69, .getfield 69, 3, 2, 0, 0), (72, .if_icmp .ge 48, 120, 0, 0, 0), (75, .aload_n 0, 0, 0, 0, 0), (76, .getfield 20, 3, 5, 0, 0), (79, .iload 5, 0, 0, 0, 0), (81, .baload, 0, 0, 0, 0), (82, .ifCond .eq 9, 91, 0, 0, 0), (85, .iload_n 3, 0, 0, 0, 0), (86, .iconst 1, 0, 0, 0, 0), (87, .iadd, 0, 0, 0, 0), (88, .goto 4, 92, 0, 0, 0), (91, .iload_n 3, 0, 0, 0, 0), (92, .istore_n 3, 0, 0, 0, 0), (93, .aload_n 0, 0, 0, 0, 0), (94, .getfield 24, 3, 6, 0, 0), (97, .iload 5, 0, 0, 0, 0), (99, .baload, 0, 0, 0, 0), (100, .ifCond .eq 10, 110, 0, 0, 0), (103, .iload 4, 0, 0, 0, 0), (105, .iconst 1, 0, 0, 0, 0), (106, .iadd, 0, 0, 0, 0), (107, .goto 5, 112, 0, 0, 0)]
def xt_M_count_1 : List xm_I := [(110, .iload 4, 0, 0, 0, 0), (112, .istore 4, 0, 0, 0, 0), (114, .iinc 5 1, 0, 0, 0, 0), (117, .goto (-51), 66, 0, 0, 0), (120, .iload_n 1, 0, 0, 0, 0), (121, .ifCond .ne 10, 131, 0, 0, 0), (124, .aload_n 0, 0, 0, 0, 0), (125, .getfield 7, 3, 1, 0, 0), (128, .goto 35, 163, 0, 0, 0), (131, .iload_n 1, 0, 0, 0, 0), (132, .iconst 1, 0, 0, 0, 0), (133, .if_icmp .ne 10, 143, 0, 0, 0), (136, .aload_n 0, 0, 0, 0, 0), (137, .getfield 69, 3, 2, 0, 0), (140, .goto 23, 163, 0, 0, 0), (143, .iload_n 1, 0, 0, 0, 0), (144, .iconst 2, 0, 0, 0, 0), (145, .if_icmp .ne 7, 152, 0, 0, 0), (148, .iload_n 2, 0, 0, 0, 0), (149, .goto 14, 163, 0, 0, 0), (152, .iload_n 1, 0, 0, 0, 0), (153, .iconst 3, 0, 0, 0, 0), (154, .if_icmp .ne 7, 161, 0, 0, 0), (157, .iload_n 3, 0, 0, 0, 0), (158, .goto 5, 163, 0, 0, 0), (161, .iload 4, 0, 0, 0, 0), (163, .ireturn, 0, 0, 0, 0)]
def xp_M_count : xm_M := (⟨"FibrePairsModel", "count", "(I)I"⟩, prog_5_method_36_code, 6, (some .int), [], xt_M_count_0 ++ xt_M_count_1)
def xt_L_law_0 : List xm_I := [(0, .new 8, 2, 0, 0, 0), (3, .dup, 0, 0, 0, 0), (4, .invokespecial 67, 0, 0, 0, 0), (7, .astore_n 1, 0, 0, 0, 0), (8, .new 68, 3, 0, 0, 0), (11, .dup, 0, 0, 0, 0), (12, .invokespecial 70, 68, 0, 0, 0), (15, .astore_n 2, 0, 0, 0, 0), (16, .iconst 1, 0, 0, 0, 0), (17, .newarray .long, 2, 0, 0, 0), (19, .astore_n 3, 0, 0, 0, 0), (20, .iconst 0, 0, 0, 0, 0), (21, .istore 4, 0, 0, 0, 0), (23, .iload 4, 0, 0, 0, 0), (25, .aload_n 0, 0, 0, 0, 0), (26, .arraylength, 0, 0, 0, 0), (27, .iconst 4, 0, 0, 0, 0), (28, .isub, 0, 0, 0, 0), (29, .if_icmp .gt 1033, 1062, 0, 0, 0), (32, .aload_n 0, 0, 0, 0, 0), (33, .iload 4, 0, 0, 0, 0), (35, .iaload, 0, 0, 0, 0), (36, .bipush 31, 0, 0, 0, 0), (38, .iand, 0, 0, 0, 0), (39, .tableswitch 1017 0 16 #[81, 117, 197, 293, 329, 393, 429, 465, 501, 512, 608, 676, 744, 800, 868, 948, 961], 0, 0, 81, 0), (120, .aload_n 1, 0, 0, 0, 0), (121, .aload_n 0, 0, 0, 0, 0), (122, .iload 4, 0, 0, 0, 0), (124, .iconst 1, 0, 0, 0, 0), (125, .iadd, 0, 0, 0, 0), (126, .iaload, 0, 0, 0, 0), (127, .invokestatic 71, 10, 2, 0, 0), (130, .istore 5, 0, 0, 0, 0), (132, .aload_n 2, 0, 0, 0, 0), (133, .aload_n 0, 0, 0, 0, 0), (134, .iload 4, 0, 0, 0, 0), (136, .iconst 1, 0, 0, 0, 0), (137, .iadd, 0, 0, 0, 0), (138, .iaload, 0, 0, 0, 0), (139, .invokevirtual 76, 70, 2, 3, 0), (142, .aload_n 2, 0, 0, 0, 0), (143, .invokevirtual 77, 69, 1, 3, 0), (146, .iload 5, 0, 0, 0, 0), (148, .if_icmp .eq 5, 153, 0, 0, 0), (151, .iconst 0, 0, 0, 0, 0), (152, .ireturn, 0, 0, 0, 1), (153, .goto 903, 1056, 0, 0, 0), (156, .aload_n 1, 0, 0, 0, 0), (157, .aload_n 0, 0, 0, 0, 0), (158, .iload 4, 0, 0, 0, 0), (160, .iconst 1, 0, 0, 0, 0), (161, .iadd, 0, 0, 0, 0), (162, .iaload, 0, 0, 0, 0), (163, .aload_n 0, 0, 0, 0, 0), (164, .iload 4, 0, 0, 0, 0), (166, .iconst 2, 0, 0, 0, 0), (167, .iadd, 0, 0, 0, 0), (168, .iaload, 0, 0, 0, 0), (169, .aload_n 0, 0, 0, 0, 0), (170, .iload 4, 0, 0, 0, 0)]
def xt_L_law_1 : List xm_I := [(172, .iconst 3, 0, 0, 0, 0), (173, .iadd, 0, 0, 0, 0), (174, .iaload, 0, 0, 0, 0), (175, .aload_n 3, 0, 0, 0, 0), (176, .invokestatic 81, 13, 5, 0, 0), (179, .istore 5, 0, 0, 0, 0), (181, .aload_n 2, 0, 0, 0, 0), (182, .aload_n 0, 0, 0, 0, 0), (183, .iload 4, 0, 0, 0, 0), (185, .iconst 1, 0, 0, 0, 0), (186, .iadd, 0, 0, 0, 0), (187, .iaload, 0, 0, 0, 0), (188, .aload_n 0, 0, 0, 0, 0), (189, .iload 4, 0, 0, 0, 0), (191, .iconst 2, 0, 0, 0, 0), (192, .iadd, 0, 0, 0, 0), (193, .iaload, 0, 0, 0, 0), (194, .aload_n 0, 0, 0, 0, 0), (195, .iload 4, 0, 0, 0, 0), (197, .iconst 3, 0, 0, 0, 0), (198, .iadd, 0, 0, 0, 0), (199, .iaload, 0, 0, 0, 0), (200, .invokevirtual 84, 71, 4, 3, 0), (203, .istore 6, 0, 0, 0, 0), (205, .aload_n 2, 0, 0, 0, 0), (206, .invokevirtual 77, 69, 1, 3, 0), (209, .iload 5, 0, 0, 0, 0), (211, .if_icmp .eq 5, 216, 0, 0, 0), (214, .iconst 0, 0, 0, 0, 0), (215, .ireturn, 0, 0, 0, 1), (216, .iload 5, 0, 0, 0, 0), (218, .ifCond .ne 15, 233, 0, 0, 0), (221, .aload_n 3, 0, 0, 0, 0), (222, .iconst 0, 0, 0, 0, 0), (223, .laload, 0, 0, 0, 0), (224, .iload 6, 0, 0, 0, 0), (226, .i2l, 0, 0, 0, 0), (227, .lcmp, 0, 0, 0, 0), (228, .ifCond .eq 5, 233, 0, 0, 0), (231, .iconst 0, 0, 0, 0, 0), (232, .ireturn, 0, 0, 0, 1), (233, .goto 823, 1056, 0, 0, 0), (236, .aload_n 1, 0, 0, 0, 0), (237, .aload_n 0, 0, 0, 0, 0), (238, .iload 4, 0, 0, 0, 0), (240, .iconst 1, 0, 0, 0, 0), (241, .iadd, 0, 0, 0, 0), (242, .iaload, 0, 0, 0, 0), (243, .aload_n 0, 0, 0, 0, 0), (244, .iload 4, 0, 0, 0, 0), (246, .iconst 2, 0, 0, 0, 0), (247, .iadd, 0, 0, 0, 0), (248, .iaload, 0, 0, 0, 0), (249, .aload_n 0, 0, 0, 0, 0), (250, .iload 4, 0, 0, 0, 0), (252, .iconst 3, 0, 0, 0, 0), (253, .iadd, 0, 0, 0, 0), (254, .iaload, 0, 0, 0, 0), (255, .ifCond .eq 7, 262, 0, 0, 0), (258, .iconst 1, 0, 0, 0, 0)]
def xt_L_law_2 : List xm_I := [(259, .goto 4, 263, 0, 0, 0), (262, .iconst 0, 0, 0, 0, 0), (263, .aload_n 3, 0, 0, 0, 0), (264, .invokestatic 85, 17, 5, 0, 0), (267, .istore 5, 0, 0, 0, 0), (269, .aload_n 2, 0, 0, 0, 0), (270, .aload_n 0, 0, 0, 0, 0), (271, .iload 4, 0, 0, 0, 0), (273, .iconst 1, 0, 0, 0, 0), (274, .iadd, 0, 0, 0, 0), (275, .iaload, 0, 0, 0, 0), (276, .aload_n 0, 0, 0, 0, 0), (277, .iload 4, 0, 0, 0, 0), (279, .iconst 2, 0, 0, 0, 0), (280, .iadd, 0, 0, 0, 0), (281, .iaload, 0, 0, 0, 0), (282, .aload_n 0, 0, 0, 0, 0), (283, .iload 4, 0, 0, 0, 0), (285, .iconst 3, 0, 0, 0, 0), (286, .iadd, 0, 0, 0, 0), (287, .iaload, 0, 0, 0, 0), (288, .ifCond .eq 7, 295, 0, 0, 0), (291, .iconst 1, 0, 0, 0, 0), (292, .goto 4, 296, 0, 0, 0), (295, .iconst 0, 0, 0, 0, 0), (296, .invokevirtual 88, 73, 4, 3, 0), (299, .istore 6, 0, 0, 0, 0), (301, .aload_n 2, 0, 0, 0, 0), (302, .invokevirtual 77, 69, 1, 3, 0), (305, .iload 5, 0, 0, 0, 0), (307, .if_icmp .eq 5, 312, 0, 0, 0), (310, .iconst 0, 0, 0, 0, 0), (311, .ireturn, 0, 0, 0, 1), (312, .iload 5, 0, 0, 0, 0), (314, .ifCond .ne 15, 329, 0, 0, 0), (317, .aload_n 3, 0, 0, 0, 0), (318, .iconst 0, 0, 0, 0, 0), (319, .laload, 0, 0, 0, 0), (320, .iload 6, 0, 0, 0, 0), (322, .i2l, 0, 0, 0, 0), (323, .lcmp, 0, 0, 0, 0), (324, .ifCond .eq 5, 329, 0, 0, 0), (327, .iconst 0, 0, 0, 0, 0), (328, .ireturn, 0, 0, 0, 1), (329, .goto 727, 1056, 0, 0, 0), (332, .aload_n 1, 0, 0, 0, 0), (333, .aload_n 0, 0, 0, 0, 0), (334, .iload 4, 0, 0, 0, 0), (336, .iconst 1, 0, 0, 0, 0), (337, .iadd, 0, 0, 0, 0), (338, .iaload, 0, 0, 0, 0), (339, .invokestatic 89, 37, 2, 0, 0), (342, .istore 5, 0, 0, 0, 0), (344, .aload_n 2, 0, 0, 0, 0), (345, .aload_n 0, 0, 0, 0, 0), (346, .iload 4, 0, 0, 0, 0), (348, .iconst 1, 0, 0, 0, 0), (349, .iadd, 0, 0, 0, 0), (350, .iaload, 0, 0, 0, 0), (351, .invokevirtual 91, 86, 2, 3, 0)]
def xt_L_law_3 : List xm_I := [(354, .aload_n 2, 0, 0, 0, 0), (355, .invokevirtual 77, 69, 1, 3, 0), (358, .iload 5, 0, 0, 0, 0), (360, .if_icmp .eq 5, 365, 0, 0, 0), (363, .iconst 0, 0, 0, 0, 0), (364, .ireturn, 0, 0, 0, 1), (365, .goto 691, 1056, 0, 0, 0), (368, .aload_n 1, 0, 0, 0, 0), (369, .aload_n 0, 0, 0, 0, 0), (370, .iload 4, 0, 0, 0, 0), (372, .iconst 1, 0, 0, 0, 0), (373, .iadd, 0, 0, 0, 0), (374, .iaload, 0, 0, 0, 0), (375, .aload_n 0, 0, 0, 0, 0), (376, .iload 4, 0, 0, 0, 0), (378, .iconst 2, 0, 0, 0, 0), (379, .iadd, 0, 0, 0, 0), (380, .iaload, 0, 0, 0, 0), (381, .ifCond .eq 7, 388, 0, 0, 0), (384, .iconst 1, 0, 0, 0, 0), (385, .goto 4, 389, 0, 0, 0), (388, .iconst 0, 0, 0, 0, 0), (389, .invokestatic 92, 40, 3, 0, 0), (392, .istore 5, 0, 0, 0, 0), (394, .aload_n 2, 0, 0, 0, 0), (395, .aload_n 0, 0, 0, 0, 0), (396, .iload 4, 0, 0, 0, 0), (398, .iconst 1, 0, 0, 0, 0), (399, .iadd, 0, 0, 0, 0), (400, .iaload, 0, 0, 0, 0), (401, .aload_n 0, 0, 0, 0, 0), (402, .iload 4, 0, 0, 0, 0), (404, .iconst 2, 0, 0, 0, 0), (405, .iadd, 0, 0, 0, 0), (406, .iaload, 0, 0, 0, 0), (407, .ifCond .eq 7, 414, 0, 0, 0), (410, .iconst 1, 0, 0, 0, 0), (411, .goto 4, 415, 0, 0, 0), (414, .iconst 0, 0, 0, 0, 0), (415, .invokevirtual 95, 88, 3, 3, 0), (418, .aload_n 2, 0, 0, 0, 0), (419, .invokevirtual 77, 69, 1, 3, 0), (422, .iload 5, 0, 0, 0, 0), (424, .if_icmp .eq 5, 429, 0, 0, 0), (427, .iconst 0, 0, 0, 0, 0), (428, .ireturn, 0, 0, 0, 1), (429, .goto 627, 1056, 0, 0, 0), (432, .aload_n 1, 0, 0, 0, 0), (433, .aload_n 0, 0, 0, 0, 0), (434, .iload 4, 0, 0, 0, 0), (436, .iconst 1, 0, 0, 0, 0), (437, .iadd, 0, 0, 0, 0), (438, .iaload, 0, 0, 0, 0), (439, .invokestatic 96, 43, 2, 0, 0), (442, .istore 5, 0, 0, 0, 0), (444, .aload_n 2, 0, 0, 0, 0), (445, .aload_n 0, 0, 0, 0, 0), (446, .iload 4, 0, 0, 0, 0), (448, .iconst 1, 0, 0, 0, 0), (449, .iadd, 0, 0, 0, 0)]
def xt_L_law_4 : List xm_I := [(450, .iaload, 0, 0, 0, 0), (451, .invokevirtual 98, 90, 2, 3, 0), (454, .aload_n 2, 0, 0, 0, 0), (455, .invokevirtual 77, 69, 1, 3, 0), (458, .iload 5, 0, 0, 0, 0), (460, .if_icmp .eq 5, 465, 0, 0, 0), (463, .iconst 0, 0, 0, 0, 0), (464, .ireturn, 0, 0, 0, 1), (465, .goto 591, 1056, 0, 0, 0), (468, .aload_n 1, 0, 0, 0, 0), (469, .aload_n 0, 0, 0, 0, 0), (470, .iload 4, 0, 0, 0, 0), (472, .iconst 1, 0, 0, 0, 0), (473, .iadd, 0, 0, 0, 0), (474, .iaload, 0, 0, 0, 0), (475, .invokestatic 99, 45, 2, 0, 0), (478, .istore 5, 0, 0, 0, 0), (480, .aload_n 2, 0, 0, 0, 0), (481, .aload_n 0, 0, 0, 0, 0), (482, .iload 4, 0, 0, 0, 0), (484, .iconst 1, 0, 0, 0, 0), (485, .iadd, 0, 0, 0, 0), (486, .iaload, 0, 0, 0, 0), (487, .invokevirtual 101, 93, 2, 3, 0), (490, .aload_n 2, 0, 0, 0, 0), (491, .invokevirtual 77, 69, 1, 3, 0), (494, .iload 5, 0, 0, 0, 0), (496, .if_icmp .eq 5, 501, 0, 0, 0), (499, .iconst 0, 0, 0, 0, 0), (500, .ireturn, 0, 0, 0, 1), (501, .goto 555, 1056, 0, 0, 0), (504, .aload_n 1, 0, 0, 0, 0), (505, .aload_n 0, 0, 0, 0, 0), (506, .iload 4, 0, 0, 0, 0), (508, .iconst 1, 0, 0, 0, 0), (509, .iadd, 0, 0, 0, 0), (510, .iaload, 0, 0, 0, 0), (511, .invokestatic 102, 47, 2, 0, 0), (514, .istore 5, 0, 0, 0, 0), (516, .aload_n 2, 0, 0, 0, 0), (517, .aload_n 0, 0, 0, 0, 0), (518, .iload 4, 0, 0, 0, 0), (520, .iconst 1, 0, 0, 0, 0), (521, .iadd, 0, 0, 0, 0), (522, .iaload, 0, 0, 0, 0), (523, .invokevirtual 104, 94, 2, 3, 0), (526, .aload_n 2, 0, 0, 0, 0), (527, .invokevirtual 77, 69, 1, 3, 0), (530, .iload 5, 0, 0, 0, 0), (532, .if_icmp .eq 5, 537, 0, 0, 0), (535, .iconst 0, 0, 0, 0, 0), (536, .ireturn, 0, 0, 0, 1), (537, .goto 519, 1056, 0, 0, 0), (540, .aload_n 1, 0, 0, 0, 0), (541, .invokevirtual 105, 3, 1, 2, 0), (544, .aload_n 2, 0, 0, 0, 0), (545, .invokevirtual 108, 95, 1, 3, 0), (548, .goto 508, 1056, 0, 0, 0), (551, .aload_n 1, 0, 0, 0, 0), (552, .aload_n 0, 0, 0, 0, 0)]
def xt_L_law_5 : List xm_I := [(553, .iload 4, 0, 0, 0, 0), (555, .iconst 1, 0, 0, 0, 0), (556, .iadd, 0, 0, 0, 0), (557, .iaload, 0, 0, 0, 0), (558, .aload_n 0, 0, 0, 0, 0), (559, .iload 4, 0, 0, 0, 0), (561, .iconst 2, 0, 0, 0, 0), (562, .iadd, 0, 0, 0, 0), (563, .iaload, 0, 0, 0, 0), (564, .ifCond .eq 7, 571, 0, 0, 0), (567, .iconst 1, 0, 0, 0, 0), (568, .goto 4, 572, 0, 0, 0), (571, .iconst 0, 0, 0, 0, 0), (572, .aload_n 0, 0, 0, 0, 0), (573, .iload 4, 0, 0, 0, 0), (575, .iconst 3, 0, 0, 0, 0), (576, .iadd, 0, 0, 0, 0), (577, .iaload, 0, 0, 0, 0), (578, .aload_n 3, 0, 0, 0, 0), (579, .invokestatic 109, 49, 5, 0, 0), (582, .istore 5, 0, 0, 0, 0), (584, .aload_n 2, 0, 0, 0, 0), (585, .aload_n 0, 0, 0, 0, 0), (586, .iload 4, 0, 0, 0, 0), (588, .iconst 1, 0, 0, 0, 0), (589, .iadd, 0, 0, 0, 0), (590, .iaload, 0, 0, 0, 0), (591, .aload_n 0, 0, 0, 0, 0), (592, .iload 4, 0, 0, 0, 0), (594, .iconst 2, 0, 0, 0, 0), (595, .iadd, 0, 0, 0, 0), (596, .iaload, 0, 0, 0, 0), (597, .ifCond .eq 7, 604, 0, 0, 0), (600, .iconst 1, 0, 0, 0, 0), (601, .goto 4, 605, 0, 0, 0), (604, .iconst 0, 0, 0, 0, 0), (605, .aload_n 0, 0, 0, 0, 0), (606, .iload 4, 0, 0, 0, 0), (608, .iconst 3, 0, 0, 0, 0), (609, .iadd, 0, 0, 0, 0), (610, .iaload, 0, 0, 0, 0), (611, .invokevirtual 112, 97, 4, 3, 0), (614, .istore 6, 0, 0, 0, 0), (616, .aload_n 2, 0, 0, 0, 0), (617, .invokevirtual 77, 69, 1, 3, 0), (620, .iload 5, 0, 0, 0, 0), (622, .if_icmp .eq 5, 627, 0, 0, 0), (625, .iconst 0, 0, 0, 0, 0), (626, .ireturn, 0, 0, 0, 1), (627, .iload 5, 0, 0, 0, 0), (629, .ifCond .ne 15, 644, 0, 0, 0), (632, .aload_n 3, 0, 0, 0, 0), (633, .iconst 0, 0, 0, 0, 0), (634, .laload, 0, 0, 0, 0), (635, .iload 6, 0, 0, 0, 0), (637, .i2l, 0, 0, 0, 0), (638, .lcmp, 0, 0, 0, 0), (639, .ifCond .eq 5, 644, 0, 0, 0), (642, .iconst 0, 0, 0, 0, 0), (643, .ireturn, 0, 0, 0, 1)]
def xt_L_law_6 : List xm_I := [(644, .goto 412, 1056, 0, 0, 0), (647, .aload_n 1, 0, 0, 0, 0), (648, .aload_n 0, 0, 0, 0, 0), (649, .iload 4, 0, 0, 0, 0), (651, .iconst 1, 0, 0, 0, 0), (652, .iadd, 0, 0, 0, 0), (653, .iaload, 0, 0, 0, 0), (654, .aload_n 0, 0, 0, 0, 0), (655, .iload 4, 0, 0, 0, 0), (657, .iconst 2, 0, 0, 0, 0), (658, .iadd, 0, 0, 0, 0), (659, .iaload, 0, 0, 0, 0), (660, .aload_n 3, 0, 0, 0, 0), (661, .invokestatic 113, 53, 4, 0, 0), (664, .istore 5, 0, 0, 0, 0), (666, .aload_n 2, 0, 0, 0, 0), (667, .aload_n 0, 0, 0, 0, 0), (668, .iload 4, 0, 0, 0, 0), (670, .iconst 1, 0, 0, 0, 0), (671, .iadd, 0, 0, 0, 0), (672, .iaload, 0, 0, 0, 0), (673, .aload_n 0, 0, 0, 0, 0), (674, .iload 4, 0, 0, 0, 0), (676, .iconst 2, 0, 0, 0, 0), (677, .iadd, 0, 0, 0, 0), (678, .iaload, 0, 0, 0, 0), (679, .invokevirtual 116, 98, 3, 3, 0), (682, .istore 6, 0, 0, 0, 0), (684, .aload_n 2, 0, 0, 0, 0), (685, .invokevirtual 77, 69, 1, 3, 0), (688, .iload 5, 0, 0, 0, 0), (690, .if_icmp .eq 5, 695, 0, 0, 0), (693, .iconst 0, 0, 0, 0, 0), (694, .ireturn, 0, 0, 0, 1), (695, .iload 5, 0, 0, 0, 0), (697, .ifCond .ne 15, 712, 0, 0, 0), (700, .aload_n 3, 0, 0, 0, 0), (701, .iconst 0, 0, 0, 0, 0), (702, .laload, 0, 0, 0, 0), (703, .iload 6, 0, 0, 0, 0), (705, .i2l, 0, 0, 0, 0), (706, .lcmp, 0, 0, 0, 0), (707, .ifCond .eq 5, 712, 0, 0, 0), (710, .iconst 0, 0, 0, 0, 0), (711, .ireturn, 0, 0, 0, 1), (712, .goto 344, 1056, 0, 0, 0), (715, .aload_n 1, 0, 0, 0, 0), (716, .aload_n 0, 0, 0, 0, 0), (717, .iload 4, 0, 0, 0, 0), (719, .iconst 1, 0, 0, 0, 0), (720, .iadd, 0, 0, 0, 0), (721, .iaload, 0, 0, 0, 0), (722, .aload_n 0, 0, 0, 0, 0), (723, .iload 4, 0, 0, 0, 0), (725, .iconst 2, 0, 0, 0, 0), (726, .iadd, 0, 0, 0, 0), (727, .iaload, 0, 0, 0, 0), (728, .aload_n 3, 0, 0, 0, 0), (729, .invokestatic 117, 56, 4, 0, 0), (732, .istore 5, 0, 0, 0, 0)]
def xt_L_law_7 : List xm_I := [(734, .aload_n 2, 0, 0, 0, 0), (735, .aload_n 0, 0, 0, 0, 0), (736, .iload 4, 0, 0, 0, 0), (738, .iconst 1, 0, 0, 0, 0), (739, .iadd, 0, 0, 0, 0), (740, .iaload, 0, 0, 0, 0), (741, .aload_n 0, 0, 0, 0, 0), (742, .iload 4, 0, 0, 0, 0), (744, .iconst 2, 0, 0, 0, 0), (745, .iadd, 0, 0, 0, 0), (746, .iaload, 0, 0, 0, 0), (747, .invokevirtual 119, 99, 3, 3, 0), (750, .istore 6, 0, 0, 0, 0), (752, .aload_n 2, 0, 0, 0, 0), (753, .invokevirtual 77, 69, 1, 3, 0), (756, .iload 5, 0, 0, 0, 0), (758, .if_icmp .eq 5, 763, 0, 0, 0), (761, .iconst 0, 0, 0, 0, 0), (762, .ireturn, 0, 0, 0, 1), (763, .iload 5, 0, 0, 0, 0), (765, .ifCond .ne 15, 780, 0, 0, 0), (768, .aload_n 3, 0, 0, 0, 0), (769, .iconst 0, 0, 0, 0, 0), (770, .laload, 0, 0, 0, 0), (771, .iload 6, 0, 0, 0, 0), (773, .i2l, 0, 0, 0, 0), (774, .lcmp, 0, 0, 0, 0), (775, .ifCond .eq 5, 780, 0, 0, 0), (778, .iconst 0, 0, 0, 0, 0), (779, .ireturn, 0, 0, 0, 1), (780, .goto 276, 1056, 0, 0, 0), (783, .aload_n 1, 0, 0, 0, 0), (784, .aload_n 0, 0, 0, 0, 0), (785, .iload 4, 0, 0, 0, 0), (787, .iconst 1, 0, 0, 0, 0), (788, .iadd, 0, 0, 0, 0), (789, .iaload, 0, 0, 0, 0), (790, .aload_n 3, 0, 0, 0, 0), (791, .invokestatic 120, 59, 3, 0, 0), (794, .istore 5, 0, 0, 0, 0), (796, .aload_n 2, 0, 0, 0, 0), (797, .aload_n 0, 0, 0, 0, 0), (798, .iload 4, 0, 0, 0, 0), (800, .iconst 1, 0, 0, 0, 0), (801, .iadd, 0, 0, 0, 0), (802, .iaload, 0, 0, 0, 0), (803, .invokevirtual 123, 96, 2, 3, 0), (806, .istore 6, 0, 0, 0, 0), (808, .aload_n 2, 0, 0, 0, 0), (809, .invokevirtual 77, 69, 1, 3, 0), (812, .iload 5, 0, 0, 0, 0), (814, .if_icmp .eq 5, 819, 0, 0, 0), (817, .iconst 0, 0, 0, 0, 0), (818, .ireturn, 0, 0, 0, 1), (819, .iload 5, 0, 0, 0, 0), (821, .ifCond .ne 15, 836, 0, 0, 0), (824, .aload_n 3, 0, 0, 0, 0), (825, .iconst 0, 0, 0, 0, 0), (826, .laload, 0, 0, 0, 0), (827, .iload 6, 0, 0, 0, 0)]
def xt_L_law_8 : List xm_I := [(829, .i2l, 0, 0, 0, 0), (830, .lcmp, 0, 0, 0, 0), (831, .ifCond .eq 5, 836, 0, 0, 0), (834, .iconst 0, 0, 0, 0, 0), (835, .ireturn, 0, 0, 0, 1), (836, .goto 220, 1056, 0, 0, 0), (839, .aload_n 1, 0, 0, 0, 0), (840, .aload_n 0, 0, 0, 0, 0), (841, .iload 4, 0, 0, 0, 0), (843, .iconst 1, 0, 0, 0, 0), (844, .iadd, 0, 0, 0, 0), (845, .iaload, 0, 0, 0, 0), (846, .aload_n 0, 0, 0, 0, 0), (847, .iload 4, 0, 0, 0, 0), (849, .iconst 2, 0, 0, 0, 0), (850, .iadd, 0, 0, 0, 0), (851, .iaload, 0, 0, 0, 0), (852, .aload_n 3, 0, 0, 0, 0), (853, .invokestatic 124, 61, 4, 0, 0), (856, .istore 5, 0, 0, 0, 0), (858, .aload_n 2, 0, 0, 0, 0), (859, .aload_n 0, 0, 0, 0, 0), (860, .iload 4, 0, 0, 0, 0), (862, .iconst 1, 0, 0, 0, 0), (863, .iadd, 0, 0, 0, 0), (864, .iaload, 0, 0, 0, 0), (865, .aload_n 0, 0, 0, 0, 0), (866, .iload 4, 0, 0, 0, 0), (868, .iconst 2, 0, 0, 0, 0), (869, .iadd, 0, 0, 0, 0), (870, .iaload, 0, 0, 0, 0), (871, .invokevirtual 126, 100, 3, 3, 0), (874, .istore 6, 0, 0, 0, 0), (876, .aload_n 2, 0, 0, 0, 0), (877, .invokevirtual 77, 69, 1, 3, 0), (880, .iload 5, 0, 0, 0, 0), (882, .if_icmp .eq 5, 887, 0, 0, 0), (885, .iconst 0, 0, 0, 0, 0), (886, .ireturn, 0, 0, 0, 1), (887, .iload 5, 0, 0, 0, 0), (889, .ifCond .ne 15, 904, 0, 0, 0), (892, .aload_n 3, 0, 0, 0, 0), (893, .iconst 0, 0, 0, 0, 0), (894, .laload, 0, 0, 0, 0), (895, .iload 6, 0, 0, 0, 0), (897, .i2l, 0, 0, 0, 0), (898, .lcmp, 0, 0, 0, 0), (899, .ifCond .eq 5, 904, 0, 0, 0), (902, .iconst 0, 0, 0, 0, 0), (903, .ireturn, 0, 0, 0, 1), (904, .goto 152, 1056, 0, 0, 0), (907, .aload_n 1, 0, 0, 0, 0), (908, .aload_n 0, 0, 0, 0, 0), (909, .iload 4, 0, 0, 0, 0), (911, .iconst 1, 0, 0, 0, 0), (912, .iadd, 0, 0, 0, 0), (913, .iaload, 0, 0, 0, 0), (914, .aload_n 0, 0, 0, 0, 0), (915, .iload 4, 0, 0, 0, 0), (917, .iconst 2, 0, 0, 0, 0)]
def xt_L_law_9 : List xm_I := [(918, .iadd, 0, 0, 0, 0), (919, .iaload, 0, 0, 0, 0), (920, .aload_n 0, 0, 0, 0, 0), (921, .iload 4, 0, 0, 0, 0), (923, .iconst 3, 0, 0, 0, 0), (924, .iadd, 0, 0, 0, 0), (925, .iaload, 0, 0, 0, 0), (926, .aload_n 3, 0, 0, 0, 0), (927, .invokestatic 127, 63, 5, 0, 0), (930, .istore 5, 0, 0, 0, 0), (932, .aload_n 2, 0, 0, 0, 0), (933, .aload_n 0, 0, 0, 0, 0), (934, .iload 4, 0, 0, 0, 0), (936, .iconst 1, 0, 0, 0, 0), (937, .iadd, 0, 0, 0, 0), (938, .iaload, 0, 0, 0, 0), (939, .aload_n 0, 0, 0, 0, 0), (940, .iload 4, 0, 0, 0, 0), (942, .iconst 2, 0, 0, 0, 0), (943, .iadd, 0, 0, 0, 0), (944, .iaload, 0, 0, 0, 0), (945, .aload_n 0, 0, 0, 0, 0), (946, .iload 4, 0, 0, 0, 0), (948, .iconst 3, 0, 0, 0, 0), (949, .iadd, 0, 0, 0, 0), (950, .iaload, 0, 0, 0, 0), (951, .invokevirtual 129, 101, 4, 3, 0), (954, .istore 6, 0, 0, 0, 0), (956, .aload_n 2, 0, 0, 0, 0), (957, .invokevirtual 77, 69, 1, 3, 0), (960, .iload 5, 0, 0, 0, 0), (962, .if_icmp .eq 5, 967, 0, 0, 0), (965, .iconst 0, 0, 0, 0, 0), (966, .ireturn, 0, 0, 0, 1), (967, .iload 5, 0, 0, 0, 0), (969, .ifCond .ne 15, 984, 0, 0, 0), (972, .aload_n 3, 0, 0, 0, 0), (973, .iconst 0, 0, 0, 0, 0), (974, .laload, 0, 0, 0, 0), (975, .iload 6, 0, 0, 0, 0), (977, .i2l, 0, 0, 0, 0), (978, .lcmp, 0, 0, 0, 0), (979, .ifCond .eq 5, 984, 0, 0, 0), (982, .iconst 0, 0, 0, 0, 0), (983, .ireturn, 0, 0, 0, 1), (984, .goto 72, 1056, 0, 0, 0), (987, .aload_n 1, 0, 0, 0, 0), (988, .invokevirtual 130, 9, 1, 2, 0), (991, .aload_n 2, 0, 0, 0, 0), (992, .invokevirtual 133, 102, 1, 3, 0), (995, .if_icmp .eq 61, 1056, 0, 0, 0), (998, .iconst 0, 0, 0, 0, 0), (999, .ireturn, 0, 0, 0, 1), (1000, .aload_n 1, 0, 0, 0, 0), (1001, .aload_n 0, 0, 0, 0, 0), (1002, .iload 4, 0, 0, 0, 0), (1004, .iconst 1, 0, 0, 0, 0), (1005, .iadd, 0, 0, 0, 0), (1006, .iaload, 0, 0, 0, 0), (1007, .aload_n 3, 0, 0, 0, 0)]
def xt_L_law_10 : List xm_I := [(1008, .invokestatic 134, 65, 3, 0, 0), (1011, .istore 5, 0, 0, 0, 0), (1013, .aload_n 2, 0, 0, 0, 0), (1014, .aload_n 0, 0, 0, 0, 0), (1015, .iload 4, 0, 0, 0, 0), (1017, .iconst 1, 0, 0, 0, 0), (1018, .iadd, 0, 0, 0, 0), (1019, .iaload, 0, 0, 0, 0), (1020, .invokevirtual 136, 103, 2, 3, 0), (1023, .istore 6, 0, 0, 0, 0), (1025, .aload_n 2, 0, 0, 0, 0), (1026, .invokevirtual 77, 69, 1, 3, 0), (1029, .iload 5, 0, 0, 0, 0), (1031, .if_icmp .eq 5, 1036, 0, 0, 0), (1034, .iconst 0, 0, 0, 0, 0), (1035, .ireturn, 0, 0, 0, 1), (1036, .iload 5, 0, 0, 0, 0), (1038, .ifCond .ne 15, 1053, 0, 0, 0), (1041, .aload_n 3, 0, 0, 0, 0), (1042, .iconst 0, 0, 0, 0, 0), (1043, .laload, 0, 0, 0, 0), (1044, .iload 6, 0, 0, 0, 0), (1046, .i2l, 0, 0, 0, 0), (1047, .lcmp, 0, 0, 0, 0), (1048, .ifCond .eq 5, 1053, 0, 0, 0), (1051, .iconst 0, 0, 0, 0, 0), (1052, .ireturn, 0, 0, 0, 1), (1053, .goto 3, 1056, 0, 0, 0), (1056, .iinc 4 4, 0, 0, 0, 0), (1059, .goto (-1036), 23, 0, 0, 0), (1062, .iconst 1, 0, 0, 0, 0), (1063, .ireturn, 0, 0, 0, 1)]
def xp_L_law : xm_M := (⟨"FibrePairsLaw", "law", "([I)Z"⟩, code, 7, (some .boolean), [], xt_L_law_0 ++ xt_L_law_1 ++ xt_L_law_2 ++ xt_L_law_3 ++ xt_L_law_4 ++ xt_L_law_5 ++ xt_L_law_6 ++ xt_L_law_7 ++ xt_L_law_8 ++ xt_L_law_9 ++ xt_L_law_10)
def xP : List xm_M := [xp_F_init, xp_N_init, xp_C_init, xp_F_clock, xp_C_tick, xp_C_workingIsWhole, xp_F_changeOverAll, xp_C_changeOver, xp_C_spareIsWhole, xp_F_exposed, xp_L_clear, xp_F_clear, xp_N_startWith, xp_L_fibre, xp_F_fibre, xp_F_requireTwoSites, xp_N_add, xp_L_request, xp_F_request, xp_F_leastNotThere, xp_C_ask, xp_F_lay, xp_F_freeOn, xp_C_usedOn, xp_N_everyFibre, xp_N_bestPair, xp_N_bestPath, xp_N_openBothWays, xp_F_holds, xp_N_weight, xp_N_cheapestWay, xp_J_fill, xp_N_extend, xp_N_openBackOnly, xp_N_touching, xp_N_otherEnd, xp_C_settle, xp_L_release, xp_F_release, xp_F_requireConnection, xp_L_lock, xp_F_lock, xp_F_requireFibre, xp_L_cut, xp_F_cut, xp_L_mend, xp_F_mend, xp_L_hold, xp_F_hold, xp_L_path, xp_F_path, xp_N_step, xp_J_bitCount, xp_L_about, xp_F_about, xp_N_lengthOf, xp_L_user, xp_F_user, xp_F_requireWavelength, xp_L_move, xp_F_move, xp_L_fits, xp_F_fits, xp_L_bridge, xp_F_bridge, xp_L_count, xp_F_count, xp_F_connectionsThere, xp_M_init, xp_M_thrown, xp_M_clear, xp_M_fibre, xp_M_noSite, xp_M_request, xp_M_unused, xp_M_find, xp_M_free, xp_M_userOf, xp_M_bit, xp_M_findPair, xp_M_list, xp_M_lengthOf, xp_M_leads, xp_M_before, xp_M_findPath, xp_M_take, xp_M_release, xp_M_noConnection, xp_M_lock, xp_M_noFibre, xp_M_cut, xp_M_settle, xp_M_whole, xp_M_mend, xp_M_hold, xp_M_clock, xp_M_move, xp_M_path, xp_M_about, xp_M_user, xp_M_fits, xp_M_bridge, xp_M_exposed, xp_M_count, xp_L_law]
end
section
/-! 10.rules: how runs of the small machine are put together. -/
def xG (xs : Nat → Int32) (LS d mi : Nat) (F : xm_F) (S : xm_S) (Q : (Option Value ⊕ Nat) → xm_S → Prop) : Prop := ∃ (n : Nat) (r : Option Value ⊕ Nat) (S1 : xm_S), xm_run xs LS xKT xDF xP n d mi F S = some (r, S1) ∧ Q r S1
section XG
variable {xs : Nat → Int32} {LS d mi pc : Nat} {L : List (Option Value)} {st : List Value} {h : List va_E} {ks : Nat} {fl : Bool} {Q : (Option Value ⊕ Nat) → xm_S → Prop}
theorem xm_run_up {kt : List FieldType} {df : List (List Value)} {P : List xm_M} : ∀ (n d mi : Nat) (F : xm_F) (S : xm_S) (x : (Option Value ⊕ Nat) × xm_S), xm_run xs LS kt df P n d mi F S = some x → xm_run xs LS kt df P (n + 1) d mi F S = some x := by
  intro n
  induction n with
  | zero => intro d mi F S x h; simp [xm_run] at h
  | succ n ih =>
    intro d mi F S x h
    unfold xm_run at h ⊢
    cases ha : xm_act xs LS kt df P mi F S with
    | none => rw [ha] at h; cases h
    | some A =>
      rw [ha] at h
      rcases A with ⟨F', S'⟩ | v | ci | ⟨y, as, rest⟩
      · exact ih _ _ _ _ _ h
      · exact h
      · exact h
      · cases d with
        | zero => exact h
        | succ d' =>
          simp only at h ⊢
          cases hr : xm_run xs LS kt df P n d' y (0, xm_entry P y as, []) (S.1, S.2.1, true) with
          | none => rw [hr] at h; cases h
          | some q =>
            rw [hr] at h
            rw [ih _ _ _ _ _ hr]
            rcases q with ⟨v | i, S'⟩
            · exact ih _ _ _ _ _ h
            · simp only at h ⊢
              cases hi : S'.1[i]? with
              | none => rw [hi] at h; cases h
              | some c =>
                rw [hi] at h
                rcases c with c | ⟨ci, fs⟩
                · cases h
                · simp only at h ⊢
                  cases ht : xm_hand P mi F.1 ci with
                  | none => rw [ht] at h; exact h
                  | some t => rw [ht] at h; exact ih _ _ _ _ _ h
theorem xm_run_le {kt : List FieldType} {df : List (List Value)} {P : List xm_M} {n k d mi : Nat} {F : xm_F} {S : xm_S} {x : (Option Value ⊕ Nat) × xm_S} (hr : xm_run xs LS kt df P n d mi F S = some x) : xm_run xs LS kt df P (n + k) d mi F S = some x := by
  induction k with
  | zero => exact hr
  | succ k ih => exact xm_run_up _ _ _ _ _ _ ih
theorem xG.mono {F : xm_F} {S : xm_S} {Q' : (Option Value ⊕ Nat) → xm_S → Prop} (k : xG xs LS d mi F S Q) (hQ : ∀ r S1, Q r S1 → Q' r S1) : xG xs LS d mi F S Q' := by
  obtain ⟨n, r, S1, h1, h2⟩ := k
  exact ⟨n, r, S1, h1, hQ r S1 h2⟩
theorem xG.step {F F' : xm_F} {S S' : xm_S} (ha : xm_act xs LS xKT xDF xP mi F S = some (.inl (F', S'))) (k : xG xs LS d mi F' S' Q) : xG xs LS d mi F S Q := by
  obtain ⟨n, r, S1, h1, h2⟩ := k
  refine ⟨n + 1, r, S1, ?_, h2⟩
  unfold xm_run
  rw [ha]
  exact h1
theorem xG.ret {F : xm_F} {S : xm_S} {v : Option Value} (ha : xm_act xs LS xKT xDF xP mi F S = some (.inr (.inl v))) (k : Q (.inl v) S) : xG xs LS d mi F S Q := by
  refine ⟨1, .inl v, S, ?_, k⟩
  unfold xm_run
  rw [ha]
theorem xG.thr {F : xm_F} {S : xm_S} {ci : Nat} (ha : xm_act xs LS xKT xDF xP mi F S = some (.inr (.inr (.inl ci)))) (hf : S.2.2 = true) (hH : xm_noH xP mi = true) (hd : 5 ≤ d) (k : Q (.inr S.1.length) (S.1 ++ [.inr (ci, [])], S.2.1 + 6, true)) : xG xs LS d mi F S Q := by
  refine ⟨1, _, _, ?_, k⟩
  unfold xm_run
  rw [ha]
  simp [hf, hH, hd]
theorem xG.call {F : xm_F} {S : xm_S} {y : Nat} {as rest : List Value} (ha : xm_act xs LS xKT xDF xP mi F S = some (.inr (.inr (.inr (y, as, rest)))))
    (k : xG xs LS d y (0, xm_entry xP y as, []) (S.1, S.2.1, true) (fun r S' => ∃ v, r = .inl v ∧ xG xs LS (d + 1) mi (F.1 + 3, F.2.1, v.toList ++ rest) (S'.1, S'.2.1, S.2.2 && S'.2.2) Q)) : xG xs LS (d + 1) mi F S Q := by
  obtain ⟨n, r, S', h1, v, rfl, n2, r2, S2, h2, hQ⟩ := k
  refine ⟨n + n2 + 1, r2, S2, ?_, hQ⟩
  unfold xm_run
  rw [ha]
  simp only
  rw [xm_run_le (k := n2) h1]
  simp only
  have h3 := xm_run_le (k := n) h2
  rw [Nat.add_comm n2 n] at h3
  exact h3
/-- a call that may throw: what comes back is caught, or goes on up -/
theorem xG.callT {F : xm_F} {S : xm_S} {y : Nat} {as rest : List Value} (ha : xm_act xs LS xKT xDF xP mi F S = some (.inr (.inr (.inr (y, as, rest)))))
    (k : xG xs LS d y (0, xm_entry xP y as, []) (S.1, S.2.1, true) (fun r S' => (∃ v, r = .inl v ∧ xG xs LS (d + 1) mi (F.1 + 3, F.2.1, v.toList ++ rest) (S'.1, S'.2.1, S.2.2 && S'.2.2) Q) ∨
      (∃ i ci fs, r = .inr i ∧ S'.1[i]? = some (.inr (ci, fs)) ∧ ((∃ t, xm_hand xP mi F.1 ci = some t ∧ xG xs LS (d + 1) mi (t, F.2.1, [.ref i]) (S'.1, S'.2.1, false) Q) ∨ (xm_hand xP mi F.1 ci = none ∧ (S.2.2 && xm_noH xP mi) = true ∧ Q (.inr i) (S'.1, S'.2.1, true)))))) : xG xs LS (d + 1) mi F S Q := by
  obtain ⟨n, r, S', h1, hk⟩ := k
  rcases hk with ⟨v, rfl, n2, r2, S2, h2, hQ⟩ | ⟨i, ci, fs, rfl, hi, ⟨t, ht, n2, r2, S2, h2, hQ⟩ | ⟨ht, hn, hQ⟩⟩
  · refine ⟨n + n2 + 1, r2, S2, ?_, hQ⟩
    unfold xm_run
    rw [ha]
    simp only
    rw [xm_run_le (k := n2) h1]
    simp only
    have h3 := xm_run_le (k := n) h2
    rw [Nat.add_comm n2 n] at h3
    exact h3
  · refine ⟨n + n2 + 1, r2, S2, ?_, hQ⟩
    unfold xm_run
    rw [ha]
    simp only
    rw [xm_run_le (k := n2) h1]
    simp only [hi, ht]
    have h3 := xm_run_le (k := n) h2
    rw [Nat.add_comm n2 n] at h3
    exact h3
  · refine ⟨n + 1, .inr i, (S'.1, S'.2.1, true), ?_, hQ⟩
    unfold xm_run
    rw [ha]
    simp only
    rw [h1]
    simp only [hi, ht, hn, if_true]
end XG
section XR
variable {xs : Nat → Int32} {LS d mi pc a0 b0 k0 d0 : Nat} {L : List (Option Value)} {st : List Value} {h : List va_E} {ks : Nat} {fl : Bool} {Q : (Option Value ⊕ Nat) → xm_S → Prop}
theorem xg_iconst {n : Int} {v : Int32} (ha : xm_at xP mi pc = some (pc, .iconst n, a0, b0, k0, d0)) (hv : Int32.ofInt n = v) (k : xG xs LS d mi (pc + 1, L, .int v :: st) (h, ks, fl) Q) : xG xs LS d mi (pc, L, st) (h, ks, fl) Q := xG.step (by subst hv; unfold xm_act; rw [ha]; rfl) k
theorem xg_bipush {n : Int} {v : Int32} (ha : xm_at xP mi pc = some (pc, .bipush n, a0, b0, k0, d0)) (hv : (Int8.ofInt n).toInt32 = v) (k : xG xs LS d mi (pc + 2, L, .int v :: st) (h, ks, fl) Q) : xG xs LS d mi (pc, L, st) (h, ks, fl) Q := xG.step (by subst hv; unfold xm_act; rw [ha]; rfl) k
theorem xg_sipush {n : Int} {v : Int32} (ha : xm_at xP mi pc = some (pc, .sipush n, a0, b0, k0, d0)) (hv : (Int16.ofInt n).toInt32 = v) (k : xG xs LS d mi (pc + 3, L, .int v :: st) (h, ks, fl) Q) : xG xs LS d mi (pc, L, st) (h, ks, fl) Q := xG.step (by subst hv; unfold xm_act; rw [ha]; rfl) k
theorem xg_ldc {ix : Nat} {v : Int32} (ha : xm_at xP mi pc = some (pc, .ldc ix, a0, b0, k0, d0)) (hv : Int32.ofNat a0 = v) (k : xG xs LS d mi (pc + 2, L, .int v :: st) (h, ks, fl) Q) : xG xs LS d mi (pc, L, st) (h, ks, fl) Q := xG.step (by subst hv; unfold xm_act; rw [ha]; rfl) k
theorem xg_ldcw {ix : Nat} {v : Int32} (ha : xm_at xP mi pc = some (pc, .ldc_w ix, a0, b0, k0, d0)) (hv : Int32.ofNat a0 = v) (k : xG xs LS d mi (pc + 3, L, .int v :: st) (h, ks, fl) Q) : xG xs LS d mi (pc, L, st) (h, ks, fl) Q := xG.step (by subst hv; unfold xm_act; rw [ha]; rfl) k
theorem xg_iload {j : Nat} {x : Int32} (ha : xm_at xP mi pc = some (pc, .iload j, a0, b0, k0, d0)) (hl : L[j]? = some (some (.int x))) (k : xG xs LS d mi (pc + 2, L, .int x :: st) (h, ks, fl) Q) : xG xs LS d mi (pc, L, st) (h, ks, fl) Q := xG.step (by unfold xm_act; rw [ha]; simp only [xm_small, if_true, xm_ins, hl]) k
theorem xg_iload_n {j : Fin 4} {x : Int32} (ha : xm_at xP mi pc = some (pc, .iload_n j, a0, b0, k0, d0)) (hl : L[j.val]? = some (some (.int x))) (k : xG xs LS d mi (pc + 1, L, .int x :: st) (h, ks, fl) Q) : xG xs LS d mi (pc, L, st) (h, ks, fl) Q := xG.step (by unfold xm_act; rw [ha]; simp only [xm_small, if_true, xm_ins, hl]) k
theorem xg_aload {j : Nat} {x : Nat} (ha : xm_at xP mi pc = some (pc, .aload j, a0, b0, k0, d0)) (hl : L[j]? = some (some (.ref x))) (k : xG xs LS d mi (pc + 2, L, .ref x :: st) (h, ks, fl) Q) : xG xs LS d mi (pc, L, st) (h, ks, fl) Q := xG.step (by unfold xm_act; rw [ha]; simp only [xm_small, if_true, xm_ins, hl]) k
theorem xg_aload_n {j : Fin 4} {x : Nat} (ha : xm_at xP mi pc = some (pc, .aload_n j, a0, b0, k0, d0)) (hl : L[j.val]? = some (some (.ref x))) (k : xG xs LS d mi (pc + 1, L, .ref x :: st) (h, ks, fl) Q) : xG xs LS d mi (pc, L, st) (h, ks, fl) Q := xG.step (by unfold xm_act; rw [ha]; simp only [xm_small, if_true, xm_ins, hl]) k
theorem xg_aload_s {j : Fin 4} {x : Nat} (ha : xm_at xP mi pc = some (pc, .aload_n j, a0, b0, k0, d0)) (hl : L[j.val]? = some (some (.retAddr x))) (k : xG xs LS d mi (pc + 1, L, .retAddr x :: st) (h, ks, fl) Q) : xG xs LS d mi (pc, L, st) (h, ks, fl) Q := xG.step (by unfold xm_act; rw [ha]; simp only [xm_small, if_true, xm_ins, hl]) k
theorem xg_istore {j : Nat} {x : Int32} {L' : List (Option Value)} (ha : xm_at xP mi pc = some (pc, .istore j, a0, b0, k0, d0)) (hl : j < L.length) (hL : L.set j (some (.int x)) = L') (k : xG xs LS d mi (pc + 2, L', st) (h, ks, fl) Q) : xG xs LS d mi (pc, L, .int x :: st) (h, ks, fl) Q := xG.step (by subst hL; unfold xm_act; rw [ha]; simp only [xm_small, if_true, xm_ins, hl]) k
theorem xg_istore_n {j : Fin 4} {x : Int32} {L' : List (Option Value)} (ha : xm_at xP mi pc = some (pc, .istore_n j, a0, b0, k0, d0)) (hl : j.val < L.length) (hL : L.set j.val (some (.int x)) = L') (k : xG xs LS d mi (pc + 1, L', st) (h, ks, fl) Q) : xG xs LS d mi (pc, L, .int x :: st) (h, ks, fl) Q := xG.step (by subst hL; unfold xm_act; rw [ha]; simp only [xm_small, if_true, xm_ins, hl]) k
theorem xg_astore {j : Nat} {x : Nat} {L' : List (Option Value)} (ha : xm_at xP mi pc = some (pc, .astore j, a0, b0, k0, d0)) (hl : j < L.length) (hL : L.set j (some (.ref x)) = L') (k : xG xs LS d mi (pc + 2, L', st) (h, ks, fl) Q) : xG xs LS d mi (pc, L, .ref x :: st) (h, ks, fl) Q := xG.step (by subst hL; unfold xm_act; rw [ha]; simp only [xm_small, if_true, xm_ins, hl]) k
theorem xg_astore_n {j : Fin 4} {x : Nat} {L' : List (Option Value)} (ha : xm_at xP mi pc = some (pc, .astore_n j, a0, b0, k0, d0)) (hl : j.val < L.length) (hL : L.set j.val (some (.ref x)) = L') (k : xG xs LS d mi (pc + 1, L', st) (h, ks, fl) Q) : xG xs LS d mi (pc, L, .ref x :: st) (h, ks, fl) Q := xG.step (by subst hL; unfold xm_act; rw [ha]; simp only [xm_small, if_true, xm_ins, hl]) k
theorem xg_iinc {j : Nat} {n : Int} {x v : Int32} {L' : List (Option Value)} (ha : xm_at xP mi pc = some (pc, .iinc j n, a0, b0, k0, d0)) (hl : L[j]? = some (some (.int x))) (hv : x + Int32.ofInt n = v) (hL : L.set j (some (.int v)) = L') (k : xG xs LS d mi (pc + 3, L', st) (h, ks, fl) Q) : xG xs LS d mi (pc, L, st) (h, ks, fl) Q := xG.step (by subst hL; subst hv; unfold xm_act; rw [ha]; simp only [xm_small, if_true, xm_ins, hl]) k
theorem xg_iadd {x y v : Int32} (ha : xm_at xP mi pc = some (pc, .iadd, a0, b0, k0, d0)) (hv : x + y = v) (k : xG xs LS d mi (pc + 1, L, .int v :: st) (h, ks, fl) Q) : xG xs LS d mi (pc, L, .int y :: .int x :: st) (h, ks, fl) Q := xG.step (by subst hv; unfold xm_act; rw [ha]; rfl) k
theorem xg_isub {x y v : Int32} (ha : xm_at xP mi pc = some (pc, .isub, a0, b0, k0, d0)) (hv : x - y = v) (k : xG xs LS d mi (pc + 1, L, .int v :: st) (h, ks, fl) Q) : xG xs LS d mi (pc, L, .int y :: .int x :: st) (h, ks, fl) Q := xG.step (by subst hv; unfold xm_act; rw [ha]; rfl) k
theorem xg_imul {x y v : Int32} (ha : xm_at xP mi pc = some (pc, .imul, a0, b0, k0, d0)) (hv : x * y = v) (k : xG xs LS d mi (pc + 1, L, .int v :: st) (h, ks, fl) Q) : xG xs LS d mi (pc, L, .int y :: .int x :: st) (h, ks, fl) Q := xG.step (by subst hv; unfold xm_act; rw [ha]; rfl) k
theorem xg_iand {x y v : Int32} (ha : xm_at xP mi pc = some (pc, .iand, a0, b0, k0, d0)) (hv : x &&& y = v) (k : xG xs LS d mi (pc + 1, L, .int v :: st) (h, ks, fl) Q) : xG xs LS d mi (pc, L, .int y :: .int x :: st) (h, ks, fl) Q := xG.step (by subst hv; unfold xm_act; rw [ha]; rfl) k
theorem xg_ior {x y v : Int32} (ha : xm_at xP mi pc = some (pc, .ior, a0, b0, k0, d0)) (hv : x ||| y = v) (k : xG xs LS d mi (pc + 1, L, .int v :: st) (h, ks, fl) Q) : xG xs LS d mi (pc, L, .int y :: .int x :: st) (h, ks, fl) Q := xG.step (by subst hv; unfold xm_act; rw [ha]; rfl) k
theorem xg_ixor {x y v : Int32} (ha : xm_at xP mi pc = some (pc, .ixor, a0, b0, k0, d0)) (hv : x ^^^ y = v) (k : xG xs LS d mi (pc + 1, L, .int v :: st) (h, ks, fl) Q) : xG xs LS d mi (pc, L, .int y :: .int x :: st) (h, ks, fl) Q := xG.step (by subst hv; unfold xm_act; rw [ha]; rfl) k
theorem xg_ishl {x y v : Int32} (ha : xm_at xP mi pc = some (pc, .ishl, a0, b0, k0, d0)) (hv : x <<< (y &&& 31) = v) (k : xG xs LS d mi (pc + 1, L, .int v :: st) (h, ks, fl) Q) : xG xs LS d mi (pc, L, .int y :: .int x :: st) (h, ks, fl) Q := xG.step (by subst hv; unfold xm_act; rw [ha]; rfl) k
theorem xg_ishr {x y v : Int32} (ha : xm_at xP mi pc = some (pc, .ishr, a0, b0, k0, d0)) (hv : x >>> (y &&& 31) = v) (k : xG xs LS d mi (pc + 1, L, .int v :: st) (h, ks, fl) Q) : xG xs LS d mi (pc, L, .int y :: .int x :: st) (h, ks, fl) Q := xG.step (by subst hv; unfold xm_act; rw [ha]; rfl) k
theorem xg_iushr {x y v : Int32} (ha : xm_at xP mi pc = some (pc, .iushr, a0, b0, k0, d0)) (hv : (x.toUInt32 >>> (y.toUInt32 &&& Int32.toUInt32 31)).toInt32 = v) (k : xG xs LS d mi (pc + 1, L, .int v :: st) (h, ks, fl) Q) : xG xs LS d mi (pc, L, .int y :: .int x :: st) (h, ks, fl) Q := xG.step (by subst hv; unfold xm_act; rw [ha]; rfl) k
theorem xg_ineg {x v : Int32} (ha : xm_at xP mi pc = some (pc, .ineg, a0, b0, k0, d0)) (hv : -x = v) (k : xG xs LS d mi (pc + 1, L, .int v :: st) (h, ks, fl) Q) : xG xs LS d mi (pc, L, .int x :: st) (h, ks, fl) Q := xG.step (by subst hv; unfold xm_act; rw [ha]; rfl) k
theorem xg_i2l {x : Int32} {v : Int64} (ha : xm_at xP mi pc = some (pc, .i2l, a0, b0, k0, d0)) (hv : x.toInt64 = v) (k : xG xs LS d mi (pc + 1, L, .long v :: st) (h, ks, fl) Q) : xG xs LS d mi (pc, L, .int x :: st) (h, ks, fl) Q := xG.step (by subst hv; unfold xm_act; rw [ha]; rfl) k
theorem xg_lcmp {x y : Int64} {v : Int32} (ha : xm_at xP mi pc = some (pc, .lcmp, a0, b0, k0, d0)) (hv : lg_cmp x y = v) (k : xG xs LS d mi (pc + 1, L, .int v :: st) (h, ks, fl) Q) : xG xs LS d mi (pc, L, .long y :: .long x :: st) (h, ks, fl) Q := xG.step (by subst hv; unfold xm_act; rw [ha]; rfl) k
theorem xg_dup_r {x : Nat} (ha : xm_at xP mi pc = some (pc, .dup, a0, b0, k0, d0)) (k : xG xs LS d mi (pc + 1, L, .ref x :: .ref x :: st) (h, ks, fl) Q) : xG xs LS d mi (pc, L, .ref x :: st) (h, ks, fl) Q := xG.step (by unfold xm_act; rw [ha]; rfl) k
theorem xg_dup_i {x : Int32} (ha : xm_at xP mi pc = some (pc, .dup, a0, b0, k0, d0)) (k : xG xs LS d mi (pc + 1, L, .int x :: .int x :: st) (h, ks, fl) Q) : xG xs LS d mi (pc, L, .int x :: st) (h, ks, fl) Q := xG.step (by unfold xm_act; rw [ha]; rfl) k
theorem xg_pop_i {x : Int32} (ha : xm_at xP mi pc = some (pc, .pop, a0, b0, k0, d0)) (k : xG xs LS d mi (pc + 1, L, st) (h, ks, fl) Q) : xG xs LS d mi (pc, L, .int x :: st) (h, ks, fl) Q := xG.step (by unfold xm_act; rw [ha]; rfl) k
theorem xg_if_eq {x : Int32} {off : Int} (ha : xm_at xP mi pc = some (pc, .ifCond .eq off, a0, b0, k0, d0)) (kt : x = 0 → xG xs LS d mi (a0, L, st) (h, ks, fl) Q) (kf : ¬ x = 0 → xG xs LS d mi (pc + 3, L, st) (h, ks, fl) Q) : xG xs LS d mi (pc, L, .int x :: st) (h, ks, fl) Q := by
  by_cases hc : x = 0
  · exact xG.step (F' := (a0, L, st)) (by unfold xm_act; rw [ha]; simp only [xm_small, if_true, xm_ins, if_pos hc]) (kt hc)
  · exact xG.step (F' := (pc + 3, L, st)) (by unfold xm_act; rw [ha]; simp only [xm_small, if_true, xm_ins, if_neg hc]) (kf hc)
theorem xg_icmp_eq {x y : Int32} {off : Int} (ha : xm_at xP mi pc = some (pc, .if_icmp .eq off, a0, b0, k0, d0)) (kt : x = y → xG xs LS d mi (a0, L, st) (h, ks, fl) Q) (kf : ¬ x = y → xG xs LS d mi (pc + 3, L, st) (h, ks, fl) Q) : xG xs LS d mi (pc, L, .int y :: .int x :: st) (h, ks, fl) Q := by
  by_cases hc : x = y
  · exact xG.step (F' := (a0, L, st)) (by unfold xm_act; rw [ha]; simp only [xm_small, if_true, xm_ins, if_pos hc]) (kt hc)
  · exact xG.step (F' := (pc + 3, L, st)) (by unfold xm_act; rw [ha]; simp only [xm_small, if_true, xm_ins, if_neg hc]) (kf hc)
theorem xg_if_ne {x : Int32} {off : Int} (ha : xm_at xP mi pc = some (pc, .ifCond .ne off, a0, b0, k0, d0)) (kt : ¬ x = 0 → xG xs LS d mi (a0, L, st) (h, ks, fl) Q) (kf : x = 0 → xG xs LS d mi (pc + 3, L, st) (h, ks, fl) Q) : xG xs LS d mi (pc, L, .int x :: st) (h, ks, fl) Q := by
  by_cases hc : ¬ x = 0
  · exact xG.step (F' := (a0, L, st)) (by unfold xm_act; rw [ha]; simp only [xm_small, if_true, xm_ins, if_pos hc]) (kt hc)
  · exact xG.step (F' := (pc + 3, L, st)) (by unfold xm_act; rw [ha]; simp only [xm_small, if_true, xm_ins, if_neg hc]) (kf (Classical.not_not.mp hc))
theorem xg_icmp_ne {x y : Int32} {off : Int} (ha : xm_at xP mi pc = some (pc, .if_icmp .ne off, a0, b0, k0, d0)) (kt : ¬ x = y → xG xs LS d mi (a0, L, st) (h, ks, fl) Q) (kf : x = y → xG xs LS d mi (pc + 3, L, st) (h, ks, fl) Q) : xG xs LS d mi (pc, L, .int y :: .int x :: st) (h, ks, fl) Q := by
  by_cases hc : ¬ x = y
  · exact xG.step (F' := (a0, L, st)) (by unfold xm_act; rw [ha]; simp only [xm_small, if_true, xm_ins, if_pos hc]) (kt hc)
  · exact xG.step (F' := (pc + 3, L, st)) (by unfold xm_act; rw [ha]; simp only [xm_small, if_true, xm_ins, if_neg hc]) (kf (Classical.not_not.mp hc))
theorem xg_if_lt {x : Int32} {off : Int} (ha : xm_at xP mi pc = some (pc, .ifCond .lt off, a0, b0, k0, d0)) (kt : x < 0 → xG xs LS d mi (a0, L, st) (h, ks, fl) Q) (kf : ¬ x < 0 → xG xs LS d mi (pc + 3, L, st) (h, ks, fl) Q) : xG xs LS d mi (pc, L, .int x :: st) (h, ks, fl) Q := by
  by_cases hc : x < 0
  · exact xG.step (F' := (a0, L, st)) (by unfold xm_act; rw [ha]; simp only [xm_small, if_true, xm_ins, if_pos hc]) (kt hc)
  · exact xG.step (F' := (pc + 3, L, st)) (by unfold xm_act; rw [ha]; simp only [xm_small, if_true, xm_ins, if_neg hc]) (kf hc)
theorem xg_icmp_lt {x y : Int32} {off : Int} (ha : xm_at xP mi pc = some (pc, .if_icmp .lt off, a0, b0, k0, d0)) (kt : x < y → xG xs LS d mi (a0, L, st) (h, ks, fl) Q) (kf : ¬ x < y → xG xs LS d mi (pc + 3, L, st) (h, ks, fl) Q) : xG xs LS d mi (pc, L, .int y :: .int x :: st) (h, ks, fl) Q := by
  by_cases hc : x < y
  · exact xG.step (F' := (a0, L, st)) (by unfold xm_act; rw [ha]; simp only [xm_small, if_true, xm_ins, if_pos hc]) (kt hc)
  · exact xG.step (F' := (pc + 3, L, st)) (by unfold xm_act; rw [ha]; simp only [xm_small, if_true, xm_ins, if_neg hc]) (kf hc)
theorem xg_if_ge {x : Int32} {off : Int} (ha : xm_at xP mi pc = some (pc, .ifCond .ge off, a0, b0, k0, d0)) (kt : 0 ≤ x → xG xs LS d mi (a0, L, st) (h, ks, fl) Q) (kf : ¬ 0 ≤ x → xG xs LS d mi (pc + 3, L, st) (h, ks, fl) Q) : xG xs LS d mi (pc, L, .int x :: st) (h, ks, fl) Q := by
  by_cases hc : 0 ≤ x
  · exact xG.step (F' := (a0, L, st)) (by unfold xm_act; rw [ha]; simp only [xm_small, if_true, xm_ins, if_pos hc]) (kt hc)
  · exact xG.step (F' := (pc + 3, L, st)) (by unfold xm_act; rw [ha]; simp only [xm_small, if_true, xm_ins, if_neg hc]) (kf hc)
theorem xg_icmp_ge {x y : Int32} {off : Int} (ha : xm_at xP mi pc = some (pc, .if_icmp .ge off, a0, b0, k0, d0)) (kt : y ≤ x → xG xs LS d mi (a0, L, st) (h, ks, fl) Q) (kf : ¬ y ≤ x → xG xs LS d mi (pc + 3, L, st) (h, ks, fl) Q) : xG xs LS d mi (pc, L, .int y :: .int x :: st) (h, ks, fl) Q := by
  by_cases hc : y ≤ x
  · exact xG.step (F' := (a0, L, st)) (by unfold xm_act; rw [ha]; simp only [xm_small, if_true, xm_ins, if_pos hc]) (kt hc)
  · exact xG.step (F' := (pc + 3, L, st)) (by unfold xm_act; rw [ha]; simp only [xm_small, if_true, xm_ins, if_neg hc]) (kf hc)
theorem xg_if_gt {x : Int32} {off : Int} (ha : xm_at xP mi pc = some (pc, .ifCond .gt off, a0, b0, k0, d0)) (kt : 0 < x → xG xs LS d mi (a0, L, st) (h, ks, fl) Q) (kf : ¬ 0 < x → xG xs LS d mi (pc + 3, L, st) (h, ks, fl) Q) : xG xs LS d mi (pc, L, .int x :: st) (h, ks, fl) Q := by
  by_cases hc : 0 < x
  · exact xG.step (F' := (a0, L, st)) (by unfold xm_act; rw [ha]; simp only [xm_small, if_true, xm_ins, if_pos hc]) (kt hc)
  · exact xG.step (F' := (pc + 3, L, st)) (by unfold xm_act; rw [ha]; simp only [xm_small, if_true, xm_ins, if_neg hc]) (kf hc)
theorem xg_icmp_gt {x y : Int32} {off : Int} (ha : xm_at xP mi pc = some (pc, .if_icmp .gt off, a0, b0, k0, d0)) (kt : y < x → xG xs LS d mi (a0, L, st) (h, ks, fl) Q) (kf : ¬ y < x → xG xs LS d mi (pc + 3, L, st) (h, ks, fl) Q) : xG xs LS d mi (pc, L, .int y :: .int x :: st) (h, ks, fl) Q := by
  by_cases hc : y < x
  · exact xG.step (F' := (a0, L, st)) (by unfold xm_act; rw [ha]; simp only [xm_small, if_true, xm_ins, if_pos hc]) (kt hc)
  · exact xG.step (F' := (pc + 3, L, st)) (by unfold xm_act; rw [ha]; simp only [xm_small, if_true, xm_ins, if_neg hc]) (kf hc)
theorem xg_if_le {x : Int32} {off : Int} (ha : xm_at xP mi pc = some (pc, .ifCond .le off, a0, b0, k0, d0)) (kt : x ≤ 0 → xG xs LS d mi (a0, L, st) (h, ks, fl) Q) (kf : ¬ x ≤ 0 → xG xs LS d mi (pc + 3, L, st) (h, ks, fl) Q) : xG xs LS d mi (pc, L, .int x :: st) (h, ks, fl) Q := by
  by_cases hc : x ≤ 0
  · exact xG.step (F' := (a0, L, st)) (by unfold xm_act; rw [ha]; simp only [xm_small, if_true, xm_ins, if_pos hc]) (kt hc)
  · exact xG.step (F' := (pc + 3, L, st)) (by unfold xm_act; rw [ha]; simp only [xm_small, if_true, xm_ins, if_neg hc]) (kf hc)
theorem xg_icmp_le {x y : Int32} {off : Int} (ha : xm_at xP mi pc = some (pc, .if_icmp .le off, a0, b0, k0, d0)) (kt : x ≤ y → xG xs LS d mi (a0, L, st) (h, ks, fl) Q) (kf : ¬ x ≤ y → xG xs LS d mi (pc + 3, L, st) (h, ks, fl) Q) : xG xs LS d mi (pc, L, .int y :: .int x :: st) (h, ks, fl) Q := by
  by_cases hc : x ≤ y
  · exact xG.step (F' := (a0, L, st)) (by unfold xm_act; rw [ha]; simp only [xm_small, if_true, xm_ins, if_pos hc]) (kt hc)
  · exact xG.step (F' := (pc + 3, L, st)) (by unfold xm_act; rw [ha]; simp only [xm_small, if_true, xm_ins, if_neg hc]) (kf hc)
theorem xg_goto {off : Int} (ha : xm_at xP mi pc = some (pc, .goto off, a0, b0, k0, d0)) (k : xG xs LS d mi (a0, L, st) (h, ks, fl) Q) : xG xs LS d mi (pc, L, st) (h, ks, fl) Q := xG.step (by unfold xm_act; rw [ha]; rfl) k
theorem xg_tableIn {dflt lo hi off : Int} {offs : Array Int} {x : Int32} {t : Nat} (ha : xm_at xP mi pc = some (pc, .tableswitch dflt lo hi offs, a0, b0, k0, d0)) (hc : ¬ (x.toInt < lo ∨ hi < x.toInt)) (ho : offs[(x.toInt - lo).toNat]? = some off) (ht : ((pc : Int) + off).toNat = t) (k : xG xs LS d mi (t, L, st) (h, ks, fl) Q) : xG xs LS d mi (pc, L, .int x :: st) (h, ks, fl) Q := xG.step (by subst ht; unfold xm_act; rw [ha]; simp only [xm_small, if_true, xm_ins, if_neg hc, ho]) k
theorem xg_tableOut {dflt lo hi : Int} {offs : Array Int} {x : Int32} {t : Nat} (ha : xm_at xP mi pc = some (pc, .tableswitch dflt lo hi offs, a0, b0, k0, d0)) (hc : x.toInt < lo ∨ hi < x.toInt) (ht : ((pc : Int) + dflt).toNat = t) (k : xG xs LS d mi (t, L, st) (h, ks, fl) Q) : xG xs LS d mi (pc, L, .int x :: st) (h, ks, fl) Q := xG.step (by subst ht; unfold xm_act; rw [ha]; simp only [xm_small, if_true, xm_ins, if_pos hc]) k
theorem xg_getfield {ix r : Nat} {fs : List Value} {v : Value} (ha : xm_at xP mi pc = some (pc, .getfield ix, a0, b0, k0, d0)) (hr : h[r]? = some (.inr (a0, fs))) (hv : fs[b0]? = some v) (k : xG xs LS d mi (pc + 3, L, v :: st) (h, ks, fl) Q) : xG xs LS d mi (pc, L, .ref r :: st) (h, ks, fl) Q := xG.step (by unfold xm_act; rw [ha]; simp only [xm_small, if_true, xm_ins, hr, hv]) k
theorem xg_putfield {ix r : Nat} {fs : List Value} {v : Value} {h' : List va_E} (ha : xm_at xP mi pc = some (pc, .putfield ix, a0, b0, k0, d0)) (hr : h[r]? = some (.inr (a0, fs))) (hb : b0 < fs.length) (hv : xm_fit d0 v = true) (hh : h.set r (.inr (a0, fs.set b0 v)) = h') (k : xG xs LS d mi (pc + 3, L, st) (h', ks, false) Q) : xG xs LS d mi (pc, L, v :: .ref r :: st) (h, ks, fl) Q := xG.step (by subst hh; unfold xm_act; rw [ha]; simp only [xm_small, if_true, xm_ins, hr, hb, hv, and_self]) k
theorem xg_sld {j : Int32} {q : Nat} {v : Int32} (ha : xm_at xP mi pc = some (pc, .iaload, a0, b0, k0, d0)) (hin : ¬ (j < 0 ∨ LS ≤ j.toNatClampNeg)) (hv : xs j.toNatClampNeg = v) (k : xG xs LS d mi (pc + 1, L, .int v :: st) (h, ks, fl) Q) : xG xs LS d mi (pc, L, .int j :: .retAddr q :: st) (h, ks, fl) Q := xG.step (by subst hv; unfold xm_act; rw [ha]; simp only [xm_small, if_true, xm_ins, if_pos hin]) k
theorem xg_iald {r q n : Nat} {j : Int32} {f : Nat → Int32} {v : Int32} (ha : xm_at xP mi pc = some (pc, .iaload, a0, b0, k0, d0)) (hr : h[r]? = some (.inl (q, n, .inl f))) (hq : xKT[q]? = some .int) (hin : ¬ (j < 0 ∨ n ≤ j.toNatClampNeg)) (hv : f j.toNatClampNeg = v) (k : xG xs LS d mi (pc + 1, L, .int v :: st) (h, ks, fl) Q) : xG xs LS d mi (pc, L, .int j :: .ref r :: st) (h, ks, fl) Q := xG.step (by subst hv; unfold xm_act; rw [ha]; simp only [xm_small, if_true, xm_ins, hr, hq, hin, not_false_eq_true, and_self]) k
theorem xg_zald {r q n : Nat} {j : Int32} {f : Nat → Int32} {v : Int32} (ha : xm_at xP mi pc = some (pc, .baload, a0, b0, k0, d0)) (hr : h[r]? = some (.inl (q, n, .inl f))) (hq : xKT[q]? = some .boolean) (hin : ¬ (j < 0 ∨ n ≤ j.toNatClampNeg)) (hv : f j.toNatClampNeg = v) (k : xG xs LS d mi (pc + 1, L, .int v :: st) (h, ks, fl) Q) : xG xs LS d mi (pc, L, .int j :: .ref r :: st) (h, ks, fl) Q := xG.step (by subst hv; unfold xm_act; rw [ha]; simp only [xm_small, if_true, xm_ins, hr, hq, hin, not_false_eq_true, and_self]) k
theorem xg_lald {r q n : Nat} {j : Int32} {f : Nat → Int64} {v : Int64} (ha : xm_at xP mi pc = some (pc, .laload, a0, b0, k0, d0)) (hr : h[r]? = some (.inl (q, n, .inr (.inl f)))) (hq : xKT[q]? = some .long) (hin : ¬ (j < 0 ∨ n ≤ j.toNatClampNeg)) (hv : f j.toNatClampNeg = v) (k : xG xs LS d mi (pc + 1, L, .long v :: st) (h, ks, fl) Q) : xG xs LS d mi (pc, L, .int j :: .ref r :: st) (h, ks, fl) Q := xG.step (by subst hv; unfold xm_act; rw [ha]; simp only [xm_small, if_true, xm_ins, hr, hq, hin, not_false_eq_true, and_self]) k
theorem xg_aald {r q n : Nat} {j : Int32} {f : Nat → Option Nat} {x : Nat} (ha : xm_at xP mi pc = some (pc, .aaload, a0, b0, k0, d0)) (hr : h[r]? = some (.inl (q, n, .inr (.inr (.inr (.inr f)))))) (hq : xm_isO xKT[q]? = true) (hin : ¬ (j < 0 ∨ n ≤ j.toNatClampNeg)) (hv : f j.toNatClampNeg = some x) (k : xG xs LS d mi (pc + 1, L, .ref x :: st) (h, ks, fl) Q) : xG xs LS d mi (pc, L, .int j :: .ref r :: st) (h, ks, fl) Q := xG.step (by unfold xm_act; rw [ha]; simp only [xm_small, if_true, xm_ins, hr, hq, hin, not_false_eq_true, and_self, hv, va_rf]) k
theorem xg_iast {r q n : Nat} {j : Int32} {f f' : Nat → Int32} {x : Int32} {h' : List va_E} (ha : xm_at xP mi pc = some (pc, .iastore, a0, b0, k0, d0)) (hr : h[r]? = some (.inl (q, n, .inl f))) (hq : xKT[q]? = some .int) (hin : ¬ (j < 0 ∨ n ≤ j.toNatClampNeg)) (hv : upd f j.toNatClampNeg x = f') (hh : h.set r (.inl (q, n, .inl f')) = h') (k : xG xs LS d mi (pc + 1, L, st) (h', ks, false) Q) : xG xs LS d mi (pc, L, .int x :: .int j :: .ref r :: st) (h, ks, fl) Q := xG.step (by subst hh; subst hv; unfold xm_act; rw [ha]; simp only [xm_small, if_true, xm_ins, hr, hq, hin, not_false_eq_true, and_self]) k
theorem xg_zast {r q n : Nat} {j : Int32} {f f' : Nat → Int32} {x : Int32} {h' : List va_E} (ha : xm_at xP mi pc = some (pc, .bastore, a0, b0, k0, d0)) (hr : h[r]? = some (.inl (q, n, .inl f))) (hq : xKT[q]? = some .boolean) (hin : ¬ (j < 0 ∨ n ≤ j.toNatClampNeg)) (hv : upd f j.toNatClampNeg (vp_nar .boolean x) = f') (hh : h.set r (.inl (q, n, .inl f')) = h') (k : xG xs LS d mi (pc + 1, L, st) (h', ks, false) Q) : xG xs LS d mi (pc, L, .int x :: .int j :: .ref r :: st) (h, ks, fl) Q := xG.step (by subst hh; subst hv; unfold xm_act; rw [ha]; simp only [xm_small, if_true, xm_ins, hr, hq, hin, not_false_eq_true, and_self]) k
theorem xg_last {r q n : Nat} {j : Int32} {f f' : Nat → Int64} {x : Int64} {h' : List va_E} (ha : xm_at xP mi pc = some (pc, .lastore, a0, b0, k0, d0)) (hr : h[r]? = some (.inl (q, n, .inr (.inl f)))) (hq : xKT[q]? = some .long) (hin : ¬ (j < 0 ∨ n ≤ j.toNatClampNeg)) (hv : vp_updL f j.toNatClampNeg x = f') (hh : h.set r (.inl (q, n, .inr (.inl f'))) = h') (k : xG xs LS d mi (pc + 1, L, st) (h', ks, false) Q) : xG xs LS d mi (pc, L, .long x :: .int j :: .ref r :: st) (h, ks, fl) Q := xG.step (by subst hh; subst hv; unfold xm_act; rw [ha]; simp only [xm_small, if_true, xm_ins, hr, hq, hin, not_false_eq_true, and_self]) k
theorem xg_slen {q : Nat} (ha : xm_at xP mi pc = some (pc, .arraylength, a0, b0, k0, d0)) (k : xG xs LS d mi (pc + 1, L, .int (Int32.ofNat LS) :: st) (h, ks, fl) Q) : xG xs LS d mi (pc, L, .retAddr q :: st) (h, ks, fl) Q := xG.step (by unfold xm_act; rw [ha]; rfl) k
theorem xg_alen {r q : Nat} {x : vp_A} {v : Int32} (ha : xm_at xP mi pc = some (pc, .arraylength, a0, b0, k0, d0)) (hr : h[r]? = some (.inl (q, x))) (hq : q < xKT.length) (hv : Int32.ofNat x.1 = v) (k : xG xs LS d mi (pc + 1, L, .int v :: st) (h, ks, fl) Q) : xG xs LS d mi (pc, L, .ref r :: st) (h, ks, fl) Q := xG.step (by subst hv; unfold xm_act; rw [ha]; simp only [xm_small, if_true, xm_ins, hr, hq]) k
theorem xg_new {ix : Nat} {fs : List Value} (ha : xm_at xP mi pc = some (pc, .new ix, a0, b0, k0, 0)) (hf : xDF[a0]? = some fs) (k : xG xs LS d mi (pc + 3, L, .ref h.length :: st) (h ++ [.inr (a0, fs)], ks + fs.length, false) Q) : xG xs LS d mi (pc, L, st) (h, ks, fl) Q := xG.step (by unfold xm_act; rw [ha]; simp only [xm_small, Bool.false_eq_true, if_false, xm_big, hf, Nat.zero_ne_one]) k
theorem xg_newarr {t : ClassFile.ArrayType} {n : Int32} {m : Nat} {x : (Nat → Int32) ⊕ (Nat → Int64) ⊕ (Nat → UInt32) ⊕ (Nat → UInt64) ⊕ (Nat → Option Nat)} (ha : xm_at xP mi pc = some (pc, .newarray t, a0, b0, k0, d0)) (hx : xm_blank xKT[a0]? = some x) (hn : ¬ n < 0) (hm : n.toNatClampNeg = m) (hm2 : m ≤ 100000) (k : xG xs LS d mi (pc + 2, L, .ref h.length :: st) (h ++ [.inl (a0, m, x)], ks + m, false) Q) : xG xs LS d mi (pc, L, .int n :: st) (h, ks, fl) Q := xG.step (by subst hm; unfold xm_act; rw [ha]; simp only [xm_small, Bool.false_eq_true, if_false, xm_big, hx, hn, hm2, not_false_eq_true, and_self, if_true]) k
theorem xg_anewarr {ix : Nat} {n : Int32} {m : Nat} (ha : xm_at xP mi pc = some (pc, .anewarray ix, a0, b0, k0, d0)) (hx : xm_isO xKT[a0]? = true) (hn : ¬ n < 0) (hm : n.toNatClampNeg = m) (hm2 : m ≤ 100000) (k : xG xs LS d mi (pc + 3, L, .ref h.length :: st) (h ++ [.inl (a0, m, .inr (.inr (.inr (.inr (fun _ => none)))))], ks + m, false) Q) : xG xs LS d mi (pc, L, .int n :: st) (h, ks, fl) Q := xG.step (by subst hm; unfold xm_act; rw [ha]; simp only [xm_small, Bool.false_eq_true, if_false, xm_big, hx, hn, hm2, not_false_eq_true, and_self, if_true]) k
theorem xg_aast {r v n : Nat} {j : Int32} {f f' : Nat → Option Nat} {vs : List Value} {h' : List va_E} (ha : xm_at xP mi pc = some (pc, .aastore, a0, b0, k0, d0)) (hr : h[r]? = some (.inl (a0, n, .inr (.inr (.inr (.inr f)))))) (hv : h[v]? = some (.inr (b0, vs))) (hin : ¬ (j < 0 ∨ n ≤ j.toNatClampNeg)) (hf : va_up f j.toNatClampNeg (some v) = f') (hh : h.set r (.inl (a0, n, .inr (.inr (.inr (.inr f'))))) = h') (k : xG xs LS d mi (pc + 1, L, st) (h', ks, false) Q) : xG xs LS d mi (pc, L, .ref v :: .int j :: .ref r :: st) (h, ks, fl) Q := xG.step (by subst hh; subst hf; unfold xm_act; rw [ha]; simp only [xm_small, Bool.false_eq_true, if_false, xm_big, hr, hv, hin, not_false_eq_true, and_self, if_true]) k
theorem xg_objinit {ix r : Nat} (ha : xm_at xP mi pc = some (pc, .invokespecial ix, a0, b0, k0, 1)) (hs : st.length ≤ 4) (k : xG xs LS d mi (pc + 3, L, st) (h, ks, fl) Q) : xG xs LS d mi (pc, L, .ref r :: st) (h, ks, fl) Q := xG.step (by unfold xm_act; rw [ha]; simp only [xm_small, Bool.false_eq_true, if_false, xm_big, hs, if_true]) k
theorem xg_ireturn {x : Int32} (ha : xm_at xP mi pc = some (pc, .ireturn, a0, b0, k0, 0)) (k : Q (.inl (some (.int x))) (h, ks, fl)) : xG xs LS d mi (pc, L, [.int x]) (h, ks, fl) Q := xG.ret (by unfold xm_act; rw [ha]; simp only [xm_small, Bool.false_eq_true, if_false, xm_big, if_true]) k
theorem xg_zreturn {x : Int32} (ha : xm_at xP mi pc = some (pc, .ireturn, a0, b0, k0, 1)) (hx : x = 0 ∨ x = 1) (k : Q (.inl (some (.int x))) (h, ks, fl)) : xG xs LS d mi (pc, L, [.int x]) (h, ks, fl) Q := xG.ret (by unfold xm_act; rw [ha]; simp only [xm_small, Bool.false_eq_true, if_false, xm_big, Nat.one_ne_zero, if_pos hx]) k
theorem xg_return (ha : xm_at xP mi pc = some (pc, .return_, a0, b0, k0, d0)) (k : Q (.inl none) (h, ks, fl)) : xG xs LS d mi (pc, L, []) (h, ks, fl) Q := xG.ret (by unfold xm_act; rw [ha]; rfl) k
theorem xg_throw {ix : Nat} (ha : xm_at xP mi pc = some (pc, .new ix, a0, b0, k0, 1)) (hs : st.length ≤ 4) (hH : xm_noH xP mi = true) (hd : 5 ≤ d) (k : Q (.inr h.length) (h ++ [.inr (a0, [])], ks + 6, true)) : xG xs LS d mi (pc, L, st) (h, ks, true) Q := xG.thr (by unfold xm_act; rw [ha]; simp only [xm_small, Bool.false_eq_true, if_false, xm_big, hs, if_true]) rfl hH hd k
theorem xg_callI {ix r : Nat} (ha : xm_at xP mi pc = some (pc, .invokespecial ix, a0, b0, k0, 0)) (hs : st.length ≤ 4) (k : xG xs LS d a0 (0, xm_entry xP a0 [.ref r], []) (h, ks, true) (fun r S' => ∃ v, r = .inl v ∧ xG xs LS (d + 1) mi (pc + 3, L, v.toList ++ st) (S'.1, S'.2.1, fl && S'.2.2) Q)) : xG xs LS (d + 1) mi (pc, L, .ref r :: st) (h, ks, fl) Q := xG.call (by unfold xm_act; rw [ha]; simp only [xm_small, Bool.false_eq_true, if_false, xm_big, Nat.zero_ne_one, hs, and_self, if_true]) k
theorem xg_callV {ix r : Nat} {as rest : List Value} {fs : List Value} (ha : xm_at xP mi pc = some (pc, .invokevirtual ix, a0, b0, k0, d0)) (hb : b0 ≤ st.length ∧ (st.drop b0).length ≤ 4 ∧ (st.take b0).all xm_cat = true) (hs : (st.take b0).reverse = .ref r :: as) (hd : st.drop b0 = rest) (hr : h[r]? = some (.inr (k0, fs))) (k : xG xs LS d a0 (0, xm_entry xP a0 (.ref r :: as), []) (h, ks, true) (fun r S' => ∃ v, r = .inl v ∧ xG xs LS (d + 1) mi (pc + 3, L, v.toList ++ rest) (S'.1, S'.2.1, fl && S'.2.2) Q)) : xG xs LS (d + 1) mi (pc, L, st) (h, ks, fl) Q := xG.call (by subst hd; unfold xm_act; rw [ha]; simp only [xm_small, Bool.false_eq_true, if_false, xm_big, if_pos hb, hs, hr, if_true]) k
theorem xg_callS {ix : Nat} {as rest : List Value} (ha : xm_at xP mi pc = some (pc, .invokestatic ix, a0, b0, k0, d0)) (hb : b0 ≤ st.length ∧ (st.drop b0).length ≤ 4 ∧ (st.take b0).all xm_cat = true) (hs : (st.take b0).reverse = as) (hd : st.drop b0 = rest) (k : xG xs LS d a0 (0, xm_entry xP a0 as, []) (h, ks, true) (fun r S' => ∃ v, r = .inl v ∧ xG xs LS (d + 1) mi (pc + 3, L, v.toList ++ rest) (S'.1, S'.2.1, fl && S'.2.2) Q)) : xG xs LS (d + 1) mi (pc, L, st) (h, ks, fl) Q := xG.call (by subst hd; subst hs; unfold xm_act; rw [ha]; simp only [xm_small, Bool.false_eq_true, if_false, xm_big, if_pos hb]) k
theorem xg_callIT {ix r : Nat} (ha : xm_at xP mi pc = some (pc, .invokespecial ix, a0, b0, k0, 0)) (hs : st.length ≤ 4) (k : xG xs LS d a0 (0, xm_entry xP a0 [.ref r], []) (h, ks, true) (fun r S' => (∃ v, r = .inl v ∧ xG xs LS (d + 1) mi (pc + 3, L, v.toList ++ st) (S'.1, S'.2.1, fl && S'.2.2) Q) ∨ (∃ i ci fs, r = .inr i ∧ S'.1[i]? = some (.inr (ci, fs)) ∧ ((∃ t, xm_hand xP mi pc ci = some t ∧ xG xs LS (d + 1) mi (t, L, [.ref i]) (S'.1, S'.2.1, false) Q) ∨ (xm_hand xP mi pc ci = none ∧ (fl && xm_noH xP mi) = true ∧ Q (.inr i) (S'.1, S'.2.1, true)))))) : xG xs LS (d + 1) mi (pc, L, .ref r :: st) (h, ks, fl) Q := xG.callT (by unfold xm_act; rw [ha]; simp only [xm_small, Bool.false_eq_true, if_false, xm_big, Nat.zero_ne_one, hs, and_self, if_true]) k
theorem xg_callVT {ix r : Nat} {as rest : List Value} {fs : List Value} (ha : xm_at xP mi pc = some (pc, .invokevirtual ix, a0, b0, k0, d0)) (hb : b0 ≤ st.length ∧ (st.drop b0).length ≤ 4 ∧ (st.take b0).all xm_cat = true) (hs : (st.take b0).reverse = .ref r :: as) (hd : st.drop b0 = rest) (hr : h[r]? = some (.inr (k0, fs))) (k : xG xs LS d a0 (0, xm_entry xP a0 (.ref r :: as), []) (h, ks, true) (fun r S' => (∃ v, r = .inl v ∧ xG xs LS (d + 1) mi (pc + 3, L, v.toList ++ rest) (S'.1, S'.2.1, fl && S'.2.2) Q) ∨ (∃ i ci fs, r = .inr i ∧ S'.1[i]? = some (.inr (ci, fs)) ∧ ((∃ t, xm_hand xP mi pc ci = some t ∧ xG xs LS (d + 1) mi (t, L, [.ref i]) (S'.1, S'.2.1, false) Q) ∨ (xm_hand xP mi pc ci = none ∧ (fl && xm_noH xP mi) = true ∧ Q (.inr i) (S'.1, S'.2.1, true)))))) : xG xs LS (d + 1) mi (pc, L, st) (h, ks, fl) Q := xG.callT (by subst hd; unfold xm_act; rw [ha]; simp only [xm_small, Bool.false_eq_true, if_false, xm_big, if_pos hb, hs, hr, if_true]) k
theorem xg_callST {ix : Nat} {as rest : List Value} (ha : xm_at xP mi pc = some (pc, .invokestatic ix, a0, b0, k0, d0)) (hb : b0 ≤ st.length ∧ (st.drop b0).length ≤ 4 ∧ (st.take b0).all xm_cat = true) (hs : (st.take b0).reverse = as) (hd : st.drop b0 = rest) (k : xG xs LS d a0 (0, xm_entry xP a0 as, []) (h, ks, true) (fun r S' => (∃ v, r = .inl v ∧ xG xs LS (d + 1) mi (pc + 3, L, v.toList ++ rest) (S'.1, S'.2.1, fl && S'.2.2) Q) ∨ (∃ i ci fs, r = .inr i ∧ S'.1[i]? = some (.inr (ci, fs)) ∧ ((∃ t, xm_hand xP mi pc ci = some t ∧ xG xs LS (d + 1) mi (t, L, [.ref i]) (S'.1, S'.2.1, false) Q) ∨ (xm_hand xP mi pc ci = none ∧ (fl && xm_noH xP mi) = true ∧ Q (.inr i) (S'.1, S'.2.1, true)))))) : xG xs LS (d + 1) mi (pc, L, st) (h, ks, fl) Q := xG.callT (by subst hd; subst hs; unfold xm_act; rw [ha]; simp only [xm_small, Bool.false_eq_true, if_false, xm_big, if_pos hb]) k
end XR
end
section
/-! 11.calls: calls, by what they give back; numbers. -/
section XK
variable {xs : Nat → Int32} {LS d mi pc a0 b0 k0 d0 : Nat} {L : List (Option Value)} {st rest : List Value} {h : List va_E} {ks : Nat} {fl : Bool} {Q : (Option Value ⊕ Nat) → xm_S → Prop}
/-- going on behind a call that answers -/
def xK1 (xs : Nat → Int32) (LS d mi pc : Nat) (L : List (Option Value)) (rest : List Value) (fl : Bool) (Q : (Option Value ⊕ Nat) → xm_S → Prop) : (Option Value ⊕ Nat) → xm_S → Prop := fun r S' => ∃ v, r = .inl (some v) ∧ xG xs LS d mi (pc, L, v :: rest) (S'.1, S'.2.1, fl && S'.2.2) Q
/-- .. that answers nothing -/
def xK0 (xs : Nat → Int32) (LS d mi pc : Nat) (L : List (Option Value)) (rest : List Value) (fl : Bool) (Q : (Option Value ⊕ Nat) → xm_S → Prop) : (Option Value ⊕ Nat) → xm_S → Prop := fun r S' => r = .inl none ∧ xG xs LS d mi (pc, L, rest) (S'.1, S'.2.1, fl && S'.2.2) Q
theorem xK1_c {v : Value} (k : xG xs LS d mi (pc, L, v :: rest) (h, ks, fl) Q) : xK1 xs LS d mi pc L rest fl Q (.inl (some v)) (h, ks, true) := ⟨v, rfl, by show xG xs LS d mi (pc, L, v :: rest) (h, ks, fl && true) Q; rw [Bool.and_true]; exact k⟩
theorem xK1_d {v : Value} {b : Bool} (k : xG xs LS d mi (pc, L, v :: rest) (h, ks, fl && b) Q) : xK1 xs LS d mi pc L rest fl Q (.inl (some v)) (h, ks, b) := ⟨v, rfl, k⟩
theorem xK0_c (k : xG xs LS d mi (pc, L, rest) (h, ks, fl) Q) : xK0 xs LS d mi pc L rest fl Q (.inl none) (h, ks, true) := ⟨rfl, by show xG xs LS d mi (pc, L, rest) (h, ks, fl && true) Q; rw [Bool.and_true]; exact k⟩
theorem xK0_d {b : Bool} (k : xG xs LS d mi (pc, L, rest) (h, ks, fl && b) Q) : xK0 xs LS d mi pc L rest fl Q (.inl none) (h, ks, b) := ⟨rfl, k⟩
theorem xg_callS1 {ix : Nat} {as : List Value} (ha : xm_at xP mi pc = some (pc, .invokestatic ix, a0, b0, k0, d0)) (hb : b0 ≤ st.length ∧ (st.drop b0).length ≤ 4 ∧ (st.take b0).all xm_cat = true) (hs : (st.take b0).reverse = as) (hd : st.drop b0 = rest) (k : xG xs LS d a0 (0, xm_entry xP a0 as, []) (h, ks, true) (xK1 xs LS (d + 1) mi (pc + 3) L rest fl Q)) : xG xs LS (d + 1) mi (pc, L, st) (h, ks, fl) Q :=
  xg_callS ha hb hs hd (xG.mono k (fun r S' ⟨v, h1, h2⟩ => ⟨some v, h1, h2⟩))
theorem xg_callS0 {ix : Nat} {as : List Value} (ha : xm_at xP mi pc = some (pc, .invokestatic ix, a0, b0, k0, d0)) (hb : b0 ≤ st.length ∧ (st.drop b0).length ≤ 4 ∧ (st.take b0).all xm_cat = true) (hs : (st.take b0).reverse = as) (hd : st.drop b0 = rest) (k : xG xs LS d a0 (0, xm_entry xP a0 as, []) (h, ks, true) (xK0 xs LS (d + 1) mi (pc + 3) L rest fl Q)) : xG xs LS (d + 1) mi (pc, L, st) (h, ks, fl) Q :=
  xg_callS ha hb hs hd (xG.mono k (fun r S' ⟨h1, h2⟩ => ⟨none, h1, h2⟩))
theorem xg_callV1 {ix r : Nat} {as fs : List Value} (ha : xm_at xP mi pc = some (pc, .invokevirtual ix, a0, b0, k0, d0)) (hb : b0 ≤ st.length ∧ (st.drop b0).length ≤ 4 ∧ (st.take b0).all xm_cat = true) (hs : (st.take b0).reverse = .ref r :: as) (hd : st.drop b0 = rest) (hr : h[r]? = some (.inr (k0, fs))) (k : xG xs LS d a0 (0, xm_entry xP a0 (.ref r :: as), []) (h, ks, true) (xK1 xs LS (d + 1) mi (pc + 3) L rest fl Q)) : xG xs LS (d + 1) mi (pc, L, st) (h, ks, fl) Q :=
  xg_callV ha hb hs hd hr (xG.mono k (fun r S' ⟨v, h1, h2⟩ => ⟨some v, h1, h2⟩))
theorem xg_callV0 {ix r : Nat} {as fs : List Value} (ha : xm_at xP mi pc = some (pc, .invokevirtual ix, a0, b0, k0, d0)) (hb : b0 ≤ st.length ∧ (st.drop b0).length ≤ 4 ∧ (st.take b0).all xm_cat = true) (hs : (st.take b0).reverse = .ref r :: as) (hd : st.drop b0 = rest) (hr : h[r]? = some (.inr (k0, fs))) (k : xG xs LS d a0 (0, xm_entry xP a0 (.ref r :: as), []) (h, ks, true) (xK0 xs LS (d + 1) mi (pc + 3) L rest fl Q)) : xG xs LS (d + 1) mi (pc, L, st) (h, ks, fl) Q :=
  xg_callV ha hb hs hd hr (xG.mono k (fun r S' ⟨h1, h2⟩ => ⟨none, h1, h2⟩))
theorem xg_callI0 {ix r : Nat} (ha : xm_at xP mi pc = some (pc, .invokespecial ix, a0, b0, k0, 0)) (hs : st.length ≤ 4) (k : xG xs LS d a0 (0, xm_entry xP a0 [.ref r], []) (h, ks, true) (xK0 xs LS (d + 1) mi (pc + 3) L st fl Q)) : xG xs LS (d + 1) mi (pc, L, .ref r :: st) (h, ks, fl) Q :=
  xg_callI ha hs (xG.mono k (fun r S' ⟨h1, h2⟩ => ⟨none, h1, h2⟩))
theorem xi_inc (i : Nat) : nI i + Int32.ofInt 1 = nI (i + 1) := nI_1 i
theorem xi_in {i n : Nat} (h : i < n) (hn : n < 2 ^ 31) : ¬ (nI i < 0 ∨ n ≤ (nI i).toNatClampNeg) := nI_in h hn
theorem xg_iald_n {r q n i : Nat} {f : Nat → Int32} (ha : xm_at xP mi pc = some (pc, .iaload, a0, b0, k0, d0)) (hr : h[r]? = some (.inl (q, n, .inl f))) (hq : xKT[q]? = some .int) (hi : i < n) (hn : n < 2 ^ 31) (k : xG xs LS d mi (pc + 1, L, .int (f i) :: st) (h, ks, fl) Q) : xG xs LS d mi (pc, L, .int (nI i) :: .ref r :: st) (h, ks, fl) Q :=
  xg_iald ha hr hq (nI_in hi hn) (by rw [nI_clamp (by omega)]) k
theorem xg_zald_n {r q n i : Nat} {f : Nat → Int32} (ha : xm_at xP mi pc = some (pc, .baload, a0, b0, k0, d0)) (hr : h[r]? = some (.inl (q, n, .inl f))) (hq : xKT[q]? = some .boolean) (hi : i < n) (hn : n < 2 ^ 31) (k : xG xs LS d mi (pc + 1, L, .int (f i) :: st) (h, ks, fl) Q) : xG xs LS d mi (pc, L, .int (nI i) :: .ref r :: st) (h, ks, fl) Q :=
  xg_zald ha hr hq (nI_in hi hn) (by rw [nI_clamp (by omega)]) k
theorem xg_aald_n {r q n i x : Nat} {f : Nat → Option Nat} (ha : xm_at xP mi pc = some (pc, .aaload, a0, b0, k0, d0)) (hr : h[r]? = some (.inl (q, n, .inr (.inr (.inr (.inr f)))))) (hq : xm_isO xKT[q]? = true) (hi : i < n) (hn : n < 2 ^ 31) (hv : f i = some x) (k : xG xs LS d mi (pc + 1, L, .ref x :: st) (h, ks, fl) Q) : xG xs LS d mi (pc, L, .int (nI i) :: .ref r :: st) (h, ks, fl) Q :=
  xg_aald ha hr hq (nI_in hi hn) (by rw [nI_clamp (by omega)]; exact hv) k
theorem xg_iast_n {r q n i : Nat} {f : Nat → Int32} {x : Int32} {h' : List va_E} (ha : xm_at xP mi pc = some (pc, .iastore, a0, b0, k0, d0)) (hr : h[r]? = some (.inl (q, n, .inl f))) (hq : xKT[q]? = some .int) (hi : i < n) (hn : n < 2 ^ 31) (hh : h.set r (.inl (q, n, .inl (upd f i x))) = h') (k : xG xs LS d mi (pc + 1, L, st) (h', ks, false) Q) : xG xs LS d mi (pc, L, .int x :: .int (nI i) :: .ref r :: st) (h, ks, fl) Q :=
  xg_iast ha hr hq (nI_in hi hn) (by rw [nI_clamp (by omega)]) hh k
end XK
section XW
variable {xs : Nat → Int32} {LS d mi pc a0 b0 k0 d0 : Nat} {L : List (Option Value)} {st rest : List Value} {h : List va_E} {ks : Nat} {fl : Bool} {Q : (Option Value ⊕ Nat) → xm_S → Prop}
/-- h' is h but for the cell r, which is c -/
def xU (h h' : List va_E) (r : Nat) (c : va_E) : Prop := h'.length = h.length ∧ h'[r]? = some c ∧ ∀ j, j ≠ r → h'[j]? = h[j]?
theorem xU_set {r : Nat} {c0 c : va_E} (hr : h[r]? = some c0) : xU h (h.set r c) r c := by
  have hl := (List.getElem?_eq_some_iff.mp hr).1
  exact ⟨List.length_set, List.getElem?_set_self hl, fun j hj => List.getElem?_set_ne (Ne.symm hj)⟩
theorem xU.trans {h1 h2 : List va_E} {r : Nat} {c c' : va_E} (u : xU h h1 r c) (v : xU h1 h2 r c') : xU h h2 r c' := ⟨v.1.trans u.1, v.2.1, fun j hj => (v.2.2 j hj).trans (u.2.2 j hj)⟩
theorem xg_putf {ix r : Nat} {fs fs' : List Value} {v : Value} (ha : xm_at xP mi pc = some (pc, .putfield ix, a0, b0, k0, d0)) (hr : h[r]? = some (.inr (a0, fs))) (hb : b0 < fs.length) (hv : xm_fit d0 v = true) (hf : fs.set b0 v = fs') (k : ∀ h', xU h h' r (.inr (a0, fs')) → xG xs LS d mi (pc + 3, L, st) (h', ks, false) Q) : xG xs LS d mi (pc, L, v :: .ref r :: st) (h, ks, fl) Q :=
  xg_putfield ha hr hb hv rfl (k _ (by subst hf; exact xU_set hr))
theorem xg_iastf {r q n : Nat} {j : Int32} {f f' : Nat → Int32} {x : Int32} (ha : xm_at xP mi pc = some (pc, .iastore, a0, b0, k0, d0)) (hr : h[r]? = some (.inl (q, n, .inl f))) (hq : xKT[q]? = some .int) (hin : ¬ (j < 0 ∨ n ≤ j.toNatClampNeg)) (hf : upd f j.toNatClampNeg x = f') (k : ∀ h', xU h h' r (.inl (q, n, .inl f')) → xG xs LS d mi (pc + 1, L, st) (h', ks, false) Q) : xG xs LS d mi (pc, L, .int x :: .int j :: .ref r :: st) (h, ks, fl) Q :=
  xg_iast ha hr hq hin hf rfl (k _ (xU_set hr))
theorem xg_iastf_n {r q n i : Nat} {f : Nat → Int32} {x : Int32} (ha : xm_at xP mi pc = some (pc, .iastore, a0, b0, k0, d0)) (hr : h[r]? = some (.inl (q, n, .inl f))) (hq : xKT[q]? = some .int) (hi : i < n) (hn : n < 2 ^ 31) (k : ∀ h', xU h h' r (.inl (q, n, .inl (upd f i x))) → xG xs LS d mi (pc + 1, L, st) (h', ks, false) Q) : xG xs LS d mi (pc, L, .int x :: .int (nI i) :: .ref r :: st) (h, ks, fl) Q :=
  xg_iastf ha hr hq (nI_in hi hn) (by rw [nI_clamp (by omega)]) k
theorem xg_zastf_n {r q n i : Nat} {f : Nat → Int32} {x : Int32} (ha : xm_at xP mi pc = some (pc, .bastore, a0, b0, k0, d0)) (hr : h[r]? = some (.inl (q, n, .inl f))) (hq : xKT[q]? = some .boolean) (hi : i < n) (hn : n < 2 ^ 31) (hx : x = 0 ∨ x = 1) (k : ∀ h', xU h h' r (.inl (q, n, .inl (upd f i x))) → xG xs LS d mi (pc + 1, L, st) (h', ks, false) Q) : xG xs LS d mi (pc, L, .int x :: .int (nI i) :: .ref r :: st) (h, ks, fl) Q :=
  xg_zast ha hr hq (nI_in hi hn) (by rw [nI_clamp (by omega), show vp_nar .boolean x = x by rcases hx with rfl | rfl <;> decide]) rfl (k _ (xU_set hr))
end XW
end
section
/-! 20.leaf: the class's smallest methods. -/
theorem xa_F_holds_0 : xm_at xP 28 0 = some (0, .iload_n 0, 0, 0, 0, 0) := by decide +kernel
theorem xa_F_holds_1 : xm_at xP 28 1 = some (1, .iconst 1, 0, 0, 0, 0) := by decide +kernel
theorem xa_F_holds_2 : xm_at xP 28 2 = some (2, .iload_n 1, 0, 0, 0, 0) := by decide +kernel
theorem xa_F_holds_3 : xm_at xP 28 3 = some (3, .ishl, 0, 0, 0, 0) := by decide +kernel
theorem xa_F_holds_4 : xm_at xP 28 4 = some (4, .iand, 0, 0, 0, 0) := by decide +kernel
theorem xa_F_holds_5 : xm_at xP 28 5 = some (5, .ifCond .eq 7, 12, 0, 0, 0) := by decide +kernel
theorem xa_F_holds_8 : xm_at xP 28 8 = some (8, .iconst 1, 0, 0, 0, 0) := by decide +kernel
theorem xa_F_holds_9 : xm_at xP 28 9 = some (9, .goto 4, 13, 0, 0, 0) := by decide +kernel
theorem xa_F_holds_12 : xm_at xP 28 12 = some (12, .iconst 0, 0, 0, 0, 0) := by decide +kernel
theorem xa_F_holds_13 : xm_at xP 28 13 = some (13, .ireturn, 0, 0, 0, 1) := by decide +kernel
theorem xa_N_otherEnd_0 : xm_at xP 35 0 = some (0, .aload_n 0, 0, 0, 0, 0) := by decide +kernel
theorem xa_N_otherEnd_1 : xm_at xP 35 1 = some (1, .getfield 15, 1, 2, 0, 0) := by decide +kernel
theorem xa_N_otherEnd_4 : xm_at xP 35 4 = some (4, .iload_n 1, 0, 0, 0, 0) := by decide +kernel
theorem xa_N_otherEnd_5 : xm_at xP 35 5 = some (5, .iaload, 0, 0, 0, 0) := by decide +kernel
theorem xa_N_otherEnd_6 : xm_at xP 35 6 = some (6, .iload_n 2, 0, 0, 0, 0) := by decide +kernel
theorem xa_N_otherEnd_7 : xm_at xP 35 7 = some (7, .if_icmp .ne 12, 19, 0, 0, 0) := by decide +kernel
theorem xa_N_otherEnd_10 : xm_at xP 35 10 = some (10, .aload_n 0, 0, 0, 0, 0) := by decide +kernel
theorem xa_N_otherEnd_11 : xm_at xP 35 11 = some (11, .getfield 19, 1, 3, 0, 0) := by decide +kernel
theorem xa_N_otherEnd_14 : xm_at xP 35 14 = some (14, .iload_n 1, 0, 0, 0, 0) := by decide +kernel
theorem xa_N_otherEnd_15 : xm_at xP 35 15 = some (15, .iaload, 0, 0, 0, 0) := by decide +kernel
theorem xa_N_otherEnd_16 : xm_at xP 35 16 = some (16, .goto 9, 25, 0, 0, 0) := by decide +kernel
theorem xa_N_otherEnd_19 : xm_at xP 35 19 = some (19, .aload_n 0, 0, 0, 0, 0) := by decide +kernel
theorem xa_N_otherEnd_20 : xm_at xP 35 20 = some (20, .getfield 15, 1, 2, 0, 0) := by decide +kernel
theorem xa_N_otherEnd_23 : xm_at xP 35 23 = some (23, .iload_n 1, 0, 0, 0, 0) := by decide +kernel
theorem xa_N_otherEnd_24 : xm_at xP 35 24 = some (24, .iaload, 0, 0, 0, 0) := by decide +kernel
theorem xa_N_otherEnd_25 : xm_at xP 35 25 = some (25, .ireturn, 0, 0, 0, 0) := by decide +kernel
theorem xa_N_weight_0 : xm_at xP 29 0 = some (0, .aload_n 0, 0, 0, 0, 0) := by decide +kernel
theorem xa_N_weight_1 : xm_at xP 29 1 = some (1, .getfield 22, 1, 4, 0, 0) := by decide +kernel
theorem xa_N_weight_4 : xm_at xP 29 4 = some (4, .iload_n 1, 0, 0, 0, 0) := by decide +kernel
theorem xa_N_weight_5 : xm_at xP 29 5 = some (5, .iaload, 0, 0, 0, 0) := by decide +kernel
theorem xa_N_weight_6 : xm_at xP 29 6 = some (6, .bipush 14, 0, 0, 0, 0) := by decide +kernel
theorem xa_N_weight_8 : xm_at xP 29 8 = some (8, .ishl, 0, 0, 0, 0) := by decide +kernel
theorem xa_N_weight_9 : xm_at xP 29 9 = some (9, .iconst 1, 0, 0, 0, 0) := by decide +kernel
theorem xa_N_weight_10 : xm_at xP 29 10 = some (10, .bipush 13, 0, 0, 0, 0) := by decide +kernel
theorem xa_N_weight_12 : xm_at xP 29 12 = some (12, .iload_n 1, 0, 0, 0, 0) := by decide +kernel
theorem xa_N_weight_13 : xm_at xP 29 13 = some (13, .isub, 0, 0, 0, 0) := by decide +kernel
theorem xa_N_weight_14 : xm_at xP 29 14 = some (14, .ishl, 0, 0, 0, 0) := by decide +kernel
theorem xa_N_weight_15 : xm_at xP 29 15 = some (15, .isub, 0, 0, 0, 0) := by decide +kernel
theorem xa_N_weight_16 : xm_at xP 29 16 = some (16, .ireturn, 0, 0, 0, 0) := by decide +kernel
theorem xa_N_everyFibre_0 : xm_at xP 24 0 = some (0, .iconst 1, 0, 0, 0, 0) := by decide +kernel
theorem xa_N_everyFibre_1 : xm_at xP 24 1 = some (1, .aload_n 0, 0, 0, 0, 0) := by decide +kernel
theorem xa_N_everyFibre_2 : xm_at xP 24 2 = some (2, .getfield 37, 1, 1, 0, 0) := by decide +kernel
theorem xa_N_everyFibre_5 : xm_at xP 24 5 = some (5, .ishl, 0, 0, 0, 0) := by decide +kernel
theorem xa_N_everyFibre_6 : xm_at xP 24 6 = some (6, .iconst 1, 0, 0, 0, 0) := by decide +kernel
theorem xa_N_everyFibre_7 : xm_at xP 24 7 = some (7, .isub, 0, 0, 0, 0) := by decide +kernel
theorem xa_N_everyFibre_8 : xm_at xP 24 8 = some (8, .ireturn, 0, 0, 0, 0) := by decide +kernel
theorem xa_N_touching_0 : xm_at xP 34 0 = some (0, .iconst 0, 0, 0, 0, 0) := by decide +kernel
theorem xa_N_touching_1 : xm_at xP 34 1 = some (1, .istore_n 3, 0, 0, 0, 0) := by decide +kernel
theorem xa_N_touching_2 : xm_at xP 34 2 = some (2, .iload_n 3, 0, 0, 0, 0) := by decide +kernel
theorem xa_N_touching_3 : xm_at xP 34 3 = some (3, .aload_n 0, 0, 0, 0, 0) := by decide +kernel
theorem xa_N_touching_4 : xm_at xP 34 4 = some (4, .getfield 37, 1, 1, 0, 0) := by decide +kernel
theorem xa_N_touching_7 : xm_at xP 34 7 = some (7, .if_icmp .ge 39, 46, 0, 0, 0) := by decide +kernel
theorem xa_N_touching_10 : xm_at xP 34 10 = some (10, .iload_n 1, 0, 0, 0, 0) := by decide +kernel
theorem xa_N_touching_11 : xm_at xP 34 11 = some (11, .iload_n 3, 0, 0, 0, 0) := by decide +kernel
theorem xa_N_touching_12 : xm_at xP 34 12 = some (12, .invokestatic 40, 28, 2, 0, 0) := by decide +kernel
theorem xa_N_touching_15 : xm_at xP 34 15 = some (15, .ifCond .eq 25, 40, 0, 0, 0) := by decide +kernel
theorem xa_N_touching_18 : xm_at xP 34 18 = some (18, .aload_n 0, 0, 0, 0, 0) := by decide +kernel
theorem xa_N_touching_19 : xm_at xP 34 19 = some (19, .getfield 15, 1, 2, 0, 0) := by decide +kernel
theorem xa_N_touching_22 : xm_at xP 34 22 = some (22, .iload_n 3, 0, 0, 0, 0) := by decide +kernel
theorem xa_N_touching_23 : xm_at xP 34 23 = some (23, .iaload, 0, 0, 0, 0) := by decide +kernel
theorem xa_N_touching_24 : xm_at xP 34 24 = some (24, .iload_n 2, 0, 0, 0, 0) := by decide +kernel
theorem xa_N_touching_25 : xm_at xP 34 25 = some (25, .if_icmp .eq 13, 38, 0, 0, 0) := by decide +kernel
theorem xa_N_touching_28 : xm_at xP 34 28 = some (28, .aload_n 0, 0, 0, 0, 0) := by decide +kernel
theorem xa_N_touching_29 : xm_at xP 34 29 = some (29, .getfield 19, 1, 3, 0, 0) := by decide +kernel
theorem xa_N_touching_32 : xm_at xP 34 32 = some (32, .iload_n 3, 0, 0, 0, 0) := by decide +kernel
theorem xa_N_touching_33 : xm_at xP 34 33 = some (33, .iaload, 0, 0, 0, 0) := by decide +kernel
theorem xa_N_touching_34 : xm_at xP 34 34 = some (34, .iload_n 2, 0, 0, 0, 0) := by decide +kernel
theorem xa_N_touching_35 : xm_at xP 34 35 = some (35, .if_icmp .ne 5, 40, 0, 0, 0) := by decide +kernel
theorem xa_N_touching_38 : xm_at xP 34 38 = some (38, .iload_n 3, 0, 0, 0, 0) := by decide +kernel
theorem xa_N_touching_39 : xm_at xP 34 39 = some (39, .ireturn, 0, 0, 0, 0) := by decide +kernel
theorem xa_N_touching_40 : xm_at xP 34 40 = some (40, .iinc 3 1, 0, 0, 0, 0) := by decide +kernel
theorem xa_N_touching_43 : xm_at xP 34 43 = some (43, .goto (-41), 2, 0, 0, 0) := by decide +kernel
theorem xa_N_touching_46 : xm_at xP 34 46 = some (46, .iconst (-1), 0, 0, 0, 0) := by decide +kernel
theorem xa_N_touching_47 : xm_at xP 34 47 = some (47, .ireturn, 0, 0, 0, 0) := by decide +kernel
section XL
variable {xs : Nat → Int32} {LS d : Nat} {h : List va_E} {ks : Nat} {fl : Bool} {Q : (Option Value ⊕ Nat) → xm_S → Prop}
/-- bit f of the set -/
def xb (s : Int32) (f : Nat) : Bool := decide (¬ (s &&& ((1 : Int32) <<< (nI f &&& 31))) = 0)
def xz (b : Bool) : Int32 := if b then 1 else 0
theorem xz01 (b : Bool) : xz b = 0 ∨ xz b = 1 := by cases b <;> simp [xz]
theorem xz0 (b : Bool) : xz b = 0 ↔ b = false := by cases b <;> simp [xz]
/-- holds(set, f) -/
theorem c_F_holds {s : Int32} {f : Nat} (k : Q (.inl (some (.int (xz (xb s f))))) (h, ks, fl)) : xG xs LS d 28 (0, xm_entry xP 28 [.int s, .int (nI f)], []) (h, ks, fl) Q := by
  show xG xs LS d 28 (0, [some (.int s), some (.int (nI f))], []) (h, ks, fl) Q
  refine xg_iload_n xa_F_holds_0 rfl ?_
  refine xg_iconst (v := 1) xa_F_holds_1 (by decide) ?_
  refine xg_iload_n xa_F_holds_2 rfl ?_
  refine xg_ishl xa_F_holds_3 rfl ?_
  refine xg_iand xa_F_holds_4 rfl ?_
  refine xg_if_eq xa_F_holds_5 (fun hc => ?_) (fun hc => ?_)
  · have e : xb s f = false := by unfold xb; simp [hc]
    rw [e] at k
    refine xg_iconst (v := 0) xa_F_holds_12 (by decide) ?_
    exact xg_zreturn xa_F_holds_13 (Or.inl rfl) k
  · have e : xb s f = true := by unfold xb; simp [hc]
    rw [e] at k
    refine xg_iconst (v := 1) xa_F_holds_8 (by decide) ?_
    refine xg_goto xa_F_holds_9 ?_
    exact xg_zreturn xa_F_holds_13 (Or.inr rfl) k
end XL
section XL2
variable {xs : Nat → Int32} {LS d : Nat} {h : List va_E} {ks : Nat} {fl : Bool} {Q : (Option Value ⊕ Nat) → xm_S → Prop}
/-- the net's cells -/
def xNet (h : List va_E) (sites fibres : Nat) (fr to ln on bk co wy : Nat → Int32) : Prop :=
  h[1]? = some (.inr (1, [.int (nI sites), .int (nI fibres), .ref 2, .ref 3, .ref 4, .ref 5, .ref 6, .ref 7, .ref 8])) ∧ h[2]? = some (.inl (0, 14, .inl fr)) ∧ h[3]? = some (.inl (0, 14, .inl to)) ∧ h[4]? = some (.inl (0, 14, .inl ln)) ∧ h[5]? = some (.inl (0, 14, .inl on)) ∧ h[6]? = some (.inl (0, 14, .inl bk)) ∧ h[7]? = some (.inl (0, 7, .inl co)) ∧ h[8]? = some (.inl (0, 7, .inl wy))
variable {sites fibres : Nat} {fr to ln on bk co wy : Nat → Int32}
/-- the first of n places from i on -/
def xfst (p : Nat → Bool) : Nat → Nat → Option Nat
  | 0, _ => none
  | n + 1, i => if p i = true then some i else xfst p n (i + 1)
def xo (r : Option Nat) : Int32 := match r with
  | some i => nI i
  | none => -1
/-- fibre f is in the set and ends at the site -/
def xtch (fr to : Nat → Int32) (s site : Int32) (f : Nat) : Bool := xb s f && (decide (fr f = site) || decide (to f = site))
theorem c_N_otherEnd {f : Nat} {site : Int32} (hN : xNet h sites fibres fr to ln on bk co wy) (hf : f < 14) (k : Q (.inl (some (.int (if fr f = site then to f else fr f)))) (h, ks, fl)) : xG xs LS d 35 (0, xm_entry xP 35 [.ref 1, .int (nI f), .int site], []) (h, ks, fl) Q := by
  obtain ⟨h1, h2, h3, h4, h5, h6, h7, h8⟩ := hN
  show xG xs LS d 35 (0, [some (.ref 1), some (.int (nI f)), some (.int site)], []) (h, ks, fl) Q
  refine xg_aload_n xa_N_otherEnd_0 rfl ?_
  refine xg_getfield xa_N_otherEnd_1 (by assumption) rfl ?_
  refine xg_iload_n xa_N_otherEnd_4 rfl ?_
  refine xg_iald_n xa_N_otherEnd_5 (by assumption) rfl (by assumption) (by decide) ?_
  refine xg_iload_n xa_N_otherEnd_6 rfl ?_
  refine xg_icmp_ne xa_N_otherEnd_7 (fun hc => ?_) (fun hc => ?_)
  · rw [if_neg hc] at k
    refine xg_aload_n xa_N_otherEnd_19 rfl ?_
    refine xg_getfield xa_N_otherEnd_20 (by assumption) rfl ?_
    refine xg_iload_n xa_N_otherEnd_23 rfl ?_
    refine xg_iald_n xa_N_otherEnd_24 (by assumption) rfl (by assumption) (by decide) ?_
    exact xg_ireturn xa_N_otherEnd_25 k
  · rw [if_pos hc] at k
    refine xg_aload_n xa_N_otherEnd_10 rfl ?_
    refine xg_getfield xa_N_otherEnd_11 (by assumption) rfl ?_
    refine xg_iload_n xa_N_otherEnd_14 rfl ?_
    refine xg_iald_n xa_N_otherEnd_15 (by assumption) rfl (by assumption) (by decide) ?_
    refine xg_goto xa_N_otherEnd_16 ?_
    exact xg_ireturn xa_N_otherEnd_25 k
theorem c_N_touching {s site : Int32} (hN : xNet h sites fibres fr to ln on bk co wy) (hf : fibres ≤ 14) (k : Q (.inl (some (.int (xo (xfst (xtch fr to s site) fibres 0))))) (h, ks, fl)) : xG xs LS (d + 1) 34 (0, xm_entry xP 34 [.ref 1, .int s, .int site], []) (h, ks, fl) Q := by
  obtain ⟨h1, h2, h3, h4, h5, h6, h7, h8⟩ := hN
  show xG xs LS (d + 1) 34 (0, [some (.ref 1), some (.int s), some (.int site), none], []) (h, ks, fl) Q
  have loop : ∀ n i, i + n = fibres → Q (.inl (some (.int (xo (xfst (xtch fr to s site) n i))))) (h, ks, fl) → xG xs LS (d + 1) 34 (2, [some (.ref 1), some (.int s), some (.int site), some (.int (nI i))], []) (h, ks, fl) Q := by
    intro n
    induction n with
    | zero =>
      intro i hi k
      refine xg_iload_n xa_N_touching_2 rfl ?_
      refine xg_aload_n xa_N_touching_3 rfl ?_
      refine xg_getfield xa_N_touching_4 (by assumption) rfl ?_
      refine xg_icmp_ge xa_N_touching_7 (fun hc => ?_) (fun hc => absurd (nI_le (by omega) (by omega)) hc)
      refine xg_iconst (v := (-1)) xa_N_touching_46 (by decide) ?_
      exact xg_ireturn xa_N_touching_47 k
    | succ n ih =>
      intro i hi k
      have hi14 : i < 14 := by omega
      refine xg_iload_n xa_N_touching_2 rfl ?_
      refine xg_aload_n xa_N_touching_3 rfl ?_
      refine xg_getfield xa_N_touching_4 (by assumption) rfl ?_
      refine xg_icmp_ge xa_N_touching_7 (fun hc => absurd hc (nI_ge (by omega) (by omega))) (fun hc => ?_)
      refine xg_iload_n xa_N_touching_10 rfl ?_
      refine xg_iload_n xa_N_touching_11 rfl ?_
      refine xg_callS1 xa_N_touching_12 ⟨Nat.le_of_ble_eq_true rfl, Nat.le_of_ble_eq_true rfl, rfl⟩ rfl rfl ?_
      refine c_F_holds ?_
      refine xK1_c ?_
      have next : xtch fr to s site i = false → xG xs LS (d + 1) 34 (40, [some (.ref 1), some (.int s), some (.int site), some (.int (nI i))], []) (h, ks, fl) Q := by
        intro e
        refine xg_iinc (L' := [_, _, _, _]) xa_N_touching_40 rfl (xi_inc _) rfl ?_
        refine xg_goto xa_N_touching_43 ?_
        refine ih (i + 1) (by omega) ?_
        unfold xfst at k
        rw [if_neg (by rw [e]; decide)] at k
        exact k
      have found : xtch fr to s site i = true → xG xs LS (d + 1) 34 (38, [some (.ref 1), some (.int s), some (.int site), some (.int (nI i))], []) (h, ks, fl) Q := by
        intro e
        refine xg_iload_n xa_N_touching_38 rfl ?_
        refine xg_ireturn xa_N_touching_39 ?_
        unfold xfst at k
        rw [if_pos e] at k
        exact k
      refine xg_if_eq xa_N_touching_15 (fun hc => next ?_) (fun hc => ?_)
      · unfold xtch
        rw [(xz0 _).mp hc]
        rfl
      · have hb : xb s i = true := by
          cases hb : xb s i with
          | true => rfl
          | false => exact absurd ((xz0 _).mpr hb) hc
        refine xg_aload_n xa_N_touching_18 rfl ?_
        refine xg_getfield xa_N_touching_19 (by assumption) rfl ?_
        refine xg_iload_n xa_N_touching_22 rfl ?_
        refine xg_iald_n xa_N_touching_23 (by assumption) rfl (by assumption) (by decide) ?_
        refine xg_iload_n xa_N_touching_24 rfl ?_
        refine xg_icmp_eq xa_N_touching_25 (fun hc => found ?_) (fun hc2 => ?_)
        · unfold xtch; rw [hb, decide_eq_true hc]; rfl
        · refine xg_aload_n xa_N_touching_28 rfl ?_
          refine xg_getfield xa_N_touching_29 (by assumption) rfl ?_
          refine xg_iload_n xa_N_touching_32 rfl ?_
          refine xg_iald_n xa_N_touching_33 (by assumption) rfl (by assumption) (by decide) ?_
          refine xg_iload_n xa_N_touching_34 rfl ?_
          refine xg_icmp_ne xa_N_touching_35 (fun hc => next ?_) (fun hc => found ?_)
          · unfold xtch; rw [hb, decide_eq_false hc2, decide_eq_false hc]; rfl
          · unfold xtch; rw [hb, decide_eq_true hc]; simp
  refine xg_iconst (v := 0) xa_N_touching_0 (by decide) ?_
  refine xg_istore_n (L' := [_, _, _, _]) xa_N_touching_1 (Nat.le_of_ble_eq_true rfl) rfl ?_
  exact loop fibres 0 (by omega) k
end XL2
end
section
/-! 21.conn: a connection's methods. -/
theorem xa_C_ask_0 : xm_at xP 20 0 = some (0, .aload_n 0, 0, 0, 0, 0) := by decide +kernel
theorem xa_C_ask_1 : xm_at xP 20 1 = some (1, .iload_n 1, 0, 0, 0, 0) := by decide +kernel
theorem xa_C_ask_2 : xm_at xP 20 2 = some (2, .putfield 9, 0, 2, 0, 0) := by decide +kernel
theorem xa_C_ask_5 : xm_at xP 20 5 = some (5, .aload_n 0, 0, 0, 0, 0) := by decide +kernel
theorem xa_C_ask_6 : xm_at xP 20 6 = some (6, .iload_n 2, 0, 0, 0, 0) := by decide +kernel
theorem xa_C_ask_7 : xm_at xP 20 7 = some (7, .putfield 15, 0, 3, 0, 0) := by decide +kernel
theorem xa_C_ask_10 : xm_at xP 20 10 = some (10, .aload_n 0, 0, 0, 0, 0) := by decide +kernel
theorem xa_C_ask_11 : xm_at xP 20 11 = some (11, .iload_n 3, 0, 0, 0, 0) := by decide +kernel
theorem xa_C_ask_12 : xm_at xP 20 12 = some (12, .putfield 18, 0, 1, 0, 1) := by decide +kernel
theorem xa_C_ask_15 : xm_at xP 20 15 = some (15, .return_, 0, 0, 0, 0) := by decide +kernel
theorem xa_C_settle_0 : xm_at xP 36 0 = some (0, .aload_n 0, 0, 0, 0, 0) := by decide +kernel
theorem xa_C_settle_1 : xm_at xP 36 1 = some (1, .iload_n 1, 0, 0, 0, 0) := by decide +kernel
theorem xa_C_settle_2 : xm_at xP 36 2 = some (2, .putfield 22, 0, 4, 0, 0) := by decide +kernel
theorem xa_C_settle_5 : xm_at xP 36 5 = some (5, .aload_n 0, 0, 0, 0, 0) := by decide +kernel
theorem xa_C_settle_6 : xm_at xP 36 6 = some (6, .iload_n 2, 0, 0, 0, 0) := by decide +kernel
theorem xa_C_settle_7 : xm_at xP 36 7 = some (7, .putfield 25, 0, 5, 0, 0) := by decide +kernel
theorem xa_C_settle_10 : xm_at xP 36 10 = some (10, .aload_n 0, 0, 0, 0, 0) := by decide +kernel
theorem xa_C_settle_11 : xm_at xP 36 11 = some (11, .iload_n 3, 0, 0, 0, 0) := by decide +kernel
theorem xa_C_settle_12 : xm_at xP 36 12 = some (12, .iload_n 2, 0, 0, 0, 0) := by decide +kernel
theorem xa_C_settle_13 : xm_at xP 36 13 = some (13, .iconst (-1), 0, 0, 0, 0) := by decide +kernel
theorem xa_C_settle_14 : xm_at xP 36 14 = some (14, .ixor, 0, 0, 0, 0) := by decide +kernel
theorem xa_C_settle_15 : xm_at xP 36 15 = some (15, .iand, 0, 0, 0, 0) := by decide +kernel
theorem xa_C_settle_16 : xm_at xP 36 16 = some (16, .putfield 28, 0, 6, 0, 0) := by decide +kernel
theorem xa_C_settle_19 : xm_at xP 36 19 = some (19, .aload_n 0, 0, 0, 0, 0) := by decide +kernel
theorem xa_C_settle_20 : xm_at xP 36 20 = some (20, .iconst 0, 0, 0, 0, 0) := by decide +kernel
theorem xa_C_settle_21 : xm_at xP 36 21 = some (21, .putfield 31, 0, 7, 0, 0) := by decide +kernel
theorem xa_C_settle_24 : xm_at xP 36 24 = some (24, .aload_n 0, 0, 0, 0, 0) := by decide +kernel
theorem xa_C_settle_25 : xm_at xP 36 25 = some (25, .iconst 0, 0, 0, 0, 0) := by decide +kernel
theorem xa_C_settle_26 : xm_at xP 36 26 = some (26, .putfield 34, 0, 8, 0, 0) := by decide +kernel
theorem xa_C_settle_29 : xm_at xP 36 29 = some (29, .return_, 0, 0, 0, 0) := by decide +kernel
theorem xa_C_tick_0 : xm_at xP 4 0 = some (0, .aload_n 0, 0, 0, 0, 0) := by decide +kernel
theorem xa_C_tick_1 : xm_at xP 4 1 = some (1, .iload_n 1, 0, 0, 0, 0) := by decide +kernel
theorem xa_C_tick_2 : xm_at xP 4 2 = some (2, .invokevirtual 40, 5, 2, 0, 0) := by decide +kernel
theorem xa_C_tick_5 : xm_at xP 4 5 = some (5, .ifCond .eq 20, 25, 0, 0, 0) := by decide +kernel
theorem xa_C_tick_8 : xm_at xP 4 8 = some (8, .aload_n 0, 0, 0, 0, 0) := by decide +kernel
theorem xa_C_tick_9 : xm_at xP 4 9 = some (9, .getfield 31, 0, 7, 0, 0) := by decide +kernel
theorem xa_C_tick_12 : xm_at xP 4 12 = some (12, .ifCond .eq 13, 25, 0, 0, 0) := by decide +kernel
theorem xa_C_tick_15 : xm_at xP 4 15 = some (15, .aload_n 0, 0, 0, 0, 0) := by decide +kernel
theorem xa_C_tick_16 : xm_at xP 4 16 = some (16, .dup, 0, 0, 0, 0) := by decide +kernel
theorem xa_C_tick_17 : xm_at xP 4 17 = some (17, .getfield 34, 0, 8, 0, 0) := by decide +kernel
theorem xa_C_tick_20 : xm_at xP 4 20 = some (20, .iconst 1, 0, 0, 0, 0) := by decide +kernel
theorem xa_C_tick_21 : xm_at xP 4 21 = some (21, .iadd, 0, 0, 0, 0) := by decide +kernel
theorem xa_C_tick_22 : xm_at xP 4 22 = some (22, .putfield 34, 0, 8, 0, 0) := by decide +kernel
theorem xa_C_tick_25 : xm_at xP 4 25 = some (25, .return_, 0, 0, 0, 0) := by decide +kernel
theorem xa_C_changeOver_0 : xm_at xP 7 0 = some (0, .aload_n 0, 0, 0, 0, 0) := by decide +kernel
theorem xa_C_changeOver_1 : xm_at xP 7 1 = some (1, .iload_n 1, 0, 0, 0, 0) := by decide +kernel
theorem xa_C_changeOver_2 : xm_at xP 7 2 = some (2, .invokevirtual 44, 8, 2, 0, 0) := by decide +kernel
theorem xa_C_changeOver_5 : xm_at xP 7 5 = some (5, .istore_n 3, 0, 0, 0, 0) := by decide +kernel
theorem xa_C_changeOver_6 : xm_at xP 7 6 = some (6, .aload_n 0, 0, 0, 0, 0) := by decide +kernel
theorem xa_C_changeOver_7 : xm_at xP 7 7 = some (7, .iload_n 1, 0, 0, 0, 0) := by decide +kernel
theorem xa_C_changeOver_8 : xm_at xP 7 8 = some (8, .invokevirtual 40, 5, 2, 0, 0) := by decide +kernel
theorem xa_C_changeOver_11 : xm_at xP 7 11 = some (11, .ifCond .ne 24, 35, 0, 0, 0) := by decide +kernel
theorem xa_C_changeOver_14 : xm_at xP 7 14 = some (14, .aload_n 0, 0, 0, 0, 0) := by decide +kernel
theorem xa_C_changeOver_15 : xm_at xP 7 15 = some (15, .iconst 0, 0, 0, 0, 0) := by decide +kernel
theorem xa_C_changeOver_16 : xm_at xP 7 16 = some (16, .putfield 34, 0, 8, 0, 0) := by decide +kernel
theorem xa_C_changeOver_19 : xm_at xP 7 19 = some (19, .aload_n 0, 0, 0, 0, 0) := by decide +kernel
theorem xa_C_changeOver_20 : xm_at xP 7 20 = some (20, .iload_n 3, 0, 0, 0, 0) := by decide +kernel
theorem xa_C_changeOver_21 : xm_at xP 7 21 = some (21, .ifCond .eq 7, 28, 0, 0, 0) := by decide +kernel
theorem xa_C_changeOver_24 : xm_at xP 7 24 = some (24, .iconst 1, 0, 0, 0, 0) := by decide +kernel
theorem xa_C_changeOver_25 : xm_at xP 7 25 = some (25, .goto 4, 29, 0, 0, 0) := by decide +kernel
theorem xa_C_changeOver_28 : xm_at xP 7 28 = some (28, .iconst 2, 0, 0, 0, 0) := by decide +kernel
theorem xa_C_changeOver_29 : xm_at xP 7 29 = some (29, .putfield 31, 0, 7, 0, 0) := by decide +kernel
theorem xa_C_changeOver_32 : xm_at xP 7 32 = some (32, .goto 31, 63, 0, 0, 0) := by decide +kernel
theorem xa_C_changeOver_35 : xm_at xP 7 35 = some (35, .aload_n 0, 0, 0, 0, 0) := by decide +kernel
theorem xa_C_changeOver_36 : xm_at xP 7 36 = some (36, .getfield 31, 0, 7, 0, 0) := by decide +kernel
theorem xa_C_changeOver_39 : xm_at xP 7 39 = some (39, .ifCond .eq 24, 63, 0, 0, 0) := by decide +kernel
theorem xa_C_changeOver_42 : xm_at xP 7 42 = some (42, .aload_n 0, 0, 0, 0, 0) := by decide +kernel
theorem xa_C_changeOver_43 : xm_at xP 7 43 = some (43, .aload_n 0, 0, 0, 0, 0) := by decide +kernel
theorem xa_C_changeOver_44 : xm_at xP 7 44 = some (44, .getfield 34, 0, 8, 0, 0) := by decide +kernel
theorem xa_C_changeOver_47 : xm_at xP 7 47 = some (47, .iload_n 2, 0, 0, 0, 0) := by decide +kernel
theorem xa_C_changeOver_48 : xm_at xP 7 48 = some (48, .if_icmp .ge 7, 55, 0, 0, 0) := by decide +kernel
theorem xa_C_changeOver_51 : xm_at xP 7 51 = some (51, .iload_n 3, 0, 0, 0, 0) := by decide +kernel
theorem xa_C_changeOver_52 : xm_at xP 7 52 = some (52, .ifCond .ne 7, 59, 0, 0, 0) := by decide +kernel
theorem xa_C_changeOver_55 : xm_at xP 7 55 = some (55, .iconst 0, 0, 0, 0, 0) := by decide +kernel
theorem xa_C_changeOver_56 : xm_at xP 7 56 = some (56, .goto 4, 60, 0, 0, 0) := by decide +kernel
theorem xa_C_changeOver_59 : xm_at xP 7 59 = some (59, .iconst 1, 0, 0, 0, 0) := by decide +kernel
theorem xa_C_changeOver_60 : xm_at xP 7 60 = some (60, .putfield 31, 0, 7, 0, 0) := by decide +kernel
theorem xa_C_changeOver_63 : xm_at xP 7 63 = some (63, .return_, 0, 0, 0, 0) := by decide +kernel
theorem xa_C_workingIsWhole_0 : xm_at xP 5 0 = some (0, .aload_n 0, 0, 0, 0, 0) := by decide +kernel
theorem xa_C_workingIsWhole_1 : xm_at xP 5 1 = some (1, .getfield 25, 0, 5, 0, 0) := by decide +kernel
theorem xa_C_workingIsWhole_4 : xm_at xP 5 4 = some (4, .iload_n 1, 0, 0, 0, 0) := by decide +kernel
theorem xa_C_workingIsWhole_5 : xm_at xP 5 5 = some (5, .iand, 0, 0, 0, 0) := by decide +kernel
theorem xa_C_workingIsWhole_6 : xm_at xP 5 6 = some (6, .ifCond .ne 7, 13, 0, 0, 0) := by decide +kernel
theorem xa_C_workingIsWhole_9 : xm_at xP 5 9 = some (9, .iconst 1, 0, 0, 0, 0) := by decide +kernel
theorem xa_C_workingIsWhole_10 : xm_at xP 5 10 = some (10, .goto 4, 14, 0, 0, 0) := by decide +kernel
theorem xa_C_workingIsWhole_13 : xm_at xP 5 13 = some (13, .iconst 0, 0, 0, 0, 0) := by decide +kernel
theorem xa_C_workingIsWhole_14 : xm_at xP 5 14 = some (14, .ireturn, 0, 0, 0, 1) := by decide +kernel
theorem xa_C_spareIsWhole_0 : xm_at xP 8 0 = some (0, .aload_n 0, 0, 0, 0, 0) := by decide +kernel
theorem xa_C_spareIsWhole_1 : xm_at xP 8 1 = some (1, .getfield 18, 0, 1, 0, 0) := by decide +kernel
theorem xa_C_spareIsWhole_4 : xm_at xP 8 4 = some (4, .ifCond .eq 16, 20, 0, 0, 0) := by decide +kernel
theorem xa_C_spareIsWhole_7 : xm_at xP 8 7 = some (7, .aload_n 0, 0, 0, 0, 0) := by decide +kernel
theorem xa_C_spareIsWhole_8 : xm_at xP 8 8 = some (8, .getfield 28, 0, 6, 0, 0) := by decide +kernel
theorem xa_C_spareIsWhole_11 : xm_at xP 8 11 = some (11, .iload_n 1, 0, 0, 0, 0) := by decide +kernel
theorem xa_C_spareIsWhole_12 : xm_at xP 8 12 = some (12, .iand, 0, 0, 0, 0) := by decide +kernel
theorem xa_C_spareIsWhole_13 : xm_at xP 8 13 = some (13, .ifCond .ne 7, 20, 0, 0, 0) := by decide +kernel
theorem xa_C_spareIsWhole_16 : xm_at xP 8 16 = some (16, .iconst 1, 0, 0, 0, 0) := by decide +kernel
theorem xa_C_spareIsWhole_17 : xm_at xP 8 17 = some (17, .goto 4, 21, 0, 0, 0) := by decide +kernel
theorem xa_C_spareIsWhole_20 : xm_at xP 8 20 = some (20, .iconst 0, 0, 0, 0, 0) := by decide +kernel
theorem xa_C_spareIsWhole_21 : xm_at xP 8 21 = some (21, .ireturn, 0, 0, 0, 1) := by decide +kernel
theorem xa_C_usedOn_0 : xm_at xP 23 0 = some (0, .aload_n 0, 0, 0, 0, 0) := by decide +kernel
theorem xa_C_usedOn_1 : xm_at xP 23 1 = some (1, .getfield 37, 0, 0, 0, 0) := by decide +kernel
theorem xa_C_usedOn_4 : xm_at xP 23 4 = some (4, .ifCond .eq 23, 27, 0, 0, 0) := by decide +kernel
theorem xa_C_usedOn_7 : xm_at xP 23 7 = some (7, .aload_n 0, 0, 0, 0, 0) := by decide +kernel
theorem xa_C_usedOn_8 : xm_at xP 23 8 = some (8, .getfield 22, 0, 4, 0, 0) := by decide +kernel
theorem xa_C_usedOn_11 : xm_at xP 23 11 = some (11, .iload_n 1, 0, 0, 0, 0) := by decide +kernel
theorem xa_C_usedOn_12 : xm_at xP 23 12 = some (12, .if_icmp .ne 15, 27, 0, 0, 0) := by decide +kernel
theorem xa_C_usedOn_15 : xm_at xP 23 15 = some (15, .aload_n 0, 0, 0, 0, 0) := by decide +kernel
theorem xa_C_usedOn_16 : xm_at xP 23 16 = some (16, .getfield 25, 0, 5, 0, 0) := by decide +kernel
theorem xa_C_usedOn_19 : xm_at xP 23 19 = some (19, .aload_n 0, 0, 0, 0, 0) := by decide +kernel
theorem xa_C_usedOn_20 : xm_at xP 23 20 = some (20, .getfield 28, 0, 6, 0, 0) := by decide +kernel
theorem xa_C_usedOn_23 : xm_at xP 23 23 = some (23, .ior, 0, 0, 0, 0) := by decide +kernel
theorem xa_C_usedOn_24 : xm_at xP 23 24 = some (24, .goto 4, 28, 0, 0, 0) := by decide +kernel
theorem xa_C_usedOn_27 : xm_at xP 23 27 = some (27, .iconst 0, 0, 0, 0, 0) := by decide +kernel
theorem xa_C_usedOn_28 : xm_at xP 23 28 = some (28, .ireturn, 0, 0, 0, 0) := by decide +kernel
theorem xa_C_init_0 : xm_at xP 2 0 = some (0, .aload_n 0, 0, 0, 0, 0) := by decide +kernel
theorem xa_C_init_1 : xm_at xP 2 1 = some (1, .invokespecial 3, 0, 0, 0, 1) := by decide +kernel
theorem xa_C_init_4 : xm_at xP 2 4 = some (4, .return_, 0, 0, 0, 0) := by decide +kernel
section XC
variable {xs : Nat → Int32} {LS d : Nat} {h : List va_E} {ks : Nat} {fl : Bool} {Q : (Option Value ⊕ Nat) → xm_S → Prop}
/-- a connection's cell -/
abbrev xcell (t g : Bool) (a b w wk sp on wt : Int32) : va_E := .inr (0, [.int (xz t), .int (xz g), .int a, .int b, .int w, .int wk, .int sp, .int on, .int wt])
theorem xzfit (b : Bool) : xm_fit 1 (.int (xz b)) = true := by cases b <;> rfl
variable {t g : Bool} {a b w wk sp on wt : Int32} {r : Nat}
theorem c_C_usedOn {q : Int32} (hr : h[r]? = some (xcell t g a b w wk sp on wt)) (k : Q (.inl (some (.int (if t = true ∧ w = q then wk ||| sp else 0)))) (h, ks, fl)) : xG xs LS d 23 (0, xm_entry xP 23 [.ref r, .int q], []) (h, ks, fl) Q := by
  show xG xs LS d 23 (0, [some (.ref r), some (.int q)], []) (h, ks, fl) Q
  have no : ¬ (t = true ∧ w = q) → xG xs LS d 23 (27, [some (.ref r), some (.int q)], []) (h, ks, fl) Q := by
    intro hn
    rw [if_neg hn] at k
    refine xg_iconst (v := 0) xa_C_usedOn_27 (by decide) ?_
    exact xg_ireturn xa_C_usedOn_28 k
  refine xg_aload_n xa_C_usedOn_0 rfl ?_
  refine xg_getfield xa_C_usedOn_1 (by assumption) rfl ?_
  refine xg_if_eq xa_C_usedOn_4 (fun hc => no ?_) (fun hc => ?_)
  · rw [(xz0 _).mp hc]
    exact fun q => by cases q.1
  · have ht : t = true := by
      cases t with
      | true => rfl
      | false => exact absurd rfl hc
    refine xg_aload_n xa_C_usedOn_7 rfl ?_
    refine xg_getfield xa_C_usedOn_8 (by assumption) rfl ?_
    refine xg_iload_n xa_C_usedOn_11 rfl ?_
    refine xg_icmp_ne xa_C_usedOn_12 (fun hc => no (fun q => hc q.2)) (fun hc => ?_)
    rw [if_pos ⟨ht, hc⟩] at k
    refine xg_aload_n xa_C_usedOn_15 rfl ?_
    refine xg_getfield xa_C_usedOn_16 (by assumption) rfl ?_
    refine xg_aload_n xa_C_usedOn_19 rfl ?_
    refine xg_getfield xa_C_usedOn_20 (by assumption) rfl ?_
    refine xg_ior xa_C_usedOn_23 rfl ?_
    refine xg_goto xa_C_usedOn_24 ?_
    exact xg_ireturn xa_C_usedOn_28 k
/-- no fibre of x is among c -/
def xwh (x c : Int32) : Bool := decide (x &&& c = 0)
theorem c_C_workingIsWhole {c : Int32} (hr : h[r]? = some (xcell t g a b w wk sp on wt)) (k : Q (.inl (some (.int (xz (xwh wk c))))) (h, ks, fl)) : xG xs LS d 5 (0, xm_entry xP 5 [.ref r, .int c], []) (h, ks, fl) Q := by
  show xG xs LS d 5 (0, [some (.ref r), some (.int c)], []) (h, ks, fl) Q
  refine xg_aload_n xa_C_workingIsWhole_0 rfl ?_
  refine xg_getfield xa_C_workingIsWhole_1 (by assumption) rfl ?_
  refine xg_iload_n xa_C_workingIsWhole_4 rfl ?_
  refine xg_iand xa_C_workingIsWhole_5 rfl ?_
  refine xg_if_ne xa_C_workingIsWhole_6 (fun hc => ?_) (fun hc => ?_)
  · rw [show xwh wk c = false from decide_eq_false hc] at k
    refine xg_iconst (v := 0) xa_C_workingIsWhole_13 (by decide) ?_
    exact xg_zreturn xa_C_workingIsWhole_14 (Or.inl rfl) k
  · rw [show xwh wk c = true from decide_eq_true hc] at k
    refine xg_iconst (v := 1) xa_C_workingIsWhole_9 (by decide) ?_
    refine xg_goto xa_C_workingIsWhole_10 ?_
    exact xg_zreturn xa_C_workingIsWhole_14 (Or.inr rfl) k
theorem c_C_spareIsWhole {c : Int32} (hr : h[r]? = some (xcell t g a b w wk sp on wt)) (k : Q (.inl (some (.int (xz (g && xwh sp c))))) (h, ks, fl)) : xG xs LS d 8 (0, xm_entry xP 8 [.ref r, .int c], []) (h, ks, fl) Q := by
  show xG xs LS d 8 (0, [some (.ref r), some (.int c)], []) (h, ks, fl) Q
  have no : (g && xwh sp c) = false → xG xs LS d 8 (20, [some (.ref r), some (.int c)], []) (h, ks, fl) Q := by
    intro hn
    rw [hn] at k
    refine xg_iconst (v := 0) xa_C_spareIsWhole_20 (by decide) ?_
    exact xg_zreturn xa_C_spareIsWhole_21 (Or.inl rfl) k
  refine xg_aload_n xa_C_spareIsWhole_0 rfl ?_
  refine xg_getfield xa_C_spareIsWhole_1 (by assumption) rfl ?_
  refine xg_if_eq xa_C_spareIsWhole_4 (fun hc => no (by rw [(xz0 _).mp hc]; rfl)) (fun hc => ?_)
  have hg : g = true := by
    cases g with
    | true => rfl
    | false => exact absurd rfl hc
  refine xg_aload_n xa_C_spareIsWhole_7 rfl ?_
  refine xg_getfield xa_C_spareIsWhole_8 (by assumption) rfl ?_
  refine xg_iload_n xa_C_spareIsWhole_11 rfl ?_
  refine xg_iand xa_C_spareIsWhole_12 rfl ?_
  refine xg_if_ne xa_C_spareIsWhole_13 (fun hc => no (by rw [show xwh sp c = false from decide_eq_false hc]; simp)) (fun hc => ?_)
  rw [hg, show xwh sp c = true from decide_eq_true hc] at k
  refine xg_iconst (v := 1) xa_C_spareIsWhole_16 (by decide) ?_
  refine xg_goto xa_C_spareIsWhole_17 ?_
  exact xg_zreturn xa_C_spareIsWhole_21 (Or.inr rfl) k
theorem c_C_ask {x y : Int32} {p : Bool} (hr : h[r]? = some (xcell t g a b w wk sp on wt)) (k : ∀ h', xU h h' r (xcell t p x y w wk sp on wt) → Q (.inl none) (h', ks, false)) : xG xs LS d 20 (0, xm_entry xP 20 [.ref r, .int x, .int y, .int (xz p)], []) (h, ks, fl) Q := by
  show xG xs LS d 20 (0, [some (.ref r), some (.int x), some (.int y), some (.int (xz p))], []) (h, ks, fl) Q
  refine xg_aload_n xa_C_ask_0 rfl ?_
  refine xg_iload_n xa_C_ask_1 rfl ?_
  refine xg_putf (fs' := [_, _, _, _, _, _, _, _, _]) xa_C_ask_2 (by assumption) (Nat.le_of_ble_eq_true rfl) rfl rfl (fun h2 u2 => ?_)
  have hr := u2.2.1
  refine xg_aload_n xa_C_ask_5 rfl ?_
  refine xg_iload_n xa_C_ask_6 rfl ?_
  refine xg_putf (fs' := [_, _, _, _, _, _, _, _, _]) xa_C_ask_7 (by assumption) (Nat.le_of_ble_eq_true rfl) rfl rfl (fun h7 u7 => ?_)
  have hr := u7.2.1
  refine xg_aload_n xa_C_ask_10 rfl ?_
  refine xg_iload_n xa_C_ask_11 rfl ?_
  refine xg_putf (fs' := [_, _, _, _, _, _, _, _, _]) xa_C_ask_12 (by assumption) (Nat.le_of_ble_eq_true rfl) (xzfit _) rfl (fun h12 u12 => ?_)
  exact xg_return xa_C_ask_15 (k _ ((u2.trans u7).trans u12))
theorem c_C_settle {q x y : Int32} (hr : h[r]? = some (xcell t g a b w wk sp on wt)) (k : ∀ h', xU h h' r (xcell t g a b q x (y &&& (x ^^^ (-1))) 0 0) → Q (.inl none) (h', ks, false)) : xG xs LS d 36 (0, xm_entry xP 36 [.ref r, .int q, .int x, .int y], []) (h, ks, fl) Q := by
  show xG xs LS d 36 (0, [some (.ref r), some (.int q), some (.int x), some (.int y)], []) (h, ks, fl) Q
  refine xg_aload_n xa_C_settle_0 rfl ?_
  refine xg_iload_n xa_C_settle_1 rfl ?_
  refine xg_putf (fs' := [_, _, _, _, _, _, _, _, _]) xa_C_settle_2 (by assumption) (Nat.le_of_ble_eq_true rfl) rfl rfl (fun h2 u2 => ?_)
  have hr := u2.2.1
  refine xg_aload_n xa_C_settle_5 rfl ?_
  refine xg_iload_n xa_C_settle_6 rfl ?_
  refine xg_putf (fs' := [_, _, _, _, _, _, _, _, _]) xa_C_settle_7 (by assumption) (Nat.le_of_ble_eq_true rfl) rfl rfl (fun h7 u7 => ?_)
  have hr := u7.2.1
  refine xg_aload_n xa_C_settle_10 rfl ?_
  refine xg_iload_n xa_C_settle_11 rfl ?_
  refine xg_iload_n xa_C_settle_12 rfl ?_
  refine xg_iconst (v := (-1)) xa_C_settle_13 (by decide) ?_
  refine xg_ixor xa_C_settle_14 rfl ?_
  refine xg_iand xa_C_settle_15 rfl ?_
  refine xg_putf (fs' := [_, _, _, _, _, _, _, _, _]) xa_C_settle_16 (by assumption) (Nat.le_of_ble_eq_true rfl) rfl rfl (fun h16 u16 => ?_)
  have hr := u16.2.1
  refine xg_aload_n xa_C_settle_19 rfl ?_
  refine xg_iconst (v := 0) xa_C_settle_20 (by decide) ?_
  refine xg_putf (fs' := [_, _, _, _, _, _, _, _, _]) xa_C_settle_21 (by assumption) (Nat.le_of_ble_eq_true rfl) rfl rfl (fun h21 u21 => ?_)
  have hr := u21.2.1
  refine xg_aload_n xa_C_settle_24 rfl ?_
  refine xg_iconst (v := 0) xa_C_settle_25 (by decide) ?_
  refine xg_putf (fs' := [_, _, _, _, _, _, _, _, _]) xa_C_settle_26 (by assumption) (Nat.le_of_ble_eq_true rfl) rfl rfl (fun h26 u26 => ?_)
  exact xg_return xa_C_settle_29 (k _ ((((u2.trans u7).trans u16).trans u21).trans u26))
theorem c_C_tick {c : Int32} (hr : h[r]? = some (xcell t g a b w wk sp on wt)) (k : ∀ h' f', xU h h' r (xcell t g a b w wk sp on (if xwh wk c = true ∧ ¬ on = 0 then wt + 1 else wt)) → Q (.inl none) (h', ks, f')) : xG xs LS (d + 1) 4 (0, xm_entry xP 4 [.ref r, .int c], []) (h, ks, fl) Q := by
  show xG xs LS (d + 1) 4 (0, [some (.ref r), some (.int c)], []) (h, ks, fl) Q
  have no : ¬ (xwh wk c = true ∧ ¬ on = 0) → xG xs LS (d + 1) 4 (25, [some (.ref r), some (.int c)], []) (h, ks, fl) Q := by
    intro hn
    rw [if_neg hn] at k
    exact xg_return xa_C_tick_25 (k _ _ ⟨rfl, hr, fun _ _ => rfl⟩)
  refine xg_aload_n xa_C_tick_0 rfl ?_
  refine xg_iload_n xa_C_tick_1 rfl ?_
  refine xg_callV1 xa_C_tick_2 ⟨Nat.le_of_ble_eq_true rfl, Nat.le_of_ble_eq_true rfl, rfl⟩ rfl rfl (by assumption) ?_
  refine c_C_workingIsWhole hr ?_
  refine xK1_c ?_
  refine xg_if_eq xa_C_tick_5 (fun hc => no (fun q => by rw [(xz0 _).mp hc] at q; cases q.1)) (fun hc => ?_)
  have hw : xwh wk c = true := by
    cases hw : xwh wk c with
    | true => rfl
    | false => exact absurd ((xz0 _).mpr hw) hc
  refine xg_aload_n xa_C_tick_8 rfl ?_
  refine xg_getfield xa_C_tick_9 (by assumption) rfl ?_
  refine xg_if_eq xa_C_tick_12 (fun hc => no (fun q => q.2 hc)) (fun hc => ?_)
  rw [if_pos ⟨hw, hc⟩] at k
  refine xg_aload_n xa_C_tick_15 rfl ?_
  refine xg_dup_r xa_C_tick_16 ?_
  refine xg_getfield xa_C_tick_17 (by assumption) rfl ?_
  refine xg_iconst (v := 1) xa_C_tick_20 (by decide) ?_
  refine xg_iadd xa_C_tick_21 rfl ?_
  refine xg_putf (fs' := [_, _, _, _, _, _, _, _, _]) xa_C_tick_22 (by assumption) (Nat.le_of_ble_eq_true rfl) rfl rfl (fun h22 u22 => ?_)
  exact xg_return xa_C_tick_25 (k _ _ u22)
/-- on which path it is, and its count, behind a change -/
def xco (g : Bool) (wk sp on wt c hold : Int32) : Int32 × Int32 :=
  if xwh wk c = false then (if (g && xwh sp c) = true then 1 else 2, 0)
  else if on = 0 then (on, wt)
  else (if hold ≤ wt ∨ (g && xwh sp c) = false then 0 else 1, wt)
theorem c_C_changeOver {c hold : Int32} (hr : h[r]? = some (xcell t g a b w wk sp on wt)) (k : ∀ h' f', xU h h' r (xcell t g a b w wk sp (xco g wk sp on wt c hold).1 (xco g wk sp on wt c hold).2) → Q (.inl none) (h', ks, f')) : xG xs LS (d + 1) 7 (0, xm_entry xP 7 [.ref r, .int c, .int hold], []) (h, ks, fl) Q := by
  show xG xs LS (d + 1) 7 (0, [some (.ref r), some (.int c), some (.int hold), none], []) (h, ks, fl) Q
  refine xg_aload_n xa_C_changeOver_0 rfl ?_
  refine xg_iload_n xa_C_changeOver_1 rfl ?_
  refine xg_callV1 xa_C_changeOver_2 ⟨Nat.le_of_ble_eq_true rfl, Nat.le_of_ble_eq_true rfl, rfl⟩ rfl rfl (by assumption) ?_
  refine c_C_spareIsWhole hr ?_
  refine xK1_c ?_
  refine xg_istore_n (L' := [_, _, _, _]) xa_C_changeOver_5 (Nat.le_of_ble_eq_true rfl) rfl ?_
  refine xg_aload_n xa_C_changeOver_6 rfl ?_
  refine xg_iload_n xa_C_changeOver_7 rfl ?_
  refine xg_callV1 xa_C_changeOver_8 ⟨Nat.le_of_ble_eq_true rfl, Nat.le_of_ble_eq_true rfl, rfl⟩ rfl rfl (by assumption) ?_
  refine c_C_workingIsWhole hr ?_
  refine xK1_c ?_
  refine xg_if_ne xa_C_changeOver_11 (fun hc => ?_) (fun hc => ?_)
  · have hw : xwh wk c = true := by
      cases hw : xwh wk c with
      | true => rfl
      | false => exact absurd ((xz0 _).mpr hw) hc
    unfold xco at k
    rw [if_neg (by rw [hw]; decide)] at k
    refine xg_aload_n xa_C_changeOver_35 rfl ?_
    refine xg_getfield xa_C_changeOver_36 (by assumption) rfl ?_
    refine xg_if_eq xa_C_changeOver_39 (fun hc => ?_) (fun hc => ?_)
    · rw [if_pos hc] at k
      exact xg_return xa_C_changeOver_63 (k _ _ ⟨rfl, hr, fun _ _ => rfl⟩)
    · rw [if_neg hc] at k
      have back : (hold ≤ wt ∨ (g && xwh sp c) = false) → xG xs LS (d + 1) 7 (55, [some (.ref r), some (.int c), some (.int hold), some (.int (xz (g && xwh sp c)))], [.ref r]) (h, ks, fl) Q := by
        intro hb
        rw [if_pos hb] at k
        refine xg_iconst (v := 0) xa_C_changeOver_55 (by decide) ?_
        refine xg_goto xa_C_changeOver_56 ?_
        refine xg_putf (fs' := [_, _, _, _, _, _, _, _, _]) xa_C_changeOver_60 (by assumption) (Nat.le_of_ble_eq_true rfl) rfl rfl (fun h60 u60 => ?_)
        exact xg_return xa_C_changeOver_63 (k _ _ u60)
      refine xg_aload_n xa_C_changeOver_42 rfl ?_
      refine xg_aload_n xa_C_changeOver_43 rfl ?_
      refine xg_getfield xa_C_changeOver_44 (by assumption) rfl ?_
      refine xg_iload_n xa_C_changeOver_47 rfl ?_
      refine xg_icmp_ge xa_C_changeOver_48 (fun hc => back (Or.inl hc)) (fun hc2 => ?_)
      refine xg_iload_n xa_C_changeOver_51 rfl ?_
      refine xg_if_ne xa_C_changeOver_52 (fun hc3 => ?_) (fun hc3 => back (Or.inr ((xz0 _).mp hc3)))
      rw [if_neg (fun q => by
        rcases q with q | q
        · exact hc2 q
        · exact hc3 ((xz0 _).mpr q))] at k
      refine xg_iconst (v := 1) xa_C_changeOver_59 (by decide) ?_
      refine xg_putf (fs' := [_, _, _, _, _, _, _, _, _]) xa_C_changeOver_60 (by assumption) (Nat.le_of_ble_eq_true rfl) rfl rfl (fun h60 u60 => ?_)
      exact xg_return xa_C_changeOver_63 (k _ _ u60)
  · unfold xco at k
    rw [if_pos ((xz0 _).mp hc)] at k
    refine xg_aload_n xa_C_changeOver_14 rfl ?_
    refine xg_iconst (v := 0) xa_C_changeOver_15 (by decide) ?_
    refine xg_putf (fs' := [_, _, _, _, _, _, _, _, _]) xa_C_changeOver_16 (by assumption) (Nat.le_of_ble_eq_true rfl) rfl rfl (fun h16 u16 => ?_)
    have hr := u16.2.1
    refine xg_aload_n xa_C_changeOver_19 rfl ?_
    refine xg_iload_n xa_C_changeOver_20 rfl ?_
    refine xg_if_eq xa_C_changeOver_21 (fun hc => ?_) (fun hc => ?_)
    · rw [if_neg (by rw [(xz0 _).mp hc]; decide)] at k
      refine xg_iconst (v := 2) xa_C_changeOver_28 (by decide) ?_
      refine xg_putf (fs' := [_, _, _, _, _, _, _, _, _]) xa_C_changeOver_29 (by assumption) (Nat.le_of_ble_eq_true rfl) rfl rfl (fun h29 u29 => ?_)
      refine xg_goto xa_C_changeOver_32 ?_
      exact xg_return xa_C_changeOver_63 (k _ _ (u16.trans u29))
    · have hs : (g && xwh sp c) = true := by
        cases hs : (g && xwh sp c) with
        | true => rfl
        | false => exact absurd ((xz0 _).mpr hs) hc
      rw [if_pos hs] at k
      refine xg_iconst (v := 1) xa_C_changeOver_24 (by decide) ?_
      refine xg_goto xa_C_changeOver_25 ?_
      refine xg_putf (fs' := [_, _, _, _, _, _, _, _, _]) xa_C_changeOver_29 (by assumption) (Nat.le_of_ble_eq_true rfl) rfl rfl (fun h29 u29 => ?_)
      refine xg_goto xa_C_changeOver_32 ?_
      exact xg_return xa_C_changeOver_63 (k _ _ (u16.trans u29))
end XC
end
section
/-! 22.net: the net's search. -/
theorem xa_N_extend_0 : xm_at xP 32 0 = some (0, .iload 4, 0, 0, 0, 0) := by decide +kernel
theorem xa_N_extend_2 : xm_at xP 32 2 = some (2, .ldc 75, 2147483647, 0, 0, 0) := by decide +kernel
theorem xa_N_extend_4 : xm_at xP 32 4 = some (4, .if_icmp .eq 32, 36, 0, 0, 0) := by decide +kernel
theorem xa_N_extend_7 : xm_at xP 32 7 = some (7, .aload_n 0, 0, 0, 0, 0) := by decide +kernel
theorem xa_N_extend_8 : xm_at xP 32 8 = some (8, .getfield 31, 1, 7, 0, 0) := by decide +kernel
theorem xa_N_extend_11 : xm_at xP 32 11 = some (11, .iload_n 1, 0, 0, 0, 0) := by decide +kernel
theorem xa_N_extend_12 : xm_at xP 32 12 = some (12, .iaload, 0, 0, 0, 0) := by decide +kernel
theorem xa_N_extend_13 : xm_at xP 32 13 = some (13, .ldc 75, 2147483647, 0, 0, 0) := by decide +kernel
theorem xa_N_extend_15 : xm_at xP 32 15 = some (15, .if_icmp .eq 21, 36, 0, 0, 0) := by decide +kernel
theorem xa_N_extend_18 : xm_at xP 32 18 = some (18, .aload_n 0, 0, 0, 0, 0) := by decide +kernel
theorem xa_N_extend_19 : xm_at xP 32 19 = some (19, .getfield 31, 1, 7, 0, 0) := by decide +kernel
theorem xa_N_extend_22 : xm_at xP 32 22 = some (22, .iload_n 1, 0, 0, 0, 0) := by decide +kernel
theorem xa_N_extend_23 : xm_at xP 32 23 = some (23, .iaload, 0, 0, 0, 0) := by decide +kernel
theorem xa_N_extend_24 : xm_at xP 32 24 = some (24, .iload 4, 0, 0, 0, 0) := by decide +kernel
theorem xa_N_extend_26 : xm_at xP 32 26 = some (26, .iadd, 0, 0, 0, 0) := by decide +kernel
theorem xa_N_extend_27 : xm_at xP 32 27 = some (27, .aload_n 0, 0, 0, 0, 0) := by decide +kernel
theorem xa_N_extend_28 : xm_at xP 32 28 = some (28, .getfield 31, 1, 7, 0, 0) := by decide +kernel
theorem xa_N_extend_31 : xm_at xP 32 31 = some (31, .iload_n 3, 0, 0, 0, 0) := by decide +kernel
theorem xa_N_extend_32 : xm_at xP 32 32 = some (32, .iaload, 0, 0, 0, 0) := by decide +kernel
theorem xa_N_extend_33 : xm_at xP 32 33 = some (33, .if_icmp .lt 5, 38, 0, 0, 0) := by decide +kernel
theorem xa_N_extend_36 : xm_at xP 32 36 = some (36, .iconst 0, 0, 0, 0, 0) := by decide +kernel
theorem xa_N_extend_37 : xm_at xP 32 37 = some (37, .ireturn, 0, 0, 0, 1) := by decide +kernel
theorem xa_N_extend_38 : xm_at xP 32 38 = some (38, .aload_n 0, 0, 0, 0, 0) := by decide +kernel
theorem xa_N_extend_39 : xm_at xP 32 39 = some (39, .getfield 31, 1, 7, 0, 0) := by decide +kernel
theorem xa_N_extend_42 : xm_at xP 32 42 = some (42, .iload_n 3, 0, 0, 0, 0) := by decide +kernel
theorem xa_N_extend_43 : xm_at xP 32 43 = some (43, .aload_n 0, 0, 0, 0, 0) := by decide +kernel
theorem xa_N_extend_44 : xm_at xP 32 44 = some (44, .getfield 31, 1, 7, 0, 0) := by decide +kernel
theorem xa_N_extend_47 : xm_at xP 32 47 = some (47, .iload_n 1, 0, 0, 0, 0) := by decide +kernel
theorem xa_N_extend_48 : xm_at xP 32 48 = some (48, .iaload, 0, 0, 0, 0) := by decide +kernel
theorem xa_N_extend_49 : xm_at xP 32 49 = some (49, .iload 4, 0, 0, 0, 0) := by decide +kernel
theorem xa_N_extend_51 : xm_at xP 32 51 = some (51, .iadd, 0, 0, 0, 0) := by decide +kernel
theorem xa_N_extend_52 : xm_at xP 32 52 = some (52, .iastore, 0, 0, 0, 0) := by decide +kernel
theorem xa_N_extend_53 : xm_at xP 32 53 = some (53, .aload_n 0, 0, 0, 0, 0) := by decide +kernel
theorem xa_N_extend_54 : xm_at xP 32 54 = some (54, .getfield 34, 1, 8, 0, 0) := by decide +kernel
theorem xa_N_extend_57 : xm_at xP 32 57 = some (57, .iload_n 3, 0, 0, 0, 0) := by decide +kernel
theorem xa_N_extend_58 : xm_at xP 32 58 = some (58, .aload_n 0, 0, 0, 0, 0) := by decide +kernel
theorem xa_N_extend_59 : xm_at xP 32 59 = some (59, .getfield 34, 1, 8, 0, 0) := by decide +kernel
theorem xa_N_extend_62 : xm_at xP 32 62 = some (62, .iload_n 1, 0, 0, 0, 0) := by decide +kernel
theorem xa_N_extend_63 : xm_at xP 32 63 = some (63, .iaload, 0, 0, 0, 0) := by decide +kernel
theorem xa_N_extend_64 : xm_at xP 32 64 = some (64, .iconst 1, 0, 0, 0, 0) := by decide +kernel
theorem xa_N_extend_65 : xm_at xP 32 65 = some (65, .iload_n 2, 0, 0, 0, 0) := by decide +kernel
theorem xa_N_extend_66 : xm_at xP 32 66 = some (66, .ishl, 0, 0, 0, 0) := by decide +kernel
theorem xa_N_extend_67 : xm_at xP 32 67 = some (67, .ior, 0, 0, 0, 0) := by decide +kernel
theorem xa_N_extend_68 : xm_at xP 32 68 = some (68, .iastore, 0, 0, 0, 0) := by decide +kernel
theorem xa_N_extend_69 : xm_at xP 32 69 = some (69, .iconst 1, 0, 0, 0, 0) := by decide +kernel
theorem xa_N_extend_70 : xm_at xP 32 70 = some (70, .ireturn, 0, 0, 0, 1) := by decide +kernel
theorem xa_J_fill_0 : xm_at xP 31 0 = some (0, .iconst 0, 0, 0, 0, 0) := by decide +kernel
theorem xa_J_fill_1 : xm_at xP 31 1 = some (1, .istore_n 2, 0, 0, 0, 0) := by decide +kernel
theorem xa_J_fill_2 : xm_at xP 31 2 = some (2, .aload_n 0, 0, 0, 0, 0) := by decide +kernel
theorem xa_J_fill_3 : xm_at xP 31 3 = some (3, .arraylength, 0, 0, 0, 0) := by decide +kernel
theorem xa_J_fill_4 : xm_at xP 31 4 = some (4, .istore_n 3, 0, 0, 0, 0) := by decide +kernel
theorem xa_J_fill_5 : xm_at xP 31 5 = some (5, .iload_n 2, 0, 0, 0, 0) := by decide +kernel
theorem xa_J_fill_6 : xm_at xP 31 6 = some (6, .iload_n 3, 0, 0, 0, 0) := by decide +kernel
theorem xa_J_fill_7 : xm_at xP 31 7 = some (7, .if_icmp .ge 13, 20, 0, 0, 0) := by decide +kernel
theorem xa_J_fill_10 : xm_at xP 31 10 = some (10, .aload_n 0, 0, 0, 0, 0) := by decide +kernel
theorem xa_J_fill_11 : xm_at xP 31 11 = some (11, .iload_n 2, 0, 0, 0, 0) := by decide +kernel
theorem xa_J_fill_12 : xm_at xP 31 12 = some (12, .iload_n 1, 0, 0, 0, 0) := by decide +kernel
theorem xa_J_fill_13 : xm_at xP 31 13 = some (13, .iastore, 0, 0, 0, 0) := by decide +kernel
theorem xa_J_fill_14 : xm_at xP 31 14 = some (14, .iinc 2 1, 0, 0, 0, 0) := by decide +kernel
theorem xa_J_fill_17 : xm_at xP 31 17 = some (17, .goto (-12), 5, 0, 0, 0) := by decide +kernel
theorem xa_J_fill_20 : xm_at xP 31 20 = some (20, .return_, 0, 0, 0, 0) := by decide +kernel
theorem xa_N_cheapestWay_0 : xm_at xP 30 0 = some (0, .aload_n 0, 0, 0, 0, 0) := by decide +kernel
theorem xa_N_cheapestWay_1 : xm_at xP 30 1 = some (1, .getfield 31, 1, 7, 0, 0) := by decide +kernel
theorem xa_N_cheapestWay_4 : xm_at xP 30 4 = some (4, .ldc 75, 2147483647, 0, 0, 0) := by decide +kernel
theorem xa_N_cheapestWay_6 : xm_at xP 30 6 = some (6, .invokestatic 76, 31, 2, 0, 0) := by decide +kernel
theorem xa_N_cheapestWay_9 : xm_at xP 30 9 = some (9, .aload_n 0, 0, 0, 0, 0) := by decide +kernel
theorem xa_N_cheapestWay_10 : xm_at xP 30 10 = some (10, .getfield 34, 1, 8, 0, 0) := by decide +kernel
theorem xa_N_cheapestWay_13 : xm_at xP 30 13 = some (13, .iconst 0, 0, 0, 0, 0) := by decide +kernel
theorem xa_N_cheapestWay_14 : xm_at xP 30 14 = some (14, .invokestatic 76, 31, 2, 0, 0) := by decide +kernel
theorem xa_N_cheapestWay_17 : xm_at xP 30 17 = some (17, .aload_n 0, 0, 0, 0, 0) := by decide +kernel
theorem xa_N_cheapestWay_18 : xm_at xP 30 18 = some (18, .getfield 31, 1, 7, 0, 0) := by decide +kernel
theorem xa_N_cheapestWay_21 : xm_at xP 30 21 = some (21, .iload_n 1, 0, 0, 0, 0) := by decide +kernel
theorem xa_N_cheapestWay_22 : xm_at xP 30 22 = some (22, .iconst 0, 0, 0, 0, 0) := by decide +kernel
theorem xa_N_cheapestWay_23 : xm_at xP 30 23 = some (23, .iastore, 0, 0, 0, 0) := by decide +kernel
theorem xa_N_cheapestWay_24 : xm_at xP 30 24 = some (24, .iconst 1, 0, 0, 0, 0) := by decide +kernel
theorem xa_N_cheapestWay_25 : xm_at xP 30 25 = some (25, .istore_n 3, 0, 0, 0, 0) := by decide +kernel
theorem xa_N_cheapestWay_26 : xm_at xP 30 26 = some (26, .iconst 1, 0, 0, 0, 0) := by decide +kernel
theorem xa_N_cheapestWay_27 : xm_at xP 30 27 = some (27, .istore 4, 0, 0, 0, 0) := by decide +kernel
theorem xa_N_cheapestWay_29 : xm_at xP 30 29 = some (29, .iload 4, 0, 0, 0, 0) := by decide +kernel
theorem xa_N_cheapestWay_31 : xm_at xP 30 31 = some (31, .aload_n 0, 0, 0, 0, 0) := by decide +kernel
theorem xa_N_cheapestWay_32 : xm_at xP 30 32 = some (32, .getfield 9, 1, 0, 0, 0) := by decide +kernel
theorem xa_N_cheapestWay_35 : xm_at xP 30 35 = some (35, .if_icmp .ge 97, 132, 0, 0, 0) := by decide +kernel
theorem xa_N_cheapestWay_38 : xm_at xP 30 38 = some (38, .iload_n 3, 0, 0, 0, 0) := by decide +kernel
theorem xa_N_cheapestWay_39 : xm_at xP 30 39 = some (39, .ifCond .eq 93, 132, 0, 0, 0) := by decide +kernel
theorem xa_N_cheapestWay_42 : xm_at xP 30 42 = some (42, .iconst 0, 0, 0, 0, 0) := by decide +kernel
theorem xa_N_cheapestWay_43 : xm_at xP 30 43 = some (43, .istore_n 3, 0, 0, 0, 0) := by decide +kernel
theorem xa_N_cheapestWay_44 : xm_at xP 30 44 = some (44, .iconst 0, 0, 0, 0, 0) := by decide +kernel
theorem xa_N_cheapestWay_45 : xm_at xP 30 45 = some (45, .istore 5, 0, 0, 0, 0) := by decide +kernel
theorem xa_N_cheapestWay_47 : xm_at xP 30 47 = some (47, .iload 5, 0, 0, 0, 0) := by decide +kernel
theorem xa_N_cheapestWay_49 : xm_at xP 30 49 = some (49, .aload_n 0, 0, 0, 0, 0) := by decide +kernel
theorem xa_N_cheapestWay_50 : xm_at xP 30 50 = some (50, .getfield 37, 1, 1, 0, 0) := by decide +kernel
theorem xa_N_cheapestWay_53 : xm_at xP 30 53 = some (53, .if_icmp .ge 73, 126, 0, 0, 0) := by decide +kernel
theorem xa_N_cheapestWay_56 : xm_at xP 30 56 = some (56, .aload_n 0, 0, 0, 0, 0) := by decide +kernel
theorem xa_N_cheapestWay_57 : xm_at xP 30 57 = some (57, .aload_n 0, 0, 0, 0, 0) := by decide +kernel
theorem xa_N_cheapestWay_58 : xm_at xP 30 58 = some (58, .getfield 15, 1, 2, 0, 0) := by decide +kernel
theorem xa_N_cheapestWay_61 : xm_at xP 30 61 = some (61, .iload 5, 0, 0, 0, 0) := by decide +kernel
theorem xa_N_cheapestWay_63 : xm_at xP 30 63 = some (63, .iaload, 0, 0, 0, 0) := by decide +kernel
theorem xa_N_cheapestWay_64 : xm_at xP 30 64 = some (64, .iload 5, 0, 0, 0, 0) := by decide +kernel
theorem xa_N_cheapestWay_66 : xm_at xP 30 66 = some (66, .aload_n 0, 0, 0, 0, 0) := by decide +kernel
theorem xa_N_cheapestWay_67 : xm_at xP 30 67 = some (67, .getfield 19, 1, 3, 0, 0) := by decide +kernel
theorem xa_N_cheapestWay_70 : xm_at xP 30 70 = some (70, .iload 5, 0, 0, 0, 0) := by decide +kernel
theorem xa_N_cheapestWay_72 : xm_at xP 30 72 = some (72, .iaload, 0, 0, 0, 0) := by decide +kernel
theorem xa_N_cheapestWay_73 : xm_at xP 30 73 = some (73, .aload_n 0, 0, 0, 0, 0) := by decide +kernel
theorem xa_N_cheapestWay_74 : xm_at xP 30 74 = some (74, .getfield 25, 1, 5, 0, 0) := by decide +kernel
theorem xa_N_cheapestWay_77 : xm_at xP 30 77 = some (77, .iload 5, 0, 0, 0, 0) := by decide +kernel
theorem xa_N_cheapestWay_79 : xm_at xP 30 79 = some (79, .iaload, 0, 0, 0, 0) := by decide +kernel
theorem xa_N_cheapestWay_80 : xm_at xP 30 80 = some (80, .invokevirtual 82, 32, 5, 1, 0) := by decide +kernel
theorem xa_N_cheapestWay_83 : xm_at xP 30 83 = some (83, .ifCond .eq 5, 88, 0, 0, 0) := by decide +kernel
theorem xa_N_cheapestWay_86 : xm_at xP 30 86 = some (86, .iconst 1, 0, 0, 0, 0) := by decide +kernel
theorem xa_N_cheapestWay_87 : xm_at xP 30 87 = some (87, .istore_n 3, 0, 0, 0, 0) := by decide +kernel
theorem xa_N_cheapestWay_88 : xm_at xP 30 88 = some (88, .aload_n 0, 0, 0, 0, 0) := by decide +kernel
theorem xa_N_cheapestWay_89 : xm_at xP 30 89 = some (89, .aload_n 0, 0, 0, 0, 0) := by decide +kernel
theorem xa_N_cheapestWay_90 : xm_at xP 30 90 = some (90, .getfield 19, 1, 3, 0, 0) := by decide +kernel
theorem xa_N_cheapestWay_93 : xm_at xP 30 93 = some (93, .iload 5, 0, 0, 0, 0) := by decide +kernel
theorem xa_N_cheapestWay_95 : xm_at xP 30 95 = some (95, .iaload, 0, 0, 0, 0) := by decide +kernel
theorem xa_N_cheapestWay_96 : xm_at xP 30 96 = some (96, .iload 5, 0, 0, 0, 0) := by decide +kernel
theorem xa_N_cheapestWay_98 : xm_at xP 30 98 = some (98, .aload_n 0, 0, 0, 0, 0) := by decide +kernel
theorem xa_N_cheapestWay_99 : xm_at xP 30 99 = some (99, .getfield 15, 1, 2, 0, 0) := by decide +kernel
theorem xa_N_cheapestWay_102 : xm_at xP 30 102 = some (102, .iload 5, 0, 0, 0, 0) := by decide +kernel
theorem xa_N_cheapestWay_104 : xm_at xP 30 104 = some (104, .iaload, 0, 0, 0, 0) := by decide +kernel
theorem xa_N_cheapestWay_105 : xm_at xP 30 105 = some (105, .aload_n 0, 0, 0, 0, 0) := by decide +kernel
theorem xa_N_cheapestWay_106 : xm_at xP 30 106 = some (106, .getfield 28, 1, 6, 0, 0) := by decide +kernel
theorem xa_N_cheapestWay_109 : xm_at xP 30 109 = some (109, .iload 5, 0, 0, 0, 0) := by decide +kernel
theorem xa_N_cheapestWay_111 : xm_at xP 30 111 = some (111, .iaload, 0, 0, 0, 0) := by decide +kernel
theorem xa_N_cheapestWay_112 : xm_at xP 30 112 = some (112, .invokevirtual 82, 32, 5, 1, 0) := by decide +kernel
theorem xa_N_cheapestWay_115 : xm_at xP 30 115 = some (115, .ifCond .eq 5, 120, 0, 0, 0) := by decide +kernel
theorem xa_N_cheapestWay_118 : xm_at xP 30 118 = some (118, .iconst 1, 0, 0, 0, 0) := by decide +kernel
theorem xa_N_cheapestWay_119 : xm_at xP 30 119 = some (119, .istore_n 3, 0, 0, 0, 0) := by decide +kernel
theorem xa_N_cheapestWay_120 : xm_at xP 30 120 = some (120, .iinc 5 1, 0, 0, 0, 0) := by decide +kernel
theorem xa_N_cheapestWay_123 : xm_at xP 30 123 = some (123, .goto (-76), 47, 0, 0, 0) := by decide +kernel
theorem xa_N_cheapestWay_126 : xm_at xP 30 126 = some (126, .iinc 4 1, 0, 0, 0, 0) := by decide +kernel
theorem xa_N_cheapestWay_129 : xm_at xP 30 129 = some (129, .goto (-100), 29, 0, 0, 0) := by decide +kernel
theorem xa_N_cheapestWay_132 : xm_at xP 30 132 = some (132, .aload_n 0, 0, 0, 0, 0) := by decide +kernel
theorem xa_N_cheapestWay_133 : xm_at xP 30 133 = some (133, .getfield 34, 1, 8, 0, 0) := by decide +kernel
theorem xa_N_cheapestWay_136 : xm_at xP 30 136 = some (136, .iload_n 2, 0, 0, 0, 0) := by decide +kernel
theorem xa_N_cheapestWay_137 : xm_at xP 30 137 = some (137, .iaload, 0, 0, 0, 0) := by decide +kernel
theorem xa_N_cheapestWay_138 : xm_at xP 30 138 = some (138, .ireturn, 0, 0, 0, 0) := by decide +kernel
theorem xa_N_openBothWays_0 : xm_at xP 27 0 = some (0, .iconst 0, 0, 0, 0, 0) := by decide +kernel
theorem xa_N_openBothWays_1 : xm_at xP 27 1 = some (1, .istore_n 2, 0, 0, 0, 0) := by decide +kernel
theorem xa_N_openBothWays_2 : xm_at xP 27 2 = some (2, .iload_n 2, 0, 0, 0, 0) := by decide +kernel
theorem xa_N_openBothWays_3 : xm_at xP 27 3 = some (3, .aload_n 0, 0, 0, 0, 0) := by decide +kernel
theorem xa_N_openBothWays_4 : xm_at xP 27 4 = some (4, .getfield 37, 1, 1, 0, 0) := by decide +kernel
theorem xa_N_openBothWays_7 : xm_at xP 27 7 = some (7, .if_icmp .ge 42, 49, 0, 0, 0) := by decide +kernel
theorem xa_N_openBothWays_10 : xm_at xP 27 10 = some (10, .iload_n 1, 0, 0, 0, 0) := by decide +kernel
theorem xa_N_openBothWays_11 : xm_at xP 27 11 = some (11, .iload_n 2, 0, 0, 0, 0) := by decide +kernel
theorem xa_N_openBothWays_12 : xm_at xP 27 12 = some (12, .invokestatic 40, 28, 2, 0, 0) := by decide +kernel
theorem xa_N_openBothWays_15 : xm_at xP 27 15 = some (15, .ifCond .eq 11, 26, 0, 0, 0) := by decide +kernel
theorem xa_N_openBothWays_18 : xm_at xP 27 18 = some (18, .aload_n 0, 0, 0, 0, 0) := by decide +kernel
theorem xa_N_openBothWays_19 : xm_at xP 27 19 = some (19, .iload_n 2, 0, 0, 0, 0) := by decide +kernel
theorem xa_N_openBothWays_20 : xm_at xP 27 20 = some (20, .invokevirtual 72, 29, 2, 1, 0) := by decide +kernel
theorem xa_N_openBothWays_23 : xm_at xP 27 23 = some (23, .goto 5, 28, 0, 0, 0) := by decide +kernel
theorem xa_N_openBothWays_26 : xm_at xP 27 26 = some (26, .ldc 75, 2147483647, 0, 0, 0) := by decide +kernel
theorem xa_N_openBothWays_28 : xm_at xP 27 28 = some (28, .istore_n 3, 0, 0, 0, 0) := by decide +kernel
theorem xa_N_openBothWays_29 : xm_at xP 27 29 = some (29, .aload_n 0, 0, 0, 0, 0) := by decide +kernel
theorem xa_N_openBothWays_30 : xm_at xP 27 30 = some (30, .getfield 25, 1, 5, 0, 0) := by decide +kernel
theorem xa_N_openBothWays_33 : xm_at xP 27 33 = some (33, .iload_n 2, 0, 0, 0, 0) := by decide +kernel
theorem xa_N_openBothWays_34 : xm_at xP 27 34 = some (34, .iload_n 3, 0, 0, 0, 0) := by decide +kernel
theorem xa_N_openBothWays_35 : xm_at xP 27 35 = some (35, .iastore, 0, 0, 0, 0) := by decide +kernel
theorem xa_N_openBothWays_36 : xm_at xP 27 36 = some (36, .aload_n 0, 0, 0, 0, 0) := by decide +kernel
theorem xa_N_openBothWays_37 : xm_at xP 27 37 = some (37, .getfield 28, 1, 6, 0, 0) := by decide +kernel
theorem xa_N_openBothWays_40 : xm_at xP 27 40 = some (40, .iload_n 2, 0, 0, 0, 0) := by decide +kernel
theorem xa_N_openBothWays_41 : xm_at xP 27 41 = some (41, .iload_n 3, 0, 0, 0, 0) := by decide +kernel
theorem xa_N_openBothWays_42 : xm_at xP 27 42 = some (42, .iastore, 0, 0, 0, 0) := by decide +kernel
theorem xa_N_openBothWays_43 : xm_at xP 27 43 = some (43, .iinc 2 1, 0, 0, 0, 0) := by decide +kernel
theorem xa_N_openBothWays_46 : xm_at xP 27 46 = some (46, .goto (-44), 2, 0, 0, 0) := by decide +kernel
theorem xa_N_openBothWays_49 : xm_at xP 27 49 = some (49, .return_, 0, 0, 0, 0) := by decide +kernel
section XN
variable {xs : Nat → Int32} {LS d : Nat} {ks : Nat} {fl : Bool} {Q : (Option Value ⊕ Nat) → xm_S → Prop}
variable {sites fibres : Nat} {fr to ln on bk co wy : Nat → Int32}
/-- h' is h but for the cells lo .. hi - 1 -/
def xS (h h' : List va_E) (lo hi : Nat) : Prop := h'.length = h.length ∧ ∀ j, (j < lo ∨ hi ≤ j) → h'[j]? = h[j]?
theorem xS.rf {h : List va_E} {lo hi : Nat} : xS h h lo hi := ⟨rfl, fun _ _ => rfl⟩
theorem xS.tr {h h1 h2 : List va_E} {lo hi : Nat} (u : xS h h1 lo hi) (v : xS h1 h2 lo hi) : xS h h2 lo hi := ⟨v.1.trans u.1, fun j hj => (v.2 j hj).trans (u.2 j hj)⟩
theorem xU.toS {h h' : List va_E} {r lo hi : Nat} {c : va_E} (u : xU h h' r c) (h1 : lo ≤ r) (h2 : r < hi) : xS h h' lo hi := ⟨u.1, fun j hj => u.2.2 j (by omega)⟩
theorem xS.up {h h' : List va_E} {lo hi lo' hi' : Nat} (u : xS h h' lo hi) (h1 : lo' ≤ lo) (h2 : hi ≤ hi') : xS h h' lo' hi' := ⟨u.1, fun j hj => u.2 j (by omega)⟩
/-- bit f -/
def xbt (f : Nat) : Int32 := (1 : Int32) <<< (nI f &&& 31)
/-- one fibre tried from a to b -/
def xext (co wy : Nat → Int32) (a f b : Nat) (price : Int32) : Bool × (Nat → Int32) × (Nat → Int32) :=
  if price = 2147483647 ∨ co a = 2147483647 ∨ ¬ co a + price < co b then (false, co, wy) else (true, upd co b (co a + price), upd wy b (wy a ||| xbt f))
theorem c_N_extend {h : List va_E} {a f b : Nat} {price : Int32} (hN : xNet h sites fibres fr to ln on bk co wy) (ha : a < 7) (hb : b < 7)
    (k : ∀ h' f', xNet h' sites fibres fr to ln on bk (xext co wy a f b price).2.1 (xext co wy a f b price).2.2 → xS h h' 5 9 → Q (.inl (some (.int (xz (xext co wy a f b price).1)))) (h', ks, f')) : xG xs LS d 32 (0, xm_entry xP 32 [.ref 1, .int (nI a), .int (nI f), .int (nI b), .int price], []) (h, ks, fl) Q := by
  have hN0 := hN
  obtain ⟨h1, h2, h3, h4, h5, h6, h7, h8⟩ := hN
  show xG xs LS d 32 (0, [some (.ref 1), some (.int (nI a)), some (.int (nI f)), some (.int (nI b)), some (.int price)], []) (h, ks, fl) Q
  have no : (price = 2147483647 ∨ co a = 2147483647 ∨ ¬ co a + price < co b) → xG xs LS d 32 (36, [some (.ref 1), some (.int (nI a)), some (.int (nI f)), some (.int (nI b)), some (.int price)], []) (h, ks, fl) Q := by
    intro hn
    unfold xext at k
    rw [if_pos hn] at k
    refine xg_iconst (v := 0) xa_N_extend_36 (by decide) ?_
    exact xg_zreturn xa_N_extend_37 (Or.inl rfl) (k _ _ hN0 xS.rf)
  refine xg_iload xa_N_extend_0 rfl ?_
  refine xg_ldc (v := 2147483647) xa_N_extend_2 (by decide) ?_
  refine xg_icmp_eq xa_N_extend_4 (fun hc => no (Or.inl hc)) (fun c1 => ?_)
  refine xg_aload_n xa_N_extend_7 rfl ?_
  refine xg_getfield xa_N_extend_8 (by assumption) rfl ?_
  refine xg_iload_n xa_N_extend_11 rfl ?_
  refine xg_iald_n xa_N_extend_12 (by assumption) rfl (by assumption) (by decide) ?_
  refine xg_ldc (v := 2147483647) xa_N_extend_13 (by decide) ?_
  refine xg_icmp_eq xa_N_extend_15 (fun hc => no (Or.inr (Or.inl hc))) (fun c2 => ?_)
  refine xg_aload_n xa_N_extend_18 rfl ?_
  refine xg_getfield xa_N_extend_19 (by assumption) rfl ?_
  refine xg_iload_n xa_N_extend_22 rfl ?_
  refine xg_iald_n xa_N_extend_23 (by assumption) rfl (by assumption) (by decide) ?_
  refine xg_iload xa_N_extend_24 rfl ?_
  refine xg_iadd xa_N_extend_26 rfl ?_
  refine xg_aload_n xa_N_extend_27 rfl ?_
  refine xg_getfield xa_N_extend_28 (by assumption) rfl ?_
  refine xg_iload_n xa_N_extend_31 rfl ?_
  refine xg_iald_n xa_N_extend_32 (by assumption) rfl (by assumption) (by decide) ?_
  refine xg_icmp_lt xa_N_extend_33 (fun c3 => ?_) (fun hc => no (Or.inr (Or.inr hc)))
  unfold xext at k
  rw [if_neg (fun q => by
    rcases q with q | q | q
    · exact c1 q
    · exact c2 q
    · exact q c3)] at k
  refine xg_aload_n xa_N_extend_38 rfl ?_
  refine xg_getfield xa_N_extend_39 (by assumption) rfl ?_
  refine xg_iload_n xa_N_extend_42 rfl ?_
  refine xg_aload_n xa_N_extend_43 rfl ?_
  refine xg_getfield xa_N_extend_44 (by assumption) rfl ?_
  refine xg_iload_n xa_N_extend_47 rfl ?_
  refine xg_iald_n xa_N_extend_48 (by assumption) rfl (by assumption) (by decide) ?_
  refine xg_iload xa_N_extend_49 rfl ?_
  refine xg_iadd xa_N_extend_51 rfl ?_
  refine xg_iastf_n xa_N_extend_52 (by assumption) rfl (by assumption) (by decide) (fun h52 u52 => ?_)
  have h1 := (u52.2.2 1 (by decide)).trans h1
  have h7' := u52.2.1
  have h8 := (u52.2.2 8 (by decide)).trans h8
  refine xg_aload_n xa_N_extend_53 rfl ?_
  refine xg_getfield xa_N_extend_54 (by assumption) rfl ?_
  refine xg_iload_n xa_N_extend_57 rfl ?_
  refine xg_aload_n xa_N_extend_58 rfl ?_
  refine xg_getfield xa_N_extend_59 (by assumption) rfl ?_
  refine xg_iload_n xa_N_extend_62 rfl ?_
  refine xg_iald_n xa_N_extend_63 (by assumption) rfl (by assumption) (by decide) ?_
  refine xg_iconst (v := 1) xa_N_extend_64 (by decide) ?_
  refine xg_iload_n xa_N_extend_65 rfl ?_
  refine xg_ishl xa_N_extend_66 rfl ?_
  refine xg_ior xa_N_extend_67 rfl ?_
  refine xg_iastf_n xa_N_extend_68 (by assumption) rfl (by assumption) (by decide) (fun h68 u68 => ?_)
  refine xg_iconst (v := 1) xa_N_extend_69 (by decide) ?_
  refine xg_zreturn xa_N_extend_70 (Or.inr rfl) (k _ _ ⟨?_, ?_, ?_, ?_, ?_, ?_, ?_, ?_⟩ ((u52.toS (by decide) (by decide)).tr (u68.toS (by decide) (by decide))))
  · exact (u68.2.2 1 (by decide)).trans h1
  · exact (u68.2.2 2 (by decide)).trans ((u52.2.2 2 (by decide)).trans h2)
  · exact (u68.2.2 3 (by decide)).trans ((u52.2.2 3 (by decide)).trans h3)
  · exact (u68.2.2 4 (by decide)).trans ((u52.2.2 4 (by decide)).trans h4)
  · exact (u68.2.2 5 (by decide)).trans ((u52.2.2 5 (by decide)).trans h5)
  · exact (u68.2.2 6 (by decide)).trans ((u52.2.2 6 (by decide)).trans h6)
  · exact (u68.2.2 7 (by decide)).trans h7'
  · exact u68.2.1
/-- the first n places filled -/
def xfill (f : Nat → Int32) (n : Nat) (x : Int32) : Nat → Int32 := fun j => if j < n then x else f j
theorem xfill_s (f : Nat → Int32) (n : Nat) (x : Int32) : upd (xfill f n x) n x = xfill f (n + 1) x := by
  funext j
  unfold upd xfill
  by_cases h1 : j = n
  · subst h1
    simp
  · by_cases h2 : j < n
    · rw [if_neg h1, if_pos h2, if_pos (by omega)]
    · rw [if_neg h1, if_neg h2, if_neg (by omega)]
theorem xfill_0 (f : Nat → Int32) (x : Int32) : xfill f 0 x = f := by
  funext j
  simp [xfill]
theorem c_J_fill {h : List va_E} {r n : Nat} {f : Nat → Int32} {x : Int32} (hr : h[r]? = some (.inl (0, n, .inl f))) (hn : n < 1000) (k : ∀ h' f', xU h h' r (.inl (0, n, .inl (xfill f n x))) → Q (.inl none) (h', ks, f')) : xG xs LS d 31 (0, xm_entry xP 31 [.ref r, .int x], []) (h, ks, fl) Q := by
  show xG xs LS d 31 (0, [some (.ref r), some (.int x), none, none], []) (h, ks, fl) Q
  have loop : ∀ c i h' fl', i + c = n → xU h h' r (.inl (0, n, .inl (xfill f i x))) → xG xs LS d 31 (5, [some (.ref r), some (.int x), some (.int (nI i)), some (.int (nI n))], []) (h', ks, fl') Q := by
    intro c
    induction c with
    | zero =>
      intro i h' fl' hi hu
      refine xg_iload_n xa_J_fill_5 rfl ?_
      refine xg_iload_n xa_J_fill_6 rfl ?_
      refine xg_icmp_ge xa_J_fill_7 (fun hc => ?_) (fun hc => absurd (nI_le (by omega) (by omega)) hc)
      have e : i = n := by omega
      subst e
      exact xg_return xa_J_fill_20 (k _ _ hu)
    | succ c ih =>
      intro i h' fl' hi hu
      have hr' := hu.2.1
      have hin : i < n := by omega
      refine xg_iload_n xa_J_fill_5 rfl ?_
      refine xg_iload_n xa_J_fill_6 rfl ?_
      refine xg_icmp_ge xa_J_fill_7 (fun hc => absurd hc (nI_ge (by omega) (by omega))) (fun hc => ?_)
      refine xg_aload_n xa_J_fill_10 rfl ?_
      refine xg_iload_n xa_J_fill_11 rfl ?_
      refine xg_iload_n xa_J_fill_12 rfl ?_
      refine xg_iastf_n xa_J_fill_13 hr' rfl hin (by omega) (fun h13 u13 => ?_)
      rw [xfill_s] at u13
      refine xg_iinc (L' := [_, _, _, _]) xa_J_fill_14 rfl (xi_inc _) rfl ?_
      refine xg_goto xa_J_fill_17 ?_
      exact ih (i + 1) h13 _ (by omega) (hu.trans u13)
  refine xg_iconst (v := 0) xa_J_fill_0 (by decide) ?_
  refine xg_istore_n (L' := [_, _, _, _]) xa_J_fill_1 (Nat.le_of_ble_eq_true rfl) rfl ?_
  refine xg_aload_n xa_J_fill_2 rfl ?_
  refine xg_alen (v := nI n) xa_J_fill_3 hr (by decide) rfl ?_
  refine xg_istore_n (L' := [_, _, _, _]) xa_J_fill_4 (Nat.le_of_ble_eq_true rfl) rfl ?_
  exact loop n 0 h _ (by omega) ⟨rfl, by rw [xfill_0]; exact hr, fun _ _ => rfl⟩
/-- a round over the fibres from i on -/
def xrnd (src dst : Nat → Nat) (on bk : Nat → Int32) : Nat → Nat → Bool → (Nat → Int32) → (Nat → Int32) → Bool × (Nat → Int32) × (Nat → Int32)
  | 0, _, b, co, wy => (b, co, wy)
  | n + 1, i, b, co, wy => xrnd src dst on bk n (i + 1) (b || (xext co wy (src i) i (dst i) (on i)).1 || (xext (xext co wy (src i) i (dst i) (on i)).2.1 (xext co wy (src i) i (dst i) (on i)).2.2 (dst i) i (src i) (bk i)).1)
      (xext (xext co wy (src i) i (dst i) (on i)).2.1 (xext co wy (src i) i (dst i) (on i)).2.2 (dst i) i (src i) (bk i)).2.1 (xext (xext co wy (src i) i (dst i) (on i)).2.1 (xext co wy (src i) i (dst i) (on i)).2.2 (dst i) i (src i) (bk i)).2.2
/-- so many rounds, while something gets better -/
def xbf (src dst : Nat → Nat) (on bk : Nat → Int32) (fibres : Nat) : Nat → Bool → (Nat → Int32) → (Nat → Int32) → (Nat → Int32) × (Nat → Int32)
  | 0, _, co, wy => (co, wy)
  | n + 1, b, co, wy => if b = true then xbf src dst on bk fibres n (xrnd src dst on bk fibres 0 false co wy).1 (xrnd src dst on bk fibres 0 false co wy).2.1 (xrnd src dst on bk fibres 0 false co wy).2.2 else (co, wy)
/-- the search from a -/
def xcw (src dst : Nat → Nat) (on bk : Nat → Int32) (sites fibres a : Nat) (co wy : Nat → Int32) : (Nat → Int32) × (Nat → Int32) := xbf src dst on bk fibres (sites - 1) true (upd (xfill co 7 2147483647) a 0) (xfill wy 7 0)
theorem c_N_cheapestWay {h : List va_E} {src dst : Nat → Nat} {a b : Nat} (hN : xNet h sites fibres (fun f => nI (src f)) (fun f => nI (dst f)) ln on bk co wy) (hf : fibres ≤ 14) (hs : sites ≤ 7) (hs1 : 1 ≤ sites) (hsd : ∀ f, f < fibres → src f < 7 ∧ dst f < 7) (ha : a < 7) (hb : b < 7)
    (k : ∀ h' f', xNet h' sites fibres (fun f => nI (src f)) (fun f => nI (dst f)) ln on bk (xcw src dst on bk sites fibres a co wy).1 (xcw src dst on bk sites fibres a co wy).2 → xS h h' 5 9 → Q (.inl (some (.int ((xcw src dst on bk sites fibres a co wy).2 b)))) (h', ks, f')) : xG xs LS (d + 1) 30 (0, xm_entry xP 30 [.ref 1, .int (nI a), .int (nI b)], []) (h, ks, fl) Q := by
  show xG xs LS (d + 1) 30 (0, [some (.ref 1), some (.int (nI a)), some (.int (nI b)), none, none, none], []) (h, ks, fl) Q
  have inner : ∀ n i be co wy h' fl' rd (Q' : (Option Value ⊕ Nat) → xm_S → Prop), i + n = fibres → xNet h' sites fibres (fun f => nI (src f)) (fun f => nI (dst f)) ln on bk co wy →
      (∀ h'' f'', xNet h'' sites fibres (fun f => nI (src f)) (fun f => nI (dst f)) ln on bk (xrnd src dst on bk n i be co wy).2.1 (xrnd src dst on bk n i be co wy).2.2 → xS h' h'' 5 9 → xG xs LS (d + 1) 30 (126, [some (.ref 1), some (.int (nI a)), some (.int (nI b)), some (.int (xz (xrnd src dst on bk n i be co wy).1)), some (.int (nI rd)), some (.int (nI fibres))], []) (h'', ks, f'') Q') →
      xG xs LS (d + 1) 30 (47, [some (.ref 1), some (.int (nI a)), some (.int (nI b)), some (.int (xz be)), some (.int (nI rd)), some (.int (nI i))], []) (h', ks, fl') Q' := by
    intro n
    induction n with
    | zero =>
      intro i be co wy h' fl' rd Q' hi hN kk
      have hN0 := hN
      obtain ⟨h1, h2, h3, h4, h5, h6, h7, h8⟩ := hN
      have e : i = fibres := by omega
      subst e
      refine xg_iload xa_N_cheapestWay_47 rfl ?_
      refine xg_aload_n xa_N_cheapestWay_49 rfl ?_
      refine xg_getfield xa_N_cheapestWay_50 (by assumption) rfl ?_
      refine xg_icmp_ge xa_N_cheapestWay_53 (fun hc => ?_) (fun hc => absurd (nI_le (by omega) (by omega)) hc)
      exact kk _ _ hN0 xS.rf
    | succ n ih =>
      intro i be co wy h' fl' rd Q' hi hN kk
      have hN0 := hN
      obtain ⟨h1, h2, h3, h4, h5, h6, h7, h8⟩ := hN
      have hi14 : i < 14 := by omega
      obtain ⟨s7, d7⟩ := hsd i (by omega)
      refine xg_iload xa_N_cheapestWay_47 rfl ?_
      refine xg_aload_n xa_N_cheapestWay_49 rfl ?_
      refine xg_getfield xa_N_cheapestWay_50 (by assumption) rfl ?_
      refine xg_icmp_ge xa_N_cheapestWay_53 (fun hc => absurd hc (nI_ge (by omega) (by omega))) (fun hc => ?_)
      refine xg_aload_n xa_N_cheapestWay_56 rfl ?_
      refine xg_aload_n xa_N_cheapestWay_57 rfl ?_
      refine xg_getfield xa_N_cheapestWay_58 (by assumption) rfl ?_
      refine xg_iload xa_N_cheapestWay_61 rfl ?_
      refine xg_iald_n xa_N_cheapestWay_63 (by assumption) rfl (by assumption) (by decide) ?_
      refine xg_iload xa_N_cheapestWay_64 rfl ?_
      refine xg_aload_n xa_N_cheapestWay_66 rfl ?_
      refine xg_getfield xa_N_cheapestWay_67 (by assumption) rfl ?_
      refine xg_iload xa_N_cheapestWay_70 rfl ?_
      refine xg_iald_n xa_N_cheapestWay_72 (by assumption) rfl (by assumption) (by decide) ?_
      refine xg_aload_n xa_N_cheapestWay_73 rfl ?_
      refine xg_getfield xa_N_cheapestWay_74 (by assumption) rfl ?_
      refine xg_iload xa_N_cheapestWay_77 rfl ?_
      refine xg_iald_n xa_N_cheapestWay_79 (by assumption) rfl (by assumption) (by decide) ?_
      refine xg_callV1 xa_N_cheapestWay_80 ⟨Nat.le_of_ble_eq_true rfl, Nat.le_of_ble_eq_true rfl, rfl⟩ rfl rfl (by assumption) ?_
      refine c_N_extend hN0 s7 d7 (fun hA fA hNA hSA => xK1_d ?_)
      have go : ∀ be', be' = (be || (xext co wy (src i) i (dst i) (on i)).1) → xG xs LS (d + 1) 30 (88, [some (.ref 1), some (.int (nI a)), some (.int (nI b)), some (.int (xz be')), some (.int (nI rd)), some (.int (nI i))], []) (hA, ks, fl' && fA) Q' := by
        intro be' hbe
        have hNA0 := hNA
        obtain ⟨h1, h2, h3, h4, h5, h6, h7, h8⟩ := hNA
        refine xg_aload_n xa_N_cheapestWay_88 rfl ?_
        refine xg_aload_n xa_N_cheapestWay_89 rfl ?_
        refine xg_getfield xa_N_cheapestWay_90 (by assumption) rfl ?_
        refine xg_iload xa_N_cheapestWay_93 rfl ?_
        refine xg_iald_n xa_N_cheapestWay_95 (by assumption) rfl (by assumption) (by decide) ?_
        refine xg_iload xa_N_cheapestWay_96 rfl ?_
        refine xg_aload_n xa_N_cheapestWay_98 rfl ?_
        refine xg_getfield xa_N_cheapestWay_99 (by assumption) rfl ?_
        refine xg_iload xa_N_cheapestWay_102 rfl ?_
        refine xg_iald_n xa_N_cheapestWay_104 (by assumption) rfl (by assumption) (by decide) ?_
        refine xg_aload_n xa_N_cheapestWay_105 rfl ?_
        refine xg_getfield xa_N_cheapestWay_106 (by assumption) rfl ?_
        refine xg_iload xa_N_cheapestWay_109 rfl ?_
        refine xg_iald_n xa_N_cheapestWay_111 (by assumption) rfl (by assumption) (by decide) ?_
        refine xg_callV1 xa_N_cheapestWay_112 ⟨Nat.le_of_ble_eq_true rfl, Nat.le_of_ble_eq_true rfl, rfl⟩ rfl rfl (by assumption) ?_
        refine c_N_extend hNA0 d7 s7 (fun hB fB hNB hSB => xK1_d ?_)
        have go2 : ∀ be2, be2 = (be' || (xext (xext co wy (src i) i (dst i) (on i)).2.1 (xext co wy (src i) i (dst i) (on i)).2.2 (dst i) i (src i) (bk i)).1) → xG xs LS (d + 1) 30 (120, [some (.ref 1), some (.int (nI a)), some (.int (nI b)), some (.int (xz be2)), some (.int (nI rd)), some (.int (nI i))], []) (hB, ks, fl' && fA && fB) Q' := by
          intro be2 hbe2
          refine xg_iinc (L' := [_, _, _, _, _, _]) xa_N_cheapestWay_120 rfl (xi_inc _) rfl ?_
          refine xg_goto xa_N_cheapestWay_123 ?_
          refine ih (i + 1) be2 _ _ hB _ rd Q' (by omega) hNB (fun h'' f'' hN'' hS'' => ?_)
          rw [hbe2, hbe] at hN'' ⊢
          exact kk _ _ hN'' ((hSA.tr hSB).tr hS'')
        refine xg_if_eq xa_N_cheapestWay_115 (fun hc => go2 be' ?_) (fun hc => ?_)
        · rw [(xz0 _).mp hc]; simp
        · have ht : (xext (xext co wy (src i) i (dst i) (on i)).2.1 (xext co wy (src i) i (dst i) (on i)).2.2 (dst i) i (src i) (bk i)).1 = true := by
            cases hb : (xext (xext co wy (src i) i (dst i) (on i)).2.1 (xext co wy (src i) i (dst i) (on i)).2.2 (dst i) i (src i) (bk i)).1 with
            | true => rfl
            | false => exact absurd ((xz0 _).mpr hb) hc
          refine xg_iconst (v := 1) xa_N_cheapestWay_118 (by decide) ?_
          refine xg_istore_n (L' := [_, _, _, _, _, _]) xa_N_cheapestWay_119 (Nat.le_of_ble_eq_true rfl) rfl ?_
          exact go2 true (by rw [ht]; simp)
      refine xg_if_eq xa_N_cheapestWay_83 (fun hc => go be ?_) (fun hc => ?_)
      · rw [(xz0 _).mp hc]; simp
      · have ht : (xext co wy (src i) i (dst i) (on i)).1 = true := by
          cases hb : (xext co wy (src i) i (dst i) (on i)).1 with
          | true => rfl
          | false => exact absurd ((xz0 _).mpr hb) hc
        refine xg_iconst (v := 1) xa_N_cheapestWay_86 (by decide) ?_
        refine xg_istore_n (L' := [_, _, _, _, _, _]) xa_N_cheapestWay_87 (Nat.le_of_ble_eq_true rfl) rfl ?_
        exact go true (by rw [ht]; simp)
  have outer : ∀ n rd be co wy h' fl' (j5 : Option Value), rd + n = sites → xNet h' sites fibres (fun f => nI (src f)) (fun f => nI (dst f)) ln on bk co wy → xS h h' 5 9 →
      (∀ h'' f'', xNet h'' sites fibres (fun f => nI (src f)) (fun f => nI (dst f)) ln on bk (xbf src dst on bk fibres n be co wy).1 (xbf src dst on bk fibres n be co wy).2 → xS h h'' 5 9 → Q (.inl (some (.int ((xbf src dst on bk fibres n be co wy).2 b)))) (h'', ks, f'')) →
      xG xs LS (d + 1) 30 (29, [some (.ref 1), some (.int (nI a)), some (.int (nI b)), some (.int (xz be)), some (.int (nI rd)), j5], []) (h', ks, fl') Q := by
    intro n
    induction n with
    | zero =>
      intro rd be co wy h' fl' j5 hi hN hS kk
      have hN0 := hN
      obtain ⟨h1, h2, h3, h4, h5, h6, h7, h8⟩ := hN
      refine xg_iload xa_N_cheapestWay_29 rfl ?_
      refine xg_aload_n xa_N_cheapestWay_31 rfl ?_
      refine xg_getfield xa_N_cheapestWay_32 (by assumption) rfl ?_
      refine xg_icmp_ge xa_N_cheapestWay_35 (fun hc => ?_) (fun hc => absurd (nI_le (by omega) (by omega)) hc)
      refine xg_aload_n xa_N_cheapestWay_132 rfl ?_
      refine xg_getfield xa_N_cheapestWay_133 (by assumption) rfl ?_
      refine xg_iload_n xa_N_cheapestWay_136 rfl ?_
      refine xg_iald_n xa_N_cheapestWay_137 (by assumption) rfl (by assumption) (by decide) ?_
      exact xg_ireturn xa_N_cheapestWay_138 (kk _ _ hN0 hS)
    | succ n ih =>
      intro rd be co wy h' fl' j5 hi hN hS kk
      have hN0 := hN
      obtain ⟨h1, h2, h3, h4, h5, h6, h7, h8⟩ := hN
      refine xg_iload xa_N_cheapestWay_29 rfl ?_
      refine xg_aload_n xa_N_cheapestWay_31 rfl ?_
      refine xg_getfield xa_N_cheapestWay_32 (by assumption) rfl ?_
      refine xg_icmp_ge xa_N_cheapestWay_35 (fun hc => absurd hc (nI_ge (by omega) (by omega))) (fun hc => ?_)
      refine xg_iload_n xa_N_cheapestWay_38 rfl ?_
      refine xg_if_eq xa_N_cheapestWay_39 (fun hc => ?_) (fun hc => ?_)
      · have hbe : be = false := (xz0 _).mp hc
        unfold xbf at kk
        rw [if_neg (by rw [hbe]; decide)] at kk
        refine xg_aload_n xa_N_cheapestWay_132 rfl ?_
        refine xg_getfield xa_N_cheapestWay_133 (by assumption) rfl ?_
        refine xg_iload_n xa_N_cheapestWay_136 rfl ?_
        refine xg_iald_n xa_N_cheapestWay_137 (by assumption) rfl (by assumption) (by decide) ?_
        exact xg_ireturn xa_N_cheapestWay_138 (kk _ _ hN0 hS)
      · have hbe : be = true := by
          cases be with
          | true => rfl
          | false => exact absurd rfl hc
        unfold xbf at kk
        rw [if_pos hbe] at kk
        refine xg_iconst (v := 0) xa_N_cheapestWay_42 (by decide) ?_
        refine xg_istore_n (L' := [_, _, _, _, _, _]) xa_N_cheapestWay_43 (Nat.le_of_ble_eq_true rfl) rfl ?_
        refine xg_iconst (v := 0) xa_N_cheapestWay_44 (by decide) ?_
        refine xg_istore (L' := [_, _, _, _, _, _]) xa_N_cheapestWay_45 (Nat.le_of_ble_eq_true rfl) rfl ?_
        refine inner fibres 0 false co wy h' _ rd Q (by omega) hN0 (fun h'' f'' hN'' hS'' => ?_)
        refine xg_iinc (L' := [_, _, _, _, _, _]) xa_N_cheapestWay_126 rfl (xi_inc _) rfl ?_
        refine xg_goto xa_N_cheapestWay_129 ?_
        exact ih (rd + 1) _ _ _ h'' _ _ (by omega) hN'' (hS.tr hS'') kk
  have hN0 := hN
  obtain ⟨h1, h2, h3, h4, h5, h6, h7, h8⟩ := hN
  refine xg_aload_n xa_N_cheapestWay_0 rfl ?_
  refine xg_getfield xa_N_cheapestWay_1 (by assumption) rfl ?_
  refine xg_ldc (v := 2147483647) xa_N_cheapestWay_4 (by decide) ?_
  refine xg_callS0 xa_N_cheapestWay_6 ⟨Nat.le_of_ble_eq_true rfl, Nat.le_of_ble_eq_true rfl, rfl⟩ rfl rfl ?_
  refine c_J_fill h7 (by decide) (fun hA fA uA => xK0_d ?_)
  have h1 := (uA.2.2 1 (by decide)).trans h1
  have h8 := (uA.2.2 8 (by decide)).trans h8
  refine xg_aload_n xa_N_cheapestWay_9 rfl ?_
  refine xg_getfield xa_N_cheapestWay_10 (by assumption) rfl ?_
  refine xg_iconst (v := 0) xa_N_cheapestWay_13 (by decide) ?_
  refine xg_callS0 xa_N_cheapestWay_14 ⟨Nat.le_of_ble_eq_true rfl, Nat.le_of_ble_eq_true rfl, rfl⟩ rfl rfl ?_
  refine c_J_fill h8 (by decide) (fun hB fB uB => xK0_d ?_)
  have h1 := (uB.2.2 1 (by decide)).trans h1
  have h7 := (uB.2.2 7 (by decide)).trans uA.2.1
  refine xg_aload_n xa_N_cheapestWay_17 rfl ?_
  refine xg_getfield xa_N_cheapestWay_18 (by assumption) rfl ?_
  refine xg_iload_n xa_N_cheapestWay_21 rfl ?_
  refine xg_iconst (v := 0) xa_N_cheapestWay_22 (by decide) ?_
  refine xg_iastf_n xa_N_cheapestWay_23 (by assumption) rfl (by assumption) (by decide) (fun h23 u23 => ?_)
  refine xg_iconst (v := 1) xa_N_cheapestWay_24 (by decide) ?_
  refine xg_istore_n (L' := [_, _, _, _, _, _]) xa_N_cheapestWay_25 (Nat.le_of_ble_eq_true rfl) rfl ?_
  refine xg_iconst (v := 1) xa_N_cheapestWay_26 (by decide) ?_
  refine xg_istore (L' := [_, _, _, _, _, _]) xa_N_cheapestWay_27 (Nat.le_of_ble_eq_true rfl) rfl ?_
  refine outer (sites - 1) 1 true _ _ h23 _ none (by omega) ⟨?_, ?_, ?_, ?_, ?_, ?_, ?_, ?_⟩ (((uA.toS (by decide) (by decide)).tr (uB.toS (by decide) (by decide))).tr (u23.toS (by decide) (by decide))) k
  · exact (u23.2.2 1 (by decide)).trans h1
  · exact (u23.2.2 2 (by decide)).trans ((uB.2.2 2 (by decide)).trans ((uA.2.2 2 (by decide)).trans h2))
  · exact (u23.2.2 3 (by decide)).trans ((uB.2.2 3 (by decide)).trans ((uA.2.2 3 (by decide)).trans h3))
  · exact (u23.2.2 4 (by decide)).trans ((uB.2.2 4 (by decide)).trans ((uA.2.2 4 (by decide)).trans h4))
  · exact (u23.2.2 5 (by decide)).trans ((uB.2.2 5 (by decide)).trans ((uA.2.2 5 (by decide)).trans h5))
  · exact (u23.2.2 6 (by decide)).trans ((uB.2.2 6 (by decide)).trans ((uA.2.2 6 (by decide)).trans h6))
  · exact u23.2.1
  · exact (u23.2.2 8 (by decide)).trans uB.2.1
end XN
end
section
/-! 23.net2: opening, best path, best pair. -/
theorem xa_N_openBackOnly_0 : xm_at xP 33 0 = some (0, .iload_n 1, 0, 0, 0, 0) := by decide +kernel
theorem xa_N_openBackOnly_1 : xm_at xP 33 1 = some (1, .istore_n 3, 0, 0, 0, 0) := by decide +kernel
theorem xa_N_openBackOnly_2 : xm_at xP 33 2 = some (2, .iload_n 2, 0, 0, 0, 0) := by decide +kernel
theorem xa_N_openBackOnly_3 : xm_at xP 33 3 = some (3, .istore 4, 0, 0, 0, 0) := by decide +kernel
theorem xa_N_openBackOnly_5 : xm_at xP 33 5 = some (5, .aload_n 0, 0, 0, 0, 0) := by decide +kernel
theorem xa_N_openBackOnly_6 : xm_at xP 33 6 = some (6, .iload_n 3, 0, 0, 0, 0) := by decide +kernel
theorem xa_N_openBackOnly_7 : xm_at xP 33 7 = some (7, .iload 4, 0, 0, 0, 0) := by decide +kernel
theorem xa_N_openBackOnly_9 : xm_at xP 33 9 = some (9, .invokevirtual 50, 34, 3, 1, 0) := by decide +kernel
theorem xa_N_openBackOnly_12 : xm_at xP 33 12 = some (12, .istore 5, 0, 0, 0, 0) := by decide +kernel
theorem xa_N_openBackOnly_14 : xm_at xP 33 14 = some (14, .iconst 0, 0, 0, 0, 0) := by decide +kernel
theorem xa_N_openBackOnly_15 : xm_at xP 33 15 = some (15, .istore 6, 0, 0, 0, 0) := by decide +kernel
theorem xa_N_openBackOnly_17 : xm_at xP 33 17 = some (17, .iload 6, 0, 0, 0, 0) := by decide +kernel
theorem xa_N_openBackOnly_19 : xm_at xP 33 19 = some (19, .bipush 7, 0, 0, 0, 0) := by decide +kernel
theorem xa_N_openBackOnly_21 : xm_at xP 33 21 = some (21, .if_icmp .ge 108, 129, 0, 0, 0) := by decide +kernel
theorem xa_N_openBackOnly_24 : xm_at xP 33 24 = some (24, .iload 5, 0, 0, 0, 0) := by decide +kernel
theorem xa_N_openBackOnly_26 : xm_at xP 33 26 = some (26, .iconst (-1), 0, 0, 0, 0) := by decide +kernel
theorem xa_N_openBackOnly_27 : xm_at xP 33 27 = some (27, .if_icmp .eq 102, 129, 0, 0, 0) := by decide +kernel
theorem xa_N_openBackOnly_30 : xm_at xP 33 30 = some (30, .aload_n 0, 0, 0, 0, 0) := by decide +kernel
theorem xa_N_openBackOnly_31 : xm_at xP 33 31 = some (31, .getfield 15, 1, 2, 0, 0) := by decide +kernel
theorem xa_N_openBackOnly_34 : xm_at xP 33 34 = some (34, .iload 5, 0, 0, 0, 0) := by decide +kernel
theorem xa_N_openBackOnly_36 : xm_at xP 33 36 = some (36, .iaload, 0, 0, 0, 0) := by decide +kernel
theorem xa_N_openBackOnly_37 : xm_at xP 33 37 = some (37, .iload 4, 0, 0, 0, 0) := by decide +kernel
theorem xa_N_openBackOnly_39 : xm_at xP 33 39 = some (39, .if_icmp .ne 7, 46, 0, 0, 0) := by decide +kernel
theorem xa_N_openBackOnly_42 : xm_at xP 33 42 = some (42, .iconst 1, 0, 0, 0, 0) := by decide +kernel
theorem xa_N_openBackOnly_43 : xm_at xP 33 43 = some (43, .goto 4, 47, 0, 0, 0) := by decide +kernel
theorem xa_N_openBackOnly_46 : xm_at xP 33 46 = some (46, .iconst 0, 0, 0, 0, 0) := by decide +kernel
theorem xa_N_openBackOnly_47 : xm_at xP 33 47 = some (47, .istore 7, 0, 0, 0, 0) := by decide +kernel
theorem xa_N_openBackOnly_49 : xm_at xP 33 49 = some (49, .aload_n 0, 0, 0, 0, 0) := by decide +kernel
theorem xa_N_openBackOnly_50 : xm_at xP 33 50 = some (50, .getfield 25, 1, 5, 0, 0) := by decide +kernel
theorem xa_N_openBackOnly_53 : xm_at xP 33 53 = some (53, .iload 5, 0, 0, 0, 0) := by decide +kernel
theorem xa_N_openBackOnly_55 : xm_at xP 33 55 = some (55, .iload 7, 0, 0, 0, 0) := by decide +kernel
theorem xa_N_openBackOnly_57 : xm_at xP 33 57 = some (57, .ifCond .eq 8, 65, 0, 0, 0) := by decide +kernel
theorem xa_N_openBackOnly_60 : xm_at xP 33 60 = some (60, .ldc 75, 2147483647, 0, 0, 0) := by decide +kernel
theorem xa_N_openBackOnly_62 : xm_at xP 33 62 = some (62, .goto 10, 72, 0, 0, 0) := by decide +kernel
theorem xa_N_openBackOnly_65 : xm_at xP 33 65 = some (65, .aload_n 0, 0, 0, 0, 0) := by decide +kernel
theorem xa_N_openBackOnly_66 : xm_at xP 33 66 = some (66, .iload 5, 0, 0, 0, 0) := by decide +kernel
theorem xa_N_openBackOnly_68 : xm_at xP 33 68 = some (68, .invokevirtual 72, 29, 2, 1, 0) := by decide +kernel
theorem xa_N_openBackOnly_71 : xm_at xP 33 71 = some (71, .ineg, 0, 0, 0, 0) := by decide +kernel
theorem xa_N_openBackOnly_72 : xm_at xP 33 72 = some (72, .iastore, 0, 0, 0, 0) := by decide +kernel
theorem xa_N_openBackOnly_73 : xm_at xP 33 73 = some (73, .aload_n 0, 0, 0, 0, 0) := by decide +kernel
theorem xa_N_openBackOnly_74 : xm_at xP 33 74 = some (74, .getfield 28, 1, 6, 0, 0) := by decide +kernel
theorem xa_N_openBackOnly_77 : xm_at xP 33 77 = some (77, .iload 5, 0, 0, 0, 0) := by decide +kernel
theorem xa_N_openBackOnly_79 : xm_at xP 33 79 = some (79, .iload 7, 0, 0, 0, 0) := by decide +kernel
theorem xa_N_openBackOnly_81 : xm_at xP 33 81 = some (81, .ifCond .eq 13, 94, 0, 0, 0) := by decide +kernel
theorem xa_N_openBackOnly_84 : xm_at xP 33 84 = some (84, .aload_n 0, 0, 0, 0, 0) := by decide +kernel
theorem xa_N_openBackOnly_85 : xm_at xP 33 85 = some (85, .iload 5, 0, 0, 0, 0) := by decide +kernel
theorem xa_N_openBackOnly_87 : xm_at xP 33 87 = some (87, .invokevirtual 72, 29, 2, 1, 0) := by decide +kernel
theorem xa_N_openBackOnly_90 : xm_at xP 33 90 = some (90, .ineg, 0, 0, 0, 0) := by decide +kernel
theorem xa_N_openBackOnly_91 : xm_at xP 33 91 = some (91, .goto 5, 96, 0, 0, 0) := by decide +kernel
theorem xa_N_openBackOnly_94 : xm_at xP 33 94 = some (94, .ldc 75, 2147483647, 0, 0, 0) := by decide +kernel
theorem xa_N_openBackOnly_96 : xm_at xP 33 96 = some (96, .iastore, 0, 0, 0, 0) := by decide +kernel
theorem xa_N_openBackOnly_97 : xm_at xP 33 97 = some (97, .iload_n 3, 0, 0, 0, 0) := by decide +kernel
theorem xa_N_openBackOnly_98 : xm_at xP 33 98 = some (98, .iconst 1, 0, 0, 0, 0) := by decide +kernel
theorem xa_N_openBackOnly_99 : xm_at xP 33 99 = some (99, .iload 5, 0, 0, 0, 0) := by decide +kernel
theorem xa_N_openBackOnly_101 : xm_at xP 33 101 = some (101, .ishl, 0, 0, 0, 0) := by decide +kernel
theorem xa_N_openBackOnly_102 : xm_at xP 33 102 = some (102, .ixor, 0, 0, 0, 0) := by decide +kernel
theorem xa_N_openBackOnly_103 : xm_at xP 33 103 = some (103, .istore_n 3, 0, 0, 0, 0) := by decide +kernel
theorem xa_N_openBackOnly_104 : xm_at xP 33 104 = some (104, .aload_n 0, 0, 0, 0, 0) := by decide +kernel
theorem xa_N_openBackOnly_105 : xm_at xP 33 105 = some (105, .iload 5, 0, 0, 0, 0) := by decide +kernel
theorem xa_N_openBackOnly_107 : xm_at xP 33 107 = some (107, .iload 4, 0, 0, 0, 0) := by decide +kernel
theorem xa_N_openBackOnly_109 : xm_at xP 33 109 = some (109, .invokevirtual 54, 35, 3, 1, 0) := by decide +kernel
theorem xa_N_openBackOnly_112 : xm_at xP 33 112 = some (112, .istore 4, 0, 0, 0, 0) := by decide +kernel
theorem xa_N_openBackOnly_114 : xm_at xP 33 114 = some (114, .aload_n 0, 0, 0, 0, 0) := by decide +kernel
theorem xa_N_openBackOnly_115 : xm_at xP 33 115 = some (115, .iload_n 3, 0, 0, 0, 0) := by decide +kernel
theorem xa_N_openBackOnly_116 : xm_at xP 33 116 = some (116, .iload 4, 0, 0, 0, 0) := by decide +kernel
theorem xa_N_openBackOnly_118 : xm_at xP 33 118 = some (118, .invokevirtual 50, 34, 3, 1, 0) := by decide +kernel
theorem xa_N_openBackOnly_121 : xm_at xP 33 121 = some (121, .istore 5, 0, 0, 0, 0) := by decide +kernel
theorem xa_N_openBackOnly_123 : xm_at xP 33 123 = some (123, .iinc 6 1, 0, 0, 0, 0) := by decide +kernel
theorem xa_N_openBackOnly_126 : xm_at xP 33 126 = some (126, .goto (-109), 17, 0, 0, 0) := by decide +kernel
theorem xa_N_openBackOnly_129 : xm_at xP 33 129 = some (129, .return_, 0, 0, 0, 0) := by decide +kernel
theorem xa_N_bestPath_0 : xm_at xP 26 0 = some (0, .aload_n 0, 0, 0, 0, 0) := by decide +kernel
theorem xa_N_bestPath_1 : xm_at xP 26 1 = some (1, .iload_n 1, 0, 0, 0, 0) := by decide +kernel
theorem xa_N_bestPath_2 : xm_at xP 26 2 = some (2, .invokevirtual 57, 27, 2, 1, 0) := by decide +kernel
theorem xa_N_bestPath_5 : xm_at xP 26 5 = some (5, .aload_n 0, 0, 0, 0, 0) := by decide +kernel
theorem xa_N_bestPath_6 : xm_at xP 26 6 = some (6, .iload_n 2, 0, 0, 0, 0) := by decide +kernel
theorem xa_N_bestPath_7 : xm_at xP 26 7 = some (7, .iload_n 3, 0, 0, 0, 0) := by decide +kernel
theorem xa_N_bestPath_8 : xm_at xP 26 8 = some (8, .invokevirtual 61, 30, 3, 1, 0) := by decide +kernel
theorem xa_N_bestPath_11 : xm_at xP 26 11 = some (11, .ireturn, 0, 0, 0, 0) := by decide +kernel
theorem xa_N_bestPair_0 : xm_at xP 25 0 = some (0, .aload_n 0, 0, 0, 0, 0) := by decide +kernel
theorem xa_N_bestPair_1 : xm_at xP 25 1 = some (1, .iload_n 1, 0, 0, 0, 0) := by decide +kernel
theorem xa_N_bestPair_2 : xm_at xP 25 2 = some (2, .iload_n 2, 0, 0, 0, 0) := by decide +kernel
theorem xa_N_bestPair_3 : xm_at xP 25 3 = some (3, .iload_n 3, 0, 0, 0, 0) := by decide +kernel
theorem xa_N_bestPair_4 : xm_at xP 25 4 = some (4, .invokevirtual 64, 26, 4, 1, 0) := by decide +kernel
theorem xa_N_bestPair_7 : xm_at xP 25 7 = some (7, .istore 4, 0, 0, 0, 0) := by decide +kernel
theorem xa_N_bestPair_9 : xm_at xP 25 9 = some (9, .iload 4, 0, 0, 0, 0) := by decide +kernel
theorem xa_N_bestPair_11 : xm_at xP 25 11 = some (11, .ifCond .ne 5, 16, 0, 0, 0) := by decide +kernel
theorem xa_N_bestPair_14 : xm_at xP 25 14 = some (14, .iconst 0, 0, 0, 0, 0) := by decide +kernel
theorem xa_N_bestPair_15 : xm_at xP 25 15 = some (15, .ireturn, 0, 0, 0, 0) := by decide +kernel
theorem xa_N_bestPair_16 : xm_at xP 25 16 = some (16, .aload_n 0, 0, 0, 0, 0) := by decide +kernel
theorem xa_N_bestPair_17 : xm_at xP 25 17 = some (17, .iload 4, 0, 0, 0, 0) := by decide +kernel
theorem xa_N_bestPair_19 : xm_at xP 25 19 = some (19, .iload_n 2, 0, 0, 0, 0) := by decide +kernel
theorem xa_N_bestPair_20 : xm_at xP 25 20 = some (20, .invokevirtual 68, 33, 3, 1, 0) := by decide +kernel
theorem xa_N_bestPair_23 : xm_at xP 25 23 = some (23, .aload_n 0, 0, 0, 0, 0) := by decide +kernel
theorem xa_N_bestPair_24 : xm_at xP 25 24 = some (24, .iload_n 2, 0, 0, 0, 0) := by decide +kernel
theorem xa_N_bestPair_25 : xm_at xP 25 25 = some (25, .iload_n 3, 0, 0, 0, 0) := by decide +kernel
theorem xa_N_bestPair_26 : xm_at xP 25 26 = some (26, .invokevirtual 61, 30, 3, 1, 0) := by decide +kernel
theorem xa_N_bestPair_29 : xm_at xP 25 29 = some (29, .istore 5, 0, 0, 0, 0) := by decide +kernel
theorem xa_N_bestPair_31 : xm_at xP 25 31 = some (31, .iload 5, 0, 0, 0, 0) := by decide +kernel
theorem xa_N_bestPair_33 : xm_at xP 25 33 = some (33, .ifCond .ne 7, 40, 0, 0, 0) := by decide +kernel
theorem xa_N_bestPair_36 : xm_at xP 25 36 = some (36, .iconst 0, 0, 0, 0, 0) := by decide +kernel
theorem xa_N_bestPair_37 : xm_at xP 25 37 = some (37, .goto 8, 45, 0, 0, 0) := by decide +kernel
theorem xa_N_bestPair_40 : xm_at xP 25 40 = some (40, .iload 4, 0, 0, 0, 0) := by decide +kernel
theorem xa_N_bestPair_42 : xm_at xP 25 42 = some (42, .iload 5, 0, 0, 0, 0) := by decide +kernel
theorem xa_N_bestPair_44 : xm_at xP 25 44 = some (44, .ixor, 0, 0, 0, 0) := by decide +kernel
theorem xa_N_bestPair_45 : xm_at xP 25 45 = some (45, .ireturn, 0, 0, 0, 0) := by decide +kernel
theorem xa_N_startWith_0 : xm_at xP 12 0 = some (0, .aload_n 0, 0, 0, 0, 0) := by decide +kernel
theorem xa_N_startWith_1 : xm_at xP 12 1 = some (1, .iload_n 1, 0, 0, 0, 0) := by decide +kernel
theorem xa_N_startWith_2 : xm_at xP 12 2 = some (2, .putfield 9, 1, 0, 0, 0) := by decide +kernel
theorem xa_N_startWith_5 : xm_at xP 12 5 = some (5, .aload_n 0, 0, 0, 0, 0) := by decide +kernel
theorem xa_N_startWith_6 : xm_at xP 12 6 = some (6, .iconst 0, 0, 0, 0, 0) := by decide +kernel
theorem xa_N_startWith_7 : xm_at xP 12 7 = some (7, .putfield 37, 1, 1, 0, 0) := by decide +kernel
theorem xa_N_startWith_10 : xm_at xP 12 10 = some (10, .return_, 0, 0, 0, 0) := by decide +kernel
theorem xa_N_add_0 : xm_at xP 16 0 = some (0, .aload_n 0, 0, 0, 0, 0) := by decide +kernel
theorem xa_N_add_1 : xm_at xP 16 1 = some (1, .getfield 37, 1, 1, 0, 0) := by decide +kernel
theorem xa_N_add_4 : xm_at xP 16 4 = some (4, .istore 4, 0, 0, 0, 0) := by decide +kernel
theorem xa_N_add_6 : xm_at xP 16 6 = some (6, .aload_n 0, 0, 0, 0, 0) := by decide +kernel
theorem xa_N_add_7 : xm_at xP 16 7 = some (7, .getfield 15, 1, 2, 0, 0) := by decide +kernel
theorem xa_N_add_10 : xm_at xP 16 10 = some (10, .iload 4, 0, 0, 0, 0) := by decide +kernel
theorem xa_N_add_12 : xm_at xP 16 12 = some (12, .iload_n 1, 0, 0, 0, 0) := by decide +kernel
theorem xa_N_add_13 : xm_at xP 16 13 = some (13, .iastore, 0, 0, 0, 0) := by decide +kernel
theorem xa_N_add_14 : xm_at xP 16 14 = some (14, .aload_n 0, 0, 0, 0, 0) := by decide +kernel
theorem xa_N_add_15 : xm_at xP 16 15 = some (15, .getfield 19, 1, 3, 0, 0) := by decide +kernel
theorem xa_N_add_18 : xm_at xP 16 18 = some (18, .iload 4, 0, 0, 0, 0) := by decide +kernel
theorem xa_N_add_20 : xm_at xP 16 20 = some (20, .iload_n 2, 0, 0, 0, 0) := by decide +kernel
theorem xa_N_add_21 : xm_at xP 16 21 = some (21, .iastore, 0, 0, 0, 0) := by decide +kernel
theorem xa_N_add_22 : xm_at xP 16 22 = some (22, .aload_n 0, 0, 0, 0, 0) := by decide +kernel
theorem xa_N_add_23 : xm_at xP 16 23 = some (23, .getfield 22, 1, 4, 0, 0) := by decide +kernel
theorem xa_N_add_26 : xm_at xP 16 26 = some (26, .iload 4, 0, 0, 0, 0) := by decide +kernel
theorem xa_N_add_28 : xm_at xP 16 28 = some (28, .iload_n 3, 0, 0, 0, 0) := by decide +kernel
theorem xa_N_add_29 : xm_at xP 16 29 = some (29, .iastore, 0, 0, 0, 0) := by decide +kernel
theorem xa_N_add_30 : xm_at xP 16 30 = some (30, .aload_n 0, 0, 0, 0, 0) := by decide +kernel
theorem xa_N_add_31 : xm_at xP 16 31 = some (31, .dup, 0, 0, 0, 0) := by decide +kernel
theorem xa_N_add_32 : xm_at xP 16 32 = some (32, .getfield 37, 1, 1, 0, 0) := by decide +kernel
theorem xa_N_add_35 : xm_at xP 16 35 = some (35, .iconst 1, 0, 0, 0, 0) := by decide +kernel
theorem xa_N_add_36 : xm_at xP 16 36 = some (36, .iadd, 0, 0, 0, 0) := by decide +kernel
theorem xa_N_add_37 : xm_at xP 16 37 = some (37, .putfield 37, 1, 1, 0, 0) := by decide +kernel
theorem xa_N_add_40 : xm_at xP 16 40 = some (40, .iload 4, 0, 0, 0, 0) := by decide +kernel
theorem xa_N_add_42 : xm_at xP 16 42 = some (42, .ireturn, 0, 0, 0, 0) := by decide +kernel
theorem xa_N_lengthOf_0 : xm_at xP 55 0 = some (0, .iconst 0, 0, 0, 0, 0) := by decide +kernel
theorem xa_N_lengthOf_1 : xm_at xP 55 1 = some (1, .istore_n 2, 0, 0, 0, 0) := by decide +kernel
theorem xa_N_lengthOf_2 : xm_at xP 55 2 = some (2, .iconst 0, 0, 0, 0, 0) := by decide +kernel
theorem xa_N_lengthOf_3 : xm_at xP 55 3 = some (3, .istore_n 3, 0, 0, 0, 0) := by decide +kernel
theorem xa_N_lengthOf_4 : xm_at xP 55 4 = some (4, .iload_n 3, 0, 0, 0, 0) := by decide +kernel
theorem xa_N_lengthOf_5 : xm_at xP 55 5 = some (5, .aload_n 0, 0, 0, 0, 0) := by decide +kernel
theorem xa_N_lengthOf_6 : xm_at xP 55 6 = some (6, .getfield 37, 1, 1, 0, 0) := by decide +kernel
theorem xa_N_lengthOf_9 : xm_at xP 55 9 = some (9, .if_icmp .ge 26, 35, 0, 0, 0) := by decide +kernel
theorem xa_N_lengthOf_12 : xm_at xP 55 12 = some (12, .iload_n 1, 0, 0, 0, 0) := by decide +kernel
theorem xa_N_lengthOf_13 : xm_at xP 55 13 = some (13, .iload_n 3, 0, 0, 0, 0) := by decide +kernel
theorem xa_N_lengthOf_14 : xm_at xP 55 14 = some (14, .invokestatic 40, 28, 2, 0, 0) := by decide +kernel
theorem xa_N_lengthOf_17 : xm_at xP 55 17 = some (17, .ifCond .eq 12, 29, 0, 0, 0) := by decide +kernel
theorem xa_N_lengthOf_20 : xm_at xP 55 20 = some (20, .iload_n 2, 0, 0, 0, 0) := by decide +kernel
theorem xa_N_lengthOf_21 : xm_at xP 55 21 = some (21, .aload_n 0, 0, 0, 0, 0) := by decide +kernel
theorem xa_N_lengthOf_22 : xm_at xP 55 22 = some (22, .getfield 22, 1, 4, 0, 0) := by decide +kernel
theorem xa_N_lengthOf_25 : xm_at xP 55 25 = some (25, .iload_n 3, 0, 0, 0, 0) := by decide +kernel
theorem xa_N_lengthOf_26 : xm_at xP 55 26 = some (26, .iaload, 0, 0, 0, 0) := by decide +kernel
theorem xa_N_lengthOf_27 : xm_at xP 55 27 = some (27, .iadd, 0, 0, 0, 0) := by decide +kernel
theorem xa_N_lengthOf_28 : xm_at xP 55 28 = some (28, .istore_n 2, 0, 0, 0, 0) := by decide +kernel
theorem xa_N_lengthOf_29 : xm_at xP 55 29 = some (29, .iinc 3 1, 0, 0, 0, 0) := by decide +kernel
theorem xa_N_lengthOf_32 : xm_at xP 55 32 = some (32, .goto (-28), 4, 0, 0, 0) := by decide +kernel
theorem xa_N_lengthOf_35 : xm_at xP 55 35 = some (35, .iload_n 2, 0, 0, 0, 0) := by decide +kernel
theorem xa_N_lengthOf_36 : xm_at xP 55 36 = some (36, .ireturn, 0, 0, 0, 0) := by decide +kernel
section XN2
variable {xs : Nat → Int32} {LS d : Nat} {ks : Nat} {fl : Bool} {Q : (Option Value ⊕ Nat) → xm_S → Prop}
variable {sites fibres : Nat} {fr to ln on bk co wy : Nat → Int32}
theorem xfst_spec {p : Nat → Bool} : ∀ (n i f : Nat), xfst p n i = some f → i ≤ f ∧ f < i + n ∧ p f = true ∧ ∀ j, i ≤ j → j < f → p j = false := by
  intro n
  induction n with
  | zero => intro i f h; cases h
  | succ n ih =>
    intro i f h
    unfold xfst at h
    by_cases hp : p i = true
    · rw [if_pos hp] at h
      cases h
      exact ⟨Nat.le_refl _, by omega, hp, fun j h1 h2 => by omega⟩
    · rw [if_neg hp] at h
      obtain ⟨h1, h2, h3, h4⟩ := ih (i + 1) f h
      refine ⟨by omega, by omega, h3, fun j h5 h6 => ?_⟩
      by_cases e : j = i
      · subst e
        simpa using hp
      · exact h4 j (by omega) h6
theorem xfst_none {p : Nat → Bool} : ∀ (n i : Nat), xfst p n i = none → ∀ j, i ≤ j → j < i + n → p j = false := by
  intro n
  induction n with
  | zero => intro i h j h1 h2; omega
  | succ n ih =>
    intro i h j h1 h2
    unfold xfst at h
    by_cases hp : p i = true
    · rw [if_pos hp] at h
      cases h
    · rw [if_neg hp] at h
      by_cases e : j = i
      · subst e
        simpa using hp
      · exact ih (i + 1) h j (by omega) (by omega)
theorem nI_m1 {i : Nat} (h : i < 2 ^ 31) : ¬ nI i = -1 := by
  intro q
  have h1 := nI_toInt h
  rw [q] at h1
  have h2 : (-1 : Int32).toInt = -1 := by decide
  omega
/-- a fibre's weight -/
def xwt (ln : Nat → Int32) (f : Nat) : Int32 := (ln f <<< ((14 : Int32) &&& 31)) - ((1 : Int32) <<< ((13 - nI f) &&& 31))
theorem c_N_weight {h : List va_E} {f : Nat} (hN : xNet h sites fibres fr to ln on bk co wy) (hf : f < 14) (k : Q (.inl (some (.int (xwt ln f)))) (h, ks, fl)) : xG xs LS d 29 (0, xm_entry xP 29 [.ref 1, .int (nI f)], []) (h, ks, fl) Q := by
  obtain ⟨h1, h2, h3, h4, h5, h6, h7, h8⟩ := hN
  show xG xs LS d 29 (0, [some (.ref 1), some (.int (nI f))], []) (h, ks, fl) Q
  refine xg_aload_n xa_N_weight_0 rfl ?_
  refine xg_getfield xa_N_weight_1 (by assumption) rfl ?_
  refine xg_iload_n xa_N_weight_4 rfl ?_
  refine xg_iald_n xa_N_weight_5 (by assumption) rfl (by assumption) (by decide) ?_
  refine xg_bipush (v := 14) xa_N_weight_6 (by decide) ?_
  refine xg_ishl xa_N_weight_8 rfl ?_
  refine xg_iconst (v := 1) xa_N_weight_9 (by decide) ?_
  refine xg_bipush (v := 13) xa_N_weight_10 (by decide) ?_
  refine xg_iload_n xa_N_weight_12 rfl ?_
  refine xg_isub xa_N_weight_13 rfl ?_
  refine xg_ishl xa_N_weight_14 rfl ?_
  refine xg_isub xa_N_weight_15 rfl ?_
  exact xg_ireturn xa_N_weight_16 k
theorem c_N_everyFibre {h : List va_E} (hN : xNet h sites fibres fr to ln on bk co wy) (k : Q (.inl (some (.int (xbt fibres - 1)))) (h, ks, fl)) : xG xs LS d 24 (0, xm_entry xP 24 [.ref 1], []) (h, ks, fl) Q := by
  obtain ⟨h1, h2, h3, h4, h5, h6, h7, h8⟩ := hN
  show xG xs LS d 24 (0, [some (.ref 1)], []) (h, ks, fl) Q
  refine xg_iconst (v := 1) xa_N_everyFibre_0 (by decide) ?_
  refine xg_aload_n xa_N_everyFibre_1 rfl ?_
  refine xg_getfield xa_N_everyFibre_2 (by assumption) rfl ?_
  refine xg_ishl xa_N_everyFibre_5 rfl ?_
  refine xg_iconst (v := 1) xa_N_everyFibre_6 (by decide) ?_
  refine xg_isub xa_N_everyFibre_7 rfl ?_
  exact xg_ireturn xa_N_everyFibre_8 k
/-- the price of fibre f among the free ones s -/
def xpr (s : Int32) (ln : Nat → Int32) (f : Nat) : Int32 := if xb s f = true then xwt ln f else 2147483647
def xopn (g f : Nat → Int32) (n : Nat) : Nat → Int32 := fun j => if j < n then g j else f j
theorem xopn_s (g f : Nat → Int32) (n : Nat) : upd (xopn g f n) n (g n) = xopn g f (n + 1) := by
  funext j
  unfold upd xopn
  by_cases h1 : j = n
  · subst h1
    simp
  · by_cases h2 : j < n
    · rw [if_neg h1, if_pos h2, if_pos (by omega)]
    · rw [if_neg h1, if_neg h2, if_neg (by omega)]
theorem xopn_0 (g f : Nat → Int32) : xopn g f 0 = f := by
  funext j
  simp [xopn]
theorem c_N_openBothWays {h : List va_E} {s : Int32} (hN : xNet h sites fibres fr to ln on bk co wy) (hf : fibres ≤ 14)
    (k : ∀ h' f', xNet h' sites fibres fr to ln (xopn (xpr s ln) on fibres) (xopn (xpr s ln) bk fibres) co wy → xS h h' 5 9 → Q (.inl none) (h', ks, f')) : xG xs LS (d + 1) 27 (0, xm_entry xP 27 [.ref 1, .int s], []) (h, ks, fl) Q := by
  show xG xs LS (d + 1) 27 (0, [some (.ref 1), some (.int s), none, none], []) (h, ks, fl) Q
  have loop : ∀ n i h' fl' j3, i + n = fibres → xNet h' sites fibres fr to ln (xopn (xpr s ln) on i) (xopn (xpr s ln) bk i) co wy → xS h h' 5 9 → xG xs LS (d + 1) 27 (2, [some (.ref 1), some (.int s), some (.int (nI i)), j3], []) (h', ks, fl') Q := by
    intro n
    induction n with
    | zero =>
      intro i h' fl' j3 hi hN hS
      have hN0 := hN
      obtain ⟨h1, h2, h3, h4, h5, h6, h7, h8⟩ := hN
      have e : i = fibres := by omega
      subst e
      refine xg_iload_n xa_N_openBothWays_2 rfl ?_
      refine xg_aload_n xa_N_openBothWays_3 rfl ?_
      refine xg_getfield xa_N_openBothWays_4 (by assumption) rfl ?_
      refine xg_icmp_ge xa_N_openBothWays_7 (fun hc => ?_) (fun hc => absurd (nI_le (by omega) (by omega)) hc)
      exact xg_return xa_N_openBothWays_49 (k _ _ hN0 hS)
    | succ n ih =>
      intro i h' fl' j3 hi hN hS
      have hN0 := hN
      obtain ⟨h1, h2, h3, h4, h5, h6, h7, h8⟩ := hN
      have hi14 : i < 14 := by omega
      refine xg_iload_n xa_N_openBothWays_2 rfl ?_
      refine xg_aload_n xa_N_openBothWays_3 rfl ?_
      refine xg_getfield xa_N_openBothWays_4 (by assumption) rfl ?_
      refine xg_icmp_ge xa_N_openBothWays_7 (fun hc => absurd hc (nI_ge (by omega) (by omega))) (fun hc => ?_)
      have go : xG xs LS (d + 1) 27 (28, [some (.ref 1), some (.int s), some (.int (nI i)), j3], [.int (xpr s ln i)]) (h', ks, fl') Q := by
        refine xg_istore_n (L' := [_, _, _, _]) xa_N_openBothWays_28 (Nat.le_of_ble_eq_true rfl) rfl ?_
        refine xg_aload_n xa_N_openBothWays_29 rfl ?_
        refine xg_getfield xa_N_openBothWays_30 (by assumption) rfl ?_
        refine xg_iload_n xa_N_openBothWays_33 rfl ?_
        refine xg_iload_n xa_N_openBothWays_34 rfl ?_
        refine xg_iastf_n xa_N_openBothWays_35 (by assumption) rfl (by assumption) (by decide) (fun h35 u35 => ?_)
        have h1 := (u35.2.2 1 (by decide)).trans h1
        have h6 := (u35.2.2 6 (by decide)).trans h6
        refine xg_aload_n xa_N_openBothWays_36 rfl ?_
        refine xg_getfield xa_N_openBothWays_37 (by assumption) rfl ?_
        refine xg_iload_n xa_N_openBothWays_40 rfl ?_
        refine xg_iload_n xa_N_openBothWays_41 rfl ?_
        refine xg_iastf_n xa_N_openBothWays_42 (by assumption) rfl (by assumption) (by decide) (fun h42 u42 => ?_)
        refine xg_iinc (L' := [_, _, _, _]) xa_N_openBothWays_43 rfl (xi_inc _) rfl ?_
        refine xg_goto xa_N_openBothWays_46 ?_
        rw [xopn_s] at u35 u42
        refine ih (i + 1) h42 _ _ (by omega) ⟨?_, ?_, ?_, ?_, ?_, ?_, ?_, ?_⟩ ((hS.tr (u35.toS (by decide) (by decide))).tr (u42.toS (by decide) (by decide)))
        · exact (u42.2.2 1 (by decide)).trans h1
        · exact (u42.2.2 2 (by decide)).trans ((u35.2.2 2 (by decide)).trans h2)
        · exact (u42.2.2 3 (by decide)).trans ((u35.2.2 3 (by decide)).trans h3)
        · exact (u42.2.2 4 (by decide)).trans ((u35.2.2 4 (by decide)).trans h4)
        · exact (u42.2.2 5 (by decide)).trans u35.2.1
        · exact u42.2.1
        · exact (u42.2.2 7 (by decide)).trans ((u35.2.2 7 (by decide)).trans h7)
        · exact (u42.2.2 8 (by decide)).trans ((u35.2.2 8 (by decide)).trans h8)
      refine xg_iload_n xa_N_openBothWays_10 rfl ?_
      refine xg_iload_n xa_N_openBothWays_11 rfl ?_
      refine xg_callS1 xa_N_openBothWays_12 ⟨Nat.le_of_ble_eq_true rfl, Nat.le_of_ble_eq_true rfl, rfl⟩ rfl rfl ?_
      refine c_F_holds ?_
      refine xK1_c ?_
      refine xg_if_eq xa_N_openBothWays_15 (fun hc => ?_) (fun hc => ?_)
      · unfold xpr at go
        rw [if_neg (by rw [(xz0 _).mp hc]; decide)] at go
        refine xg_ldc (v := 2147483647) xa_N_openBothWays_26 (by decide) ?_
        exact go
      · have hb : xb s i = true := by
          cases hb : xb s i with
          | true => rfl
          | false => exact absurd ((xz0 _).mpr hb) hc
        unfold xpr at go
        rw [if_pos hb] at go
        refine xg_aload_n xa_N_openBothWays_18 rfl ?_
        refine xg_iload_n xa_N_openBothWays_19 rfl ?_
        refine xg_callV1 xa_N_openBothWays_20 ⟨Nat.le_of_ble_eq_true rfl, Nat.le_of_ble_eq_true rfl, rfl⟩ rfl rfl (by assumption) ?_
        refine c_N_weight hN0 hi14 ?_
        refine xK1_c ?_
        refine xg_goto xa_N_openBothWays_23 ?_
        exact go
  refine xg_iconst (v := 0) xa_N_openBothWays_0 (by decide) ?_
  refine xg_istore_n (L' := [_, _, _, _]) xa_N_openBothWays_1 (Nat.le_of_ble_eq_true rfl) rfl ?_
  exact loop fibres 0 h _ _ (by omega) (by rw [xopn_0, xopn_0]; exact hN) xS.rf
/-- bestPath -/
def xbp (src dst : Nat → Nat) (ln : Nat → Int32) (sites fibres : Nat) (on bk co wy : Nat → Int32) (s : Int32) (a : Nat) : (Nat → Int32) × (Nat → Int32) := xcw src dst (xopn (xpr s ln) on fibres) (xopn (xpr s ln) bk fibres) sites fibres a co wy
theorem c_N_bestPath {h : List va_E} {src dst : Nat → Nat} {s : Int32} {a b : Nat} (hN : xNet h sites fibres (fun f => nI (src f)) (fun f => nI (dst f)) ln on bk co wy) (hf : fibres ≤ 14) (hs : sites ≤ 7) (hs1 : 1 ≤ sites) (hsd : ∀ f, f < fibres → src f < 7 ∧ dst f < 7) (ha : a < 7) (hb : b < 7)
    (k : ∀ h' f', xNet h' sites fibres (fun f => nI (src f)) (fun f => nI (dst f)) ln (xopn (xpr s ln) on fibres) (xopn (xpr s ln) bk fibres) (xbp src dst ln sites fibres on bk co wy s a).1 (xbp src dst ln sites fibres on bk co wy s a).2 → xS h h' 5 9 → Q (.inl (some (.int ((xbp src dst ln sites fibres on bk co wy s a).2 b)))) (h', ks, f')) : xG xs LS (d + 2) 26 (0, xm_entry xP 26 [.ref 1, .int s, .int (nI a), .int (nI b)], []) (h, ks, fl) Q := by
  show xG xs LS (d + 2) 26 (0, [some (.ref 1), some (.int s), some (.int (nI a)), some (.int (nI b))], []) (h, ks, fl) Q
  have hN0 := hN
  obtain ⟨h1, h2, h3, h4, h5, h6, h7, h8⟩ := hN
  refine xg_aload_n xa_N_bestPath_0 rfl ?_
  refine xg_iload_n xa_N_bestPath_1 rfl ?_
  refine xg_callV0 xa_N_bestPath_2 ⟨Nat.le_of_ble_eq_true rfl, Nat.le_of_ble_eq_true rfl, rfl⟩ rfl rfl (by assumption) ?_
  refine c_N_openBothWays hN0 hf (fun hA fA hNA hSA => xK0_d ?_)
  have hA1 := hNA.1
  refine xg_aload_n xa_N_bestPath_5 rfl ?_
  refine xg_iload_n xa_N_bestPath_6 rfl ?_
  refine xg_iload_n xa_N_bestPath_7 rfl ?_
  refine xg_callV1 xa_N_bestPath_8 ⟨Nat.le_of_ble_eq_true rfl, Nat.le_of_ble_eq_true rfl, rfl⟩ rfl rfl (by assumption) ?_
  refine c_N_cheapestWay hNA hf hs hs1 hsd ha hb (fun hB fB hNB hSB => xK1_d ?_)
  exact xg_ireturn xa_N_bestPath_11 (k _ _ hNB (hSA.tr hSB))
/-- the first path turned round: what it costs to go back through it -/
def xobo (fr to ln : Nat → Int32) (fibres : Nat) : Nat → Int32 → Int32 → (Nat → Int32) → (Nat → Int32) → (Nat → Int32) × (Nat → Int32)
  | 0, _, _, on, bk => (on, bk)
  | n + 1, left, site, on, bk => match xfst (xtch fr to left site) fibres 0 with
    | none => (on, bk)
    | some f => xobo fr to ln fibres n (left ^^^ xbt f) (if fr f = site then to f else fr f) (upd on f (if fr f = site then 2147483647 else -(xwt ln f))) (upd bk f (if fr f = site then -(xwt ln f) else 2147483647))
theorem c_N_openBackOnly {h : List va_E} {s site : Int32} (hN : xNet h sites fibres fr to ln on bk co wy) (hf : fibres ≤ 14)
    (k : ∀ h' f', xNet h' sites fibres fr to ln (xobo fr to ln fibres 7 s site on bk).1 (xobo fr to ln fibres 7 s site on bk).2 co wy → xS h h' 5 9 → Q (.inl none) (h', ks, f')) : xG xs LS (d + 2) 33 (0, xm_entry xP 33 [.ref 1, .int s, .int site], []) (h, ks, fl) Q := by
  show xG xs LS (d + 2) 33 (0, [some (.ref 1), some (.int s), some (.int site), none, none, none, none, none], []) (h, ks, fl) Q
  have loop : ∀ n i left st on bk h' fl' j7, i + n = 7 → xNet h' sites fibres fr to ln on bk co wy → xS h h' 5 9 →
      (∀ h'' f'', xNet h'' sites fibres fr to ln (xobo fr to ln fibres n left st on bk).1 (xobo fr to ln fibres n left st on bk).2 co wy → xS h h'' 5 9 → Q (.inl none) (h'', ks, f'')) →
      xG xs LS (d + 2) 33 (17, [some (.ref 1), some (.int s), some (.int site), some (.int left), some (.int st), some (.int (xo (xfst (xtch fr to left st) fibres 0))), some (.int (nI i)), j7], []) (h', ks, fl') Q := by
    intro n
    induction n with
    | zero =>
      intro i left st on bk h' fl' j7 hi hN hS kk
      refine xg_iload xa_N_openBackOnly_17 rfl ?_
      refine xg_bipush (v := 7) xa_N_openBackOnly_19 (by decide) ?_
      refine xg_icmp_ge xa_N_openBackOnly_21 (fun hc => ?_) (fun hc => absurd (show (7 : Int32) ≤ nI i from by rw [show i = 7 by omega]; decide) hc)
      exact xg_return xa_N_openBackOnly_129 (kk _ _ hN hS)
    | succ n ih =>
      intro i left st on bk h' fl' j7 hi hN hS kk
      have hN0 := hN
      obtain ⟨h1, h2, h3, h4, h5, h6, h7, h8⟩ := hN
      refine xg_iload xa_N_openBackOnly_17 rfl ?_
      refine xg_bipush (v := 7) xa_N_openBackOnly_19 (by decide) ?_
      refine xg_icmp_ge xa_N_openBackOnly_21 (fun hc => absurd hc (show ¬ nI 7 ≤ nI i from nI_ge (by omega) (by omega))) (fun hc => ?_)
      refine xg_iload xa_N_openBackOnly_24 rfl ?_
      refine xg_iconst (v := (-1)) xa_N_openBackOnly_26 (by decide) ?_
      unfold xobo at kk
      cases hx : xfst (xtch fr to left st) fibres 0 with
      | none =>
        rw [hx] at kk
        refine xg_icmp_eq xa_N_openBackOnly_27 (fun hc => ?_) (fun hc => absurd rfl hc)
        exact xg_return xa_N_openBackOnly_129 (kk _ _ hN0 hS)
      | some f =>
        rw [hx] at kk
        obtain ⟨-, hf1, -, -⟩ := xfst_spec _ _ _ hx
        have hf14 : f < 14 := by omega
        show xG xs LS (d + 2) 33 (27, [some (.ref 1), some (.int s), some (.int site), some (.int left), some (.int st), some (.int (nI f)), some (.int (nI i)), j7], [.int (-1), .int (nI f)]) (h', ks, fl') Q
        refine xg_icmp_eq xa_N_openBackOnly_27 (fun hc => absurd hc (nI_m1 (by omega))) (fun hc => ?_)
        have tail : ∀ h2' fl2 j7', xNet h2' sites fibres fr to ln (upd on f (if fr f = st then 2147483647 else -(xwt ln f))) (upd bk f (if fr f = st then -(xwt ln f) else 2147483647)) co wy → xS h h2' 5 9 → xG xs LS (d + 2) 33 (97, [some (.ref 1), some (.int s), some (.int site), some (.int left), some (.int st), some (.int (nI f)), some (.int (nI i)), j7'], []) (h2', ks, fl2) Q := by
          intro h2' fl2 j7' hN2 hS2
          have g1 := hN2.1
          refine xg_iload_n xa_N_openBackOnly_97 rfl ?_
          refine xg_iconst (v := 1) xa_N_openBackOnly_98 (by decide) ?_
          refine xg_iload xa_N_openBackOnly_99 rfl ?_
          refine xg_ishl xa_N_openBackOnly_101 rfl ?_
          refine xg_ixor xa_N_openBackOnly_102 rfl ?_
          refine xg_istore_n (L' := [_, _, _, _, _, _, _, _]) xa_N_openBackOnly_103 (Nat.le_of_ble_eq_true rfl) rfl ?_
          refine xg_aload_n xa_N_openBackOnly_104 rfl ?_
          refine xg_iload xa_N_openBackOnly_105 rfl ?_
          refine xg_iload xa_N_openBackOnly_107 rfl ?_
          refine xg_callV1 xa_N_openBackOnly_109 ⟨Nat.le_of_ble_eq_true rfl, Nat.le_of_ble_eq_true rfl, rfl⟩ rfl rfl (by assumption) ?_
          refine c_N_otherEnd hN2 hf14 ?_
          refine xK1_c ?_
          refine xg_istore (L' := [_, _, _, _, _, _, _, _]) xa_N_openBackOnly_112 (Nat.le_of_ble_eq_true rfl) rfl ?_
          refine xg_aload_n xa_N_openBackOnly_114 rfl ?_
          refine xg_iload_n xa_N_openBackOnly_115 rfl ?_
          refine xg_iload xa_N_openBackOnly_116 rfl ?_
          refine xg_callV1 xa_N_openBackOnly_118 ⟨Nat.le_of_ble_eq_true rfl, Nat.le_of_ble_eq_true rfl, rfl⟩ rfl rfl (by assumption) ?_
          refine c_N_touching hN2 hf ?_
          refine xK1_c ?_
          refine xg_istore (L' := [_, _, _, _, _, _, _, _]) xa_N_openBackOnly_121 (Nat.le_of_ble_eq_true rfl) rfl ?_
          refine xg_iinc (L' := [_, _, _, _, _, _, _, _]) xa_N_openBackOnly_123 rfl (xi_inc _) rfl ?_
          refine xg_goto xa_N_openBackOnly_126 ?_
          exact ih (i + 1) _ _ _ _ h2' _ _ (by omega) hN2 hS2 kk
        refine xg_aload_n xa_N_openBackOnly_30 rfl ?_
        refine xg_getfield xa_N_openBackOnly_31 (by assumption) rfl ?_
        refine xg_iload xa_N_openBackOnly_34 rfl ?_
        refine xg_iald_n xa_N_openBackOnly_36 (by assumption) rfl (by assumption) (by decide) ?_
        refine xg_iload xa_N_openBackOnly_37 rfl ?_
        refine xg_icmp_ne xa_N_openBackOnly_39 (fun c1 => ?_) (fun c1 => ?_)
        · rw [if_neg c1, if_neg c1] at tail
          refine xg_iconst (v := 0) xa_N_openBackOnly_46 (by decide) ?_
          refine xg_istore (L' := [_, _, _, _, _, _, _, _]) xa_N_openBackOnly_47 (Nat.le_of_ble_eq_true rfl) rfl ?_
          refine xg_aload_n xa_N_openBackOnly_49 rfl ?_
          refine xg_getfield xa_N_openBackOnly_50 (by assumption) rfl ?_
          refine xg_iload xa_N_openBackOnly_53 rfl ?_
          refine xg_iload xa_N_openBackOnly_55 rfl ?_
          refine xg_if_eq xa_N_openBackOnly_57 (fun _ => ?_) (fun hc => absurd rfl hc)
          refine xg_aload_n xa_N_openBackOnly_65 rfl ?_
          refine xg_iload xa_N_openBackOnly_66 rfl ?_
          refine xg_callV1 xa_N_openBackOnly_68 ⟨Nat.le_of_ble_eq_true rfl, Nat.le_of_ble_eq_true rfl, rfl⟩ rfl rfl (by assumption) ?_
          refine c_N_weight hN0 hf14 ?_
          refine xK1_c ?_
          refine xg_ineg xa_N_openBackOnly_71 rfl ?_
          refine xg_iastf_n xa_N_openBackOnly_72 (by assumption) rfl (by assumption) (by decide) (fun h72 u72 => ?_)
          have h1 := (u72.2.2 1 (by decide)).trans h1
          have h6 := (u72.2.2 6 (by decide)).trans h6
          refine xg_aload_n xa_N_openBackOnly_73 rfl ?_
          refine xg_getfield xa_N_openBackOnly_74 (by assumption) rfl ?_
          refine xg_iload xa_N_openBackOnly_77 rfl ?_
          refine xg_iload xa_N_openBackOnly_79 rfl ?_
          refine xg_if_eq xa_N_openBackOnly_81 (fun _ => ?_) (fun hc => absurd rfl hc)
          refine xg_ldc (v := 2147483647) xa_N_openBackOnly_94 (by decide) ?_
          refine xg_iastf_n xa_N_openBackOnly_96 (by assumption) rfl (by assumption) (by decide) (fun h96 u96 => ?_)
          refine tail h96 _ _ ⟨?_, ?_, ?_, ?_, ?_, ?_, ?_, ?_⟩ ((hS.tr (u72.toS (by decide) (by decide))).tr (u96.toS (by decide) (by decide)))
          · exact (u96.2.2 1 (by decide)).trans h1
          · exact (u96.2.2 2 (by decide)).trans ((u72.2.2 2 (by decide)).trans h2)
          · exact (u96.2.2 3 (by decide)).trans ((u72.2.2 3 (by decide)).trans h3)
          · exact (u96.2.2 4 (by decide)).trans ((u72.2.2 4 (by decide)).trans h4)
          · exact (u96.2.2 5 (by decide)).trans u72.2.1
          · exact u96.2.1
          · exact (u96.2.2 7 (by decide)).trans ((u72.2.2 7 (by decide)).trans h7)
          · exact (u96.2.2 8 (by decide)).trans ((u72.2.2 8 (by decide)).trans h8)
        · rw [if_pos c1, if_pos c1] at tail
          refine xg_iconst (v := 1) xa_N_openBackOnly_42 (by decide) ?_
          refine xg_goto xa_N_openBackOnly_43 ?_
          refine xg_istore (L' := [_, _, _, _, _, _, _, _]) xa_N_openBackOnly_47 (Nat.le_of_ble_eq_true rfl) rfl ?_
          refine xg_aload_n xa_N_openBackOnly_49 rfl ?_
          refine xg_getfield xa_N_openBackOnly_50 (by assumption) rfl ?_
          refine xg_iload xa_N_openBackOnly_53 rfl ?_
          refine xg_iload xa_N_openBackOnly_55 rfl ?_
          refine xg_if_eq xa_N_openBackOnly_57 (fun hc => absurd hc (by decide)) (fun _ => ?_)
          refine xg_ldc (v := 2147483647) xa_N_openBackOnly_60 (by decide) ?_
          refine xg_goto xa_N_openBackOnly_62 ?_
          refine xg_iastf_n xa_N_openBackOnly_72 (by assumption) rfl (by assumption) (by decide) (fun h72 u72 => ?_)
          have h1 := (u72.2.2 1 (by decide)).trans h1
          have h6 := (u72.2.2 6 (by decide)).trans h6
          have hN72 : xNet h72 sites fibres fr to ln (upd on f 2147483647) bk co wy := ⟨h1, (u72.2.2 2 (by decide)).trans h2, (u72.2.2 3 (by decide)).trans h3, (u72.2.2 4 (by decide)).trans h4, u72.2.1, h6, (u72.2.2 7 (by decide)).trans h7, (u72.2.2 8 (by decide)).trans h8⟩
          refine xg_aload_n xa_N_openBackOnly_73 rfl ?_
          refine xg_getfield xa_N_openBackOnly_74 (by assumption) rfl ?_
          refine xg_iload xa_N_openBackOnly_77 rfl ?_
          refine xg_iload xa_N_openBackOnly_79 rfl ?_
          refine xg_if_eq xa_N_openBackOnly_81 (fun hc => absurd hc (by decide)) (fun _ => ?_)
          refine xg_aload_n xa_N_openBackOnly_84 rfl ?_
          refine xg_iload xa_N_openBackOnly_85 rfl ?_
          refine xg_callV1 xa_N_openBackOnly_87 ⟨Nat.le_of_ble_eq_true rfl, Nat.le_of_ble_eq_true rfl, rfl⟩ rfl rfl (by assumption) ?_
          refine c_N_weight hN72 hf14 ?_
          refine xK1_c ?_
          refine xg_ineg xa_N_openBackOnly_90 rfl ?_
          refine xg_goto xa_N_openBackOnly_91 ?_
          refine xg_iastf_n xa_N_openBackOnly_96 (by assumption) rfl (by assumption) (by decide) (fun h96 u96 => ?_)
          refine tail h96 _ _ ⟨?_, ?_, ?_, ?_, ?_, ?_, ?_, ?_⟩ ((hS.tr (u72.toS (by decide) (by decide))).tr (u96.toS (by decide) (by decide)))
          · exact (u96.2.2 1 (by decide)).trans h1
          · exact (u96.2.2 2 (by decide)).trans ((u72.2.2 2 (by decide)).trans h2)
          · exact (u96.2.2 3 (by decide)).trans ((u72.2.2 3 (by decide)).trans h3)
          · exact (u96.2.2 4 (by decide)).trans ((u72.2.2 4 (by decide)).trans h4)
          · exact (u96.2.2 5 (by decide)).trans u72.2.1
          · exact u96.2.1
          · exact (u96.2.2 7 (by decide)).trans ((u72.2.2 7 (by decide)).trans h7)
          · exact (u96.2.2 8 (by decide)).trans ((u72.2.2 8 (by decide)).trans h8)
  have hN0 := hN
  obtain ⟨h1, h2, h3, h4, h5, h6, h7, h8⟩ := hN
  refine xg_iload_n xa_N_openBackOnly_0 rfl ?_
  refine xg_istore_n (L' := [_, _, _, _, _, _, _, _]) xa_N_openBackOnly_1 (Nat.le_of_ble_eq_true rfl) rfl ?_
  refine xg_iload_n xa_N_openBackOnly_2 rfl ?_
  refine xg_istore (L' := [_, _, _, _, _, _, _, _]) xa_N_openBackOnly_3 (Nat.le_of_ble_eq_true rfl) rfl ?_
  refine xg_aload_n xa_N_openBackOnly_5 rfl ?_
  refine xg_iload_n xa_N_openBackOnly_6 rfl ?_
  refine xg_iload xa_N_openBackOnly_7 rfl ?_
  refine xg_callV1 xa_N_openBackOnly_9 ⟨Nat.le_of_ble_eq_true rfl, Nat.le_of_ble_eq_true rfl, rfl⟩ rfl rfl (by assumption) ?_
  refine c_N_touching hN0 hf ?_
  refine xK1_c ?_
  refine xg_istore (L' := [_, _, _, _, _, _, _, _]) xa_N_openBackOnly_12 (Nat.le_of_ble_eq_true rfl) rfl ?_
  refine xg_iconst (v := 0) xa_N_openBackOnly_14 (by decide) ?_
  refine xg_istore (L' := [_, _, _, _, _, _, _, _]) xa_N_openBackOnly_15 (Nat.le_of_ble_eq_true rfl) rfl ?_
  exact loop 7 0 s site on bk h _ _ (by omega) hN0 xS.rf k
end XN2
end
section
/-! 24.net3: the best pair, adding, lengths. -/
section XN3
variable {xs : Nat → Int32} {LS d : Nat} {ks : Nat} {fl : Bool} {Q : (Option Value ⊕ Nat) → xm_S → Prop}
variable {sites fibres : Nat} {fr to ln on bk co wy : Nat → Int32}
/-- the net, whatever its search has left behind -/
def xNs (h : List va_E) (sites fibres : Nat) (fr to ln : Nat → Int32) : Prop := ∃ on bk co wy, xNet h sites fibres fr to ln on bk co wy
/-- the second search: what it starts from -/
def xb2 (src dst : Nat → Nat) (ln : Nat → Int32) (sites fibres : Nat) (on bk co wy : Nat → Int32) (s : Int32) (a b : Nat) : (Nat → Int32) × (Nat → Int32) := xobo (fun f => nI (src f)) (fun f => nI (dst f)) ln fibres 7 ((xbp src dst ln sites fibres on bk co wy s a).2 b) (nI a) (xopn (xpr s ln) on fibres) (xopn (xpr s ln) bk fibres)
def xbq (src dst : Nat → Nat) (ln : Nat → Int32) (sites fibres : Nat) (on bk co wy : Nat → Int32) (s : Int32) (a b : Nat) : (Nat → Int32) × (Nat → Int32) :=
  xcw src dst (xb2 src dst ln sites fibres on bk co wy s a b).1 (xb2 src dst ln sites fibres on bk co wy s a b).2 sites fibres a (xbp src dst ln sites fibres on bk co wy s a).1 (xbp src dst ln sites fibres on bk co wy s a).2
/-- bestPair's answer -/
def xbr (src dst : Nat → Nat) (ln : Nat → Int32) (sites fibres : Nat) (on bk co wy : Nat → Int32) (s : Int32) (a b : Nat) : Int32 :=
  if (xbp src dst ln sites fibres on bk co wy s a).2 b = 0 then 0 else if (xbq src dst ln sites fibres on bk co wy s a b).2 b = 0 then 0 else (xbp src dst ln sites fibres on bk co wy s a).2 b ^^^ (xbq src dst ln sites fibres on bk co wy s a b).2 b
theorem c_N_bestPair {h : List va_E} {src dst : Nat → Nat} {s : Int32} {a b : Nat} (hN : xNet h sites fibres (fun f => nI (src f)) (fun f => nI (dst f)) ln on bk co wy) (hf : fibres ≤ 14) (hs : sites ≤ 7) (hs1 : 1 ≤ sites) (hsd : ∀ f, f < fibres → src f < 7 ∧ dst f < 7) (ha : a < 7) (hb : b < 7)
    (k : ∀ h' f', xNs h' sites fibres (fun f => nI (src f)) (fun f => nI (dst f)) ln → xS h h' 5 9 → Q (.inl (some (.int (xbr src dst ln sites fibres on bk co wy s a b)))) (h', ks, f')) : xG xs LS (d + 3) 25 (0, xm_entry xP 25 [.ref 1, .int s, .int (nI a), .int (nI b)], []) (h, ks, fl) Q := by
  show xG xs LS (d + 3) 25 (0, [some (.ref 1), some (.int s), some (.int (nI a)), some (.int (nI b)), none, none], []) (h, ks, fl) Q
  have hN0 := hN
  obtain ⟨h1, h2, h3, h4, h5, h6, h7, h8⟩ := hN
  refine xg_aload_n xa_N_bestPair_0 rfl ?_
  refine xg_iload_n xa_N_bestPair_1 rfl ?_
  refine xg_iload_n xa_N_bestPair_2 rfl ?_
  refine xg_iload_n xa_N_bestPair_3 rfl ?_
  refine xg_callV1 xa_N_bestPair_4 ⟨Nat.le_of_ble_eq_true rfl, Nat.le_of_ble_eq_true rfl, rfl⟩ rfl rfl (by assumption) ?_
  refine c_N_bestPath hN0 hf hs hs1 hsd ha hb (fun hA fA hNA hSA => xK1_d ?_)
  unfold xbr at k
  have hA1 := hNA.1
  refine xg_istore (L' := [_, _, _, _, _, _]) xa_N_bestPair_7 (Nat.le_of_ble_eq_true rfl) rfl ?_
  refine xg_iload xa_N_bestPair_9 rfl ?_
  refine xg_if_ne xa_N_bestPair_11 (fun hc => ?_) (fun hc => ?_)
  · rw [if_neg hc] at k
    refine xg_aload_n xa_N_bestPair_16 rfl ?_
    refine xg_iload xa_N_bestPair_17 rfl ?_
    refine xg_iload_n xa_N_bestPair_19 rfl ?_
    refine xg_callV0 xa_N_bestPair_20 ⟨Nat.le_of_ble_eq_true rfl, Nat.le_of_ble_eq_true rfl, rfl⟩ rfl rfl (by assumption) ?_
    refine c_N_openBackOnly hNA hf (fun hB fB hNB hSB => xK0_d ?_)
    have hB1 := hNB.1
    refine xg_aload_n xa_N_bestPair_23 rfl ?_
    refine xg_iload_n xa_N_bestPair_24 rfl ?_
    refine xg_iload_n xa_N_bestPair_25 rfl ?_
    refine xg_callV1 xa_N_bestPair_26 ⟨Nat.le_of_ble_eq_true rfl, Nat.le_of_ble_eq_true rfl, rfl⟩ rfl rfl (by assumption) ?_
    refine c_N_cheapestWay hNB hf hs hs1 hsd ha hb (fun hC fC hNC hSC => xK1_d ?_)
    refine xg_istore (L' := [_, _, _, _, _, _]) xa_N_bestPair_29 (Nat.le_of_ble_eq_true rfl) rfl ?_
    refine xg_iload xa_N_bestPair_31 rfl ?_
    refine xg_if_ne xa_N_bestPair_33 (fun hc2 => ?_) (fun hc2 => ?_)
    · have hc2 : ¬ (xbq src dst ln sites fibres on bk co wy s a b).2 b = 0 := hc2
      rw [if_neg hc2] at k
      refine xg_iload xa_N_bestPair_40 rfl ?_
      refine xg_iload xa_N_bestPair_42 rfl ?_
      refine xg_ixor xa_N_bestPair_44 rfl ?_
      exact xg_ireturn xa_N_bestPair_45 (k _ _ ⟨_, _, _, _, hNC⟩ ((hSA.tr hSB).tr hSC))
    · have hc2 : (xbq src dst ln sites fibres on bk co wy s a b).2 b = 0 := hc2
      rw [if_pos hc2] at k
      refine xg_iconst (v := 0) xa_N_bestPair_36 (by decide) ?_
      refine xg_goto xa_N_bestPair_37 ?_
      exact xg_ireturn xa_N_bestPair_45 (k _ _ ⟨_, _, _, _, hNC⟩ ((hSA.tr hSB).tr hSC))
  · rw [if_pos hc] at k
    refine xg_iconst (v := 0) xa_N_bestPair_14 (by decide) ?_
    exact xg_ireturn xa_N_bestPair_15 (k _ _ ⟨_, _, _, _, hNA⟩ hSA)
theorem c_N_startWith {h : List va_E} {n : Nat} (hN : xNet h sites fibres fr to ln on bk co wy) (k : ∀ h' f', xNet h' n 0 fr to ln on bk co wy → xS h h' 1 9 → Q (.inl none) (h', ks, f')) : xG xs LS d 12 (0, xm_entry xP 12 [.ref 1, .int (nI n)], []) (h, ks, fl) Q := by
  show xG xs LS d 12 (0, [some (.ref 1), some (.int (nI n))], []) (h, ks, fl) Q
  obtain ⟨h1, h2, h3, h4, h5, h6, h7, h8⟩ := hN
  refine xg_aload_n xa_N_startWith_0 rfl ?_
  refine xg_iload_n xa_N_startWith_1 rfl ?_
  refine xg_putf (fs' := [_, _, _, _, _, _, _, _, _]) xa_N_startWith_2 (by assumption) (Nat.le_of_ble_eq_true rfl) rfl rfl (fun hq2 u2 => ?_)
  have h1 := u2.2.1
  refine xg_aload_n xa_N_startWith_5 rfl ?_
  refine xg_iconst (v := 0) xa_N_startWith_6 (by decide) ?_
  refine xg_putf (fs' := [_, _, _, _, _, _, _, _, _]) xa_N_startWith_7 (by assumption) (Nat.le_of_ble_eq_true rfl) rfl rfl (fun hq7 u7 => ?_)
  have u := u2.trans u7
  exact xg_return xa_N_startWith_10 (k _ _ ⟨u.2.1, (u.2.2 2 (by decide)).trans h2, (u.2.2 3 (by decide)).trans h3, (u.2.2 4 (by decide)).trans h4, (u.2.2 5 (by decide)).trans h5, (u.2.2 6 (by decide)).trans h6, (u.2.2 7 (by decide)).trans h7, (u.2.2 8 (by decide)).trans h8⟩ (u.toS (by decide) (by decide)))
theorem c_N_add {h : List va_E} {x y z : Int32} (hN : xNet h sites fibres fr to ln on bk co wy) (hf : fibres < 14) (k : ∀ h' f', xNet h' sites (fibres + 1) (upd fr fibres x) (upd to fibres y) (upd ln fibres z) on bk co wy → xS h h' 1 9 → Q (.inl (some (.int (nI fibres)))) (h', ks, f')) : xG xs LS d 16 (0, xm_entry xP 16 [.ref 1, .int x, .int y, .int z], []) (h, ks, fl) Q := by
  show xG xs LS d 16 (0, [some (.ref 1), some (.int x), some (.int y), some (.int z), none], []) (h, ks, fl) Q
  obtain ⟨h1, h2, h3, h4, h5, h6, h7, h8⟩ := hN
  refine xg_aload_n xa_N_add_0 rfl ?_
  refine xg_getfield xa_N_add_1 (by assumption) rfl ?_
  refine xg_istore (L' := [_, _, _, _, _]) xa_N_add_4 (Nat.le_of_ble_eq_true rfl) rfl ?_
  refine xg_aload_n xa_N_add_6 rfl ?_
  refine xg_getfield xa_N_add_7 (by assumption) rfl ?_
  refine xg_iload xa_N_add_10 rfl ?_
  refine xg_iload_n xa_N_add_12 rfl ?_
  refine xg_iastf_n xa_N_add_13 (by assumption) rfl (by assumption) (by decide) (fun h13 u13 => ?_)
  have h1 := (u13.2.2 1 (by decide)).trans h1
  have h3 := (u13.2.2 3 (by decide)).trans h3
  refine xg_aload_n xa_N_add_14 rfl ?_
  refine xg_getfield xa_N_add_15 (by assumption) rfl ?_
  refine xg_iload xa_N_add_18 rfl ?_
  refine xg_iload_n xa_N_add_20 rfl ?_
  refine xg_iastf_n xa_N_add_21 (by assumption) rfl (by assumption) (by decide) (fun h21 u21 => ?_)
  have h1 := (u21.2.2 1 (by decide)).trans h1
  have h4 := (u21.2.2 4 (by decide)).trans ((u13.2.2 4 (by decide)).trans h4)
  refine xg_aload_n xa_N_add_22 rfl ?_
  refine xg_getfield xa_N_add_23 (by assumption) rfl ?_
  refine xg_iload xa_N_add_26 rfl ?_
  refine xg_iload_n xa_N_add_28 rfl ?_
  refine xg_iastf_n xa_N_add_29 (by assumption) rfl (by assumption) (by decide) (fun h29 u29 => ?_)
  have h1 := (u29.2.2 1 (by decide)).trans h1
  refine xg_aload_n xa_N_add_30 rfl ?_
  refine xg_dup_r xa_N_add_31 ?_
  refine xg_getfield xa_N_add_32 (by assumption) rfl ?_
  refine xg_iconst (v := 1) xa_N_add_35 (by decide) ?_
  refine xg_iadd xa_N_add_36 (nI_1 _) ?_
  refine xg_putf (fs' := [_, _, _, _, _, _, _, _, _]) xa_N_add_37 (by assumption) (Nat.le_of_ble_eq_true rfl) rfl rfl (fun h37 u37 => ?_)
  refine xg_iload xa_N_add_40 rfl ?_
  have q : ∀ j, j ≠ 1 → j ≠ 2 → j ≠ 3 → j ≠ 4 → h37[j]? = h[j]? := fun j e1 e2 e3 e4 => (u37.2.2 j e1).trans ((u29.2.2 j e4).trans ((u21.2.2 j e3).trans (u13.2.2 j e2)))
  refine xg_ireturn xa_N_add_42 (k _ _ ⟨u37.2.1, ?_, ?_, ?_, (q 5 (by decide) (by decide) (by decide) (by decide)).trans h5, (q 6 (by decide) (by decide) (by decide) (by decide)).trans h6, (q 7 (by decide) (by decide) (by decide) (by decide)).trans h7, (q 8 (by decide) (by decide) (by decide) (by decide)).trans h8⟩ ⟨u37.1.trans (u29.1.trans (u21.1.trans u13.1)), fun j hj => q j (by omega) (by omega) (by omega) (by omega)⟩)
  · exact (u37.2.2 2 (by decide)).trans ((u29.2.2 2 (by decide)).trans ((u21.2.2 2 (by decide)).trans u13.2.1))
  · exact (u37.2.2 3 (by decide)).trans ((u29.2.2 3 (by decide)).trans u21.2.1)
  · exact (u37.2.2 4 (by decide)).trans u29.2.1
/-- the length of a set: its first n fibres -/
def xlen (ln : Nat → Int32) (s : Int32) : Nat → Int32
  | 0 => 0
  | n + 1 => if xb s n = true then xlen ln s n + ln n else xlen ln s n
theorem c_N_lengthOf {h : List va_E} {s : Int32} (hN : xNet h sites fibres fr to ln on bk co wy) (hf : fibres ≤ 14) (k : Q (.inl (some (.int (xlen ln s fibres)))) (h, ks, fl)) : xG xs LS (d + 1) 55 (0, xm_entry xP 55 [.ref 1, .int s], []) (h, ks, fl) Q := by
  obtain ⟨h1, h2, h3, h4, h5, h6, h7, h8⟩ := hN
  show xG xs LS (d + 1) 55 (0, [some (.ref 1), some (.int s), none, none], []) (h, ks, fl) Q
  have loop : ∀ n i, i + n = fibres → xG xs LS (d + 1) 55 (4, [some (.ref 1), some (.int s), some (.int (xlen ln s i)), some (.int (nI i))], []) (h, ks, fl) Q := by
    intro n
    induction n with
    | zero =>
      intro i hi
      have e : i = fibres := by omega
      subst e
      refine xg_iload_n xa_N_lengthOf_4 rfl ?_
      refine xg_aload_n xa_N_lengthOf_5 rfl ?_
      refine xg_getfield xa_N_lengthOf_6 (by assumption) rfl ?_
      refine xg_icmp_ge xa_N_lengthOf_9 (fun hc => ?_) (fun hc => absurd (nI_le (by omega) (by omega)) hc)
      refine xg_iload_n xa_N_lengthOf_35 rfl ?_
      exact xg_ireturn xa_N_lengthOf_36 k
    | succ n ih =>
      intro i hi
      have hi14 : i < 14 := by omega
      have go : ∀ v, v = xlen ln s (i + 1) → xG xs LS (d + 1) 55 (29, [some (.ref 1), some (.int s), some (.int v), some (.int (nI i))], []) (h, ks, fl) Q := by
        intro v hv
        subst hv
        refine xg_iinc (L' := [_, _, _, _]) xa_N_lengthOf_29 rfl (xi_inc _) rfl ?_
        refine xg_goto xa_N_lengthOf_32 ?_
        exact ih (i + 1) (by omega)
      refine xg_iload_n xa_N_lengthOf_4 rfl ?_
      refine xg_aload_n xa_N_lengthOf_5 rfl ?_
      refine xg_getfield xa_N_lengthOf_6 (by assumption) rfl ?_
      refine xg_icmp_ge xa_N_lengthOf_9 (fun hc => absurd hc (nI_ge (by omega) (by omega))) (fun hc => ?_)
      refine xg_iload_n xa_N_lengthOf_12 rfl ?_
      refine xg_iload_n xa_N_lengthOf_13 rfl ?_
      refine xg_callS1 xa_N_lengthOf_14 ⟨Nat.le_of_ble_eq_true rfl, Nat.le_of_ble_eq_true rfl, rfl⟩ rfl rfl ?_
      refine c_F_holds ?_
      refine xK1_c ?_
      refine xg_if_eq xa_N_lengthOf_17 (fun hc => go _ ?_) (fun hc => ?_)
      · show _ = if xb s i = true then _ else _
        rw [if_neg (by rw [(xz0 _).mp hc]; decide)]
      · have hb : xb s i = true := by
          cases hb : xb s i with
          | true => rfl
          | false => exact absurd ((xz0 _).mpr hb) hc
        refine xg_iload_n xa_N_lengthOf_20 rfl ?_
        refine xg_aload_n xa_N_lengthOf_21 rfl ?_
        refine xg_getfield xa_N_lengthOf_22 (by assumption) rfl ?_
        refine xg_iload_n xa_N_lengthOf_25 rfl ?_
        refine xg_iald_n xa_N_lengthOf_26 (by assumption) rfl (by assumption) (by decide) ?_
        refine xg_iadd xa_N_lengthOf_27 rfl ?_
        refine xg_istore_n (L' := [_, _, _, _]) xa_N_lengthOf_28 (Nat.le_of_ble_eq_true rfl) rfl ?_
        refine go _ ?_
        show _ = if xb s i = true then _ else _
        rw [if_pos hb]
  refine xg_iconst (v := 0) xa_N_lengthOf_0 (by decide) ?_
  refine xg_istore_n (L' := [_, _, _, _]) xa_N_lengthOf_1 (Nat.le_of_ble_eq_true rfl) rfl ?_
  refine xg_iconst (v := 0) xa_N_lengthOf_2 (by decide) ?_
  refine xg_istore_n (L' := [_, _, _, _]) xa_N_lengthOf_3 (Nat.le_of_ble_eq_true rfl) rfl ?_
  exact loop fibres 0 (by omega)
end XN3
end
section
/-! 30.bits: sets of fibres as numbers. -/
section XB
theorem xsh_l : ∀ l, l < 32 → ((nI l &&& 31).toBitVec.smod 32).toNat = l := by decide +kernel
theorem xbt_l : ∀ l, l < 32 → ((1 : Int32) <<< (nI l &&& 31)).toBitVec = BitVec.twoPow 32 l := by decide +kernel
theorem xtp_l : ∀ l, l < 32 → BitVec.twoPow 32 l ≠ 0#32 := by decide +kernel
theorem xb_l (s : Int32) {f : Nat} (hf : f < 32) : xb s f = s.toBitVec.getLsbD f := by
  have e : (s &&& ((1 : Int32) <<< (nI f &&& 31)) = 0) ↔ s.toBitVec.getLsbD f = false := by
    rw [← Int32.toBitVec_inj, Int32.toBitVec_and, xbt_l f hf, BitVec.and_twoPow]
    cases hb : s.toBitVec.getLsbD f
    · simp
    · simpa using xtp_l f hf
  unfold xb
  cases hb : s.toBitVec.getLsbD f
  · exact decide_eq_false (fun q => q (e.mpr hb))
  · exact decide_eq_true (fun q => by rw [e.mp q] at hb; cases hb)
theorem xb_and (x y : Int32) {f : Nat} (hf : f < 32) : xb (x &&& y) f = (xb x f && xb y f) := by
  rw [xb_l _ hf, xb_l _ hf, xb_l _ hf, Int32.toBitVec_and, BitVec.getLsbD_and]
theorem xb_or (x y : Int32) {f : Nat} (hf : f < 32) : xb (x ||| y) f = (xb x f || xb y f) := by
  rw [xb_l _ hf, xb_l _ hf, xb_l _ hf, Int32.toBitVec_or, BitVec.getLsbD_or]
theorem xb_xor (x y : Int32) {f : Nat} (hf : f < 32) : xb (x ^^^ y) f = (xb x f ^^ xb y f) := by
  rw [xb_l _ hf, xb_l _ hf, xb_l _ hf, Int32.toBitVec_xor, BitVec.getLsbD_xor]
theorem xb_m1 : ∀ f, f < 32 → xb (-1) f = true := by decide +kernel
theorem xb_not (x : Int32) {f : Nat} (hf : f < 32) : xb (x ^^^ (-1)) f = !xb x f := by
  rw [xb_xor _ _ hf, xb_m1 f hf]
  simp
theorem xb_0 (f : Nat) : xb 0 f = false := by
  unfold xb
  simp
theorem xb_bt {f g : Nat} (hf : f < 32) (hg : g < 32) : xb (xbt g) f = decide (f = g) := by
  rw [xb_l _ hf, show (xbt g).toBitVec = _ from xbt_l g hg, BitVec.getLsbD_twoPow]
  by_cases h : f = g
  · subst h; simp [hf]
  · simp [h, Ne.symm h]
theorem xb_ext {x y : Int32} (h : ∀ f, f < 32 → xb x f = xb y f) : x = y :=
  Int32.toBitVec_inj.mp (BitVec.eq_of_getLsbD_eq (fun f hf => by rw [← xb_l _ hf, ← xb_l _ hf]; exact h f hf))
theorem xb_shr1 (s : Int32) {f : Nat} (hf : f < 32) : (s >>> (nI f &&& 31)) &&& 1 = xz (xb s f) := by
  refine xb_ext (fun g hg => ?_)
  rw [xb_and _ _ hg]
  have e1 : xb 1 g = decide (g = 0) := (by decide +kernel : ∀ g, g < 32 → xb 1 g = decide (g = 0)) g hg
  rw [e1]
  by_cases h0 : g = 0
  · subst h0
    have e : xb (s >>> (nI f &&& 31)) 0 = xb s f := by
      rw [xb_l _ (by omega), xb_l _ hf, Int32.toBitVec_shiftRight]
      show (s.toBitVec.sshiftRight ((nI f &&& 31).toBitVec.smod 32).toNat).getLsbD 0 = _
      rw [xsh_l f hf, BitVec.getLsbD_sshiftRight]
      simp [hf]
    rw [e]
    cases xb s f <;> decide
  · rw [decide_eq_false h0, Bool.and_false]
    cases xb s f
    · exact (xb_0 g).symm
    · exact ((by decide +kernel : ∀ g, g < 32 → ¬ g = 0 → false = xb 1 g) g hg h0)
/-- no bit from n on -/
def xlow (n : Nat) (s : Int32) : Prop := ∀ f, n ≤ f → f < 32 → xb s f = false
theorem xlow_0 (n : Nat) : xlow n 0 := fun f _ _ => xb_0 f
theorem xlow_and {n : Nat} {x y : Int32} (h : xlow n x) : xlow n (x &&& y) := fun f h1 h2 => by rw [xb_and _ _ h2, h f h1 h2]; rfl
theorem xlow_or {n : Nat} {x y : Int32} (h : xlow n x) (h' : xlow n y) : xlow n (x ||| y) := fun f h1 h2 => by rw [xb_or _ _ h2, h f h1 h2, h' f h1 h2]; rfl
theorem xlow_xor {n : Nat} {x y : Int32} (h : xlow n x) (h' : xlow n y) : xlow n (x ^^^ y) := fun f h1 h2 => by rw [xb_xor _ _ h2, h f h1 h2, h' f h1 h2]; rfl
theorem xlow_bt {n g : Nat} (h : g < n) (hn : n ≤ 32) : xlow n (xbt g) := fun f h1 h2 => by rw [xb_bt h2 (by omega), decide_eq_false (by omega)]
theorem xlow_up {n k : Nat} {x : Int32} (h : xlow n x) (hk : n ≤ k) : xlow k x := fun f h1 h2 => h f (by omega) h2
theorem xlow_ext {n : Nat} {x y : Int32} (hx : xlow n x) (hy : xlow n y) (h : ∀ f, f < n → xb x f = xb y f) : x = y := by
  refine xb_ext (fun f hf => ?_)
  by_cases h1 : f < n
  · exact h f h1
  · rw [hx f (by omega) hf, hy f (by omega) hf]
theorem xlow_ne {n : Nat} {x : Int32} (hx : xlow n x) (h : ¬ x = 0) : ∃ f, f < n ∧ f < 32 ∧ xb x f = true := by
  apply Classical.byContradiction
  intro hn
  refine h (xb_ext (fun f hf => ?_))
  rw [xb_0]
  by_cases h1 : f < n
  · cases hb : xb x f with
    | false => rfl
    | true => exact absurd ⟨f, h1, hf, hb⟩ hn
  · exact hx f (by omega) hf
theorem xb_ne {x : Int32} {f : Nat} (h : xb x f = true) : ¬ x = 0 := by
  intro e
  rw [e, xb_0] at h
  cases h
/-- what is left of a low set from f on -/
theorem xb_sh {s : Int32} (hs : xlow 14 s) {f : Nat} (hf : f < 14) : (0 < s >>> (nI f &&& 31)) ↔ ∃ g, f ≤ g ∧ g < 14 ∧ xb s g = true := by
  have bits : ∀ g, g < 32 → xb (s >>> (nI f &&& 31)) g = if f + g < 32 then xb s (f + g) else false := by
    intro g hg
    have e31 : s.toBitVec.getLsbD 31 = false := by
      have := hs 31 (by omega) (by omega)
      rw [xb_l _ (by omega)] at this
      exact this
    rw [xb_l _ hg, Int32.toBitVec_shiftRight]
    show (s.toBitVec.sshiftRight ((nI f &&& 31).toBitVec.smod 32).toNat).getLsbD g = _
    rw [xsh_l f (by omega), BitVec.getLsbD_sshiftRight, BitVec.msb_eq_getLsbD_last]
    by_cases h1 : f + g < 32
    · rw [xb_l _ h1]
      simp [hg, h1]
    · simp only [hg, h1, e31, decide_true, if_false, Bool.not_true, Bool.false_or]; simp [← BitVec.getLsbD_eq_getElem, e31]
  have low : xlow 14 (s >>> (nI f &&& 31)) := by
    intro g h1 h2
    rw [bits g h2]
    by_cases h3 : f + g < 32
    · rw [if_pos h3]
      exact hs (f + g) (by omega) h3
    · rw [if_neg h3]
  have nn : 0 ≤ s >>> (nI f &&& 31) := by
    have h31 := low 31 (by omega) (by omega)
    rw [xb_l _ (by omega)] at h31
    rw [Int32.le_iff_toInt_le]
    show (0 : Int) ≤ (s >>> (nI f &&& 31)).toBitVec.toInt
    have : (s >>> (nI f &&& 31)).toBitVec.msb = false := by rw [BitVec.msb_eq_getLsbD_last]; exact h31
    rw [BitVec.toInt_eq_toNat_of_msb this]
    omega
  constructor
  · intro h
    have hne : ¬ s >>> (nI f &&& 31) = 0 := by
      intro e
      rw [e] at h
      exact absurd h (by decide)
    obtain ⟨g, h1, h2, h3⟩ := xlow_ne low hne
    rw [bits g h2] at h3
    by_cases h4 : f + g < 32
    · rw [if_pos h4] at h3
      refine ⟨f + g, by omega, ?_, h3⟩
      apply Classical.byContradiction
      intro h5
      rw [hs (f + g) (by omega) h4] at h3
      cases h3
    · rw [if_neg h4] at h3
      cases h3
  · rintro ⟨g, h1, h2, h3⟩
    have hb : xb (s >>> (nI f &&& 31)) (g - f) = true := by
      rw [bits (g - f) (by omega), if_pos (by omega), show f + (g - f) = g by omega]
      exact h3
    have hne := xb_ne hb
    rw [Int32.lt_iff_toInt_lt]
    rw [Int32.le_iff_toInt_le] at nn
    have : ¬ (s >>> (nI f &&& 31)).toInt = (0 : Int32).toInt := fun e => hne (Int32.toInt_inj.mp e)
    omega
theorem xall_bits (n : Nat) (hn : n ≤ 14) : ∀ f, f < 32 → xb (xbt n - 1) f = decide (f < n) :=
  (by decide +kernel : ∀ n, n < 15 → ∀ f, f < 32 → xb (xbt n - 1) f = decide (f < n)) n (by omega)
end XB
end
section
/-! 31.model: the model's cells. -/
section XM
def xMd (h : List va_E) (Mc : Int32) (Mn : Nat) (Mm : Nat) (Mh : Int32) (Mp : Nat) (Mfw : Int32) (Mfs : Int32) (Me : Nat → Nat) (Ml : Nat → Nat) (Mbr : Nat → Bool) (Mlk : Nat → Bool) (Mt : Nat → Bool) (Mg : Nat → Bool) (Ma : Nat → Nat) (Mb : Nat → Nat) (Mw : Nat → Nat) (Mwk : Nat → Int32) (Msp : Nat → Int32) (Mon : Nat → Int32) (Mct : Nat → Int32) (MS : Nat → Int32) (MZ : Nat → Int32) (MA : Nat → Nat) (MN : Nat → Nat) : Prop := h[22]? = some (.inr (3, [.int Mc, .int (nI Mn), .int (nI Mm), .ref 23, .ref 24, .ref 25, .ref 26, .int Mh, .ref 27, .ref 28, .ref 29, .ref 30, .ref 31, .ref 32, .ref 33, .ref 34, .ref 35, .int (nI Mp), .ref 36, .ref 37, .ref 38, .ref 39, .int Mfw, .int Mfs])) ∧ h[23]? = some (.inl (0, 28, .inl (fun j => nI (Me j)))) ∧ h[24]? = some (.inl (0, 14, .inl (fun j => nI (Ml j)))) ∧ h[25]? = some (.inl (1, 14, .inl (fun j => xz (Mbr j)))) ∧ h[26]? = some (.inl (1, 14, .inl (fun j => xz (Mlk j)))) ∧ h[27]? = some (.inl (1, 12, .inl (fun j => xz (Mt j)))) ∧ h[28]? = some (.inl (1, 12, .inl (fun j => xz (Mg j)))) ∧ h[29]? = some (.inl (0, 12, .inl (fun j => nI (Ma j)))) ∧ h[30]? = some (.inl (0, 12, .inl (fun j => nI (Mb j)))) ∧ h[31]? = some (.inl (0, 12, .inl (fun j => nI (Mw j)))) ∧ h[32]? = some (.inl (0, 12, .inl Mwk)) ∧ h[33]? = some (.inl (0, 12, .inl Msp)) ∧ h[34]? = some (.inl (0, 12, .inl Mon)) ∧ h[35]? = some (.inl (0, 12, .inl Mct)) ∧ h[36]? = some (.inl (0, 4000, .inl MS)) ∧ h[37]? = some (.inl (0, 4000, .inl MZ)) ∧ h[38]? = some (.inl (0, 8, .inl (fun j => nI (MA j)))) ∧ h[39]? = some (.inl (0, 8, .inl (fun j => nI (MN j))))
/-- place i made x -/
def xup {α : Type} (f : Nat → α) (i : Nat) (x : α) : Nat → α := fun j => if j = i then x else f j
theorem xup_s {α : Type} (f : Nat → α) (i : Nat) (x : α) : xup f i x i = x := if_pos rfl
theorem xup_n {α : Type} (f : Nat → α) {i j : Nat} (x : α) (h : j ≠ i) : xup f i x j = f j := if_neg h
theorem xup_v {α : Type} (c : α → Int32) (f : Nat → α) (i : Nat) (x : α) : upd (fun j => c (f j)) i (c x) = fun j => c (xup f i x j) := by
  funext j
  unfold upd xup
  by_cases h : j = i
  · rw [if_pos h, if_pos h]
  · rw [if_neg h, if_neg h]
theorem xup_i (f : Nat → Int32) (i : Nat) (x : Int32) : upd f i x = xup f i x := rfl
variable {Mc : Int32} {Mn : Nat} {Mm : Nat} {Mh : Int32} {Mp : Nat} {Mfw : Int32} {Mfs : Int32} {Me : Nat → Nat} {Ml : Nat → Nat} {Mbr : Nat → Bool} {Mlk : Nat → Bool} {Mt : Nat → Bool} {Mg : Nat → Bool} {Ma : Nat → Nat} {Mb : Nat → Nat} {Mw : Nat → Nat} {Mwk : Nat → Int32} {Msp : Nat → Int32} {Mon : Nat → Int32} {Mct : Nat → Int32} {MS : Nat → Int32} {MZ : Nat → Int32} {MA : Nat → Nat} {MN : Nat → Nat}
variable {h h' : List va_E}
theorem xMd_Me {i : Nat} {x : Nat} (hM : xMd h Mc Mn Mm Mh Mp Mfw Mfs Me Ml Mbr Mlk Mt Mg Ma Mb Mw Mwk Msp Mon Mct MS MZ MA MN) (u : xU h h' 23 (.inl (0, 28, .inl (upd (fun j => nI (Me j)) i (nI x))))) : xMd h' Mc Mn Mm Mh Mp Mfw Mfs (xup Me i x) Ml Mbr Mlk Mt Mg Ma Mb Mw Mwk Msp Mon Mct MS MZ MA MN := by
  obtain ⟨g22, g23, g24, g25, g26, g27, g28, g29, g30, g31, g32, g33, g34, g35, g36, g37, g38, g39⟩ := hM
  exact ⟨(u.2.2 22 (by decide)).trans g22, (u.2.1).trans (by rw [xup_v nI]), (u.2.2 24 (by decide)).trans g24, (u.2.2 25 (by decide)).trans g25, (u.2.2 26 (by decide)).trans g26, (u.2.2 27 (by decide)).trans g27, (u.2.2 28 (by decide)).trans g28, (u.2.2 29 (by decide)).trans g29, (u.2.2 30 (by decide)).trans g30, (u.2.2 31 (by decide)).trans g31, (u.2.2 32 (by decide)).trans g32, (u.2.2 33 (by decide)).trans g33, (u.2.2 34 (by decide)).trans g34, (u.2.2 35 (by decide)).trans g35, (u.2.2 36 (by decide)).trans g36, (u.2.2 37 (by decide)).trans g37, (u.2.2 38 (by decide)).trans g38, (u.2.2 39 (by decide)).trans g39⟩
theorem xMd_Ml {i : Nat} {x : Nat} (hM : xMd h Mc Mn Mm Mh Mp Mfw Mfs Me Ml Mbr Mlk Mt Mg Ma Mb Mw Mwk Msp Mon Mct MS MZ MA MN) (u : xU h h' 24 (.inl (0, 14, .inl (upd (fun j => nI (Ml j)) i (nI x))))) : xMd h' Mc Mn Mm Mh Mp Mfw Mfs Me (xup Ml i x) Mbr Mlk Mt Mg Ma Mb Mw Mwk Msp Mon Mct MS MZ MA MN := by
  obtain ⟨g22, g23, g24, g25, g26, g27, g28, g29, g30, g31, g32, g33, g34, g35, g36, g37, g38, g39⟩ := hM
  exact ⟨(u.2.2 22 (by decide)).trans g22, (u.2.2 23 (by decide)).trans g23, (u.2.1).trans (by rw [xup_v nI]), (u.2.2 25 (by decide)).trans g25, (u.2.2 26 (by decide)).trans g26, (u.2.2 27 (by decide)).trans g27, (u.2.2 28 (by decide)).trans g28, (u.2.2 29 (by decide)).trans g29, (u.2.2 30 (by decide)).trans g30, (u.2.2 31 (by decide)).trans g31, (u.2.2 32 (by decide)).trans g32, (u.2.2 33 (by decide)).trans g33, (u.2.2 34 (by decide)).trans g34, (u.2.2 35 (by decide)).trans g35, (u.2.2 36 (by decide)).trans g36, (u.2.2 37 (by decide)).trans g37, (u.2.2 38 (by decide)).trans g38, (u.2.2 39 (by decide)).trans g39⟩
theorem xMd_Mbr {i : Nat} {x : Bool} (hM : xMd h Mc Mn Mm Mh Mp Mfw Mfs Me Ml Mbr Mlk Mt Mg Ma Mb Mw Mwk Msp Mon Mct MS MZ MA MN) (u : xU h h' 25 (.inl (1, 14, .inl (upd (fun j => xz (Mbr j)) i (xz x))))) : xMd h' Mc Mn Mm Mh Mp Mfw Mfs Me Ml (xup Mbr i x) Mlk Mt Mg Ma Mb Mw Mwk Msp Mon Mct MS MZ MA MN := by
  obtain ⟨g22, g23, g24, g25, g26, g27, g28, g29, g30, g31, g32, g33, g34, g35, g36, g37, g38, g39⟩ := hM
  exact ⟨(u.2.2 22 (by decide)).trans g22, (u.2.2 23 (by decide)).trans g23, (u.2.2 24 (by decide)).trans g24, (u.2.1).trans (by rw [xup_v xz]), (u.2.2 26 (by decide)).trans g26, (u.2.2 27 (by decide)).trans g27, (u.2.2 28 (by decide)).trans g28, (u.2.2 29 (by decide)).trans g29, (u.2.2 30 (by decide)).trans g30, (u.2.2 31 (by decide)).trans g31, (u.2.2 32 (by decide)).trans g32, (u.2.2 33 (by decide)).trans g33, (u.2.2 34 (by decide)).trans g34, (u.2.2 35 (by decide)).trans g35, (u.2.2 36 (by decide)).trans g36, (u.2.2 37 (by decide)).trans g37, (u.2.2 38 (by decide)).trans g38, (u.2.2 39 (by decide)).trans g39⟩
theorem xMd_Mlk {i : Nat} {x : Bool} (hM : xMd h Mc Mn Mm Mh Mp Mfw Mfs Me Ml Mbr Mlk Mt Mg Ma Mb Mw Mwk Msp Mon Mct MS MZ MA MN) (u : xU h h' 26 (.inl (1, 14, .inl (upd (fun j => xz (Mlk j)) i (xz x))))) : xMd h' Mc Mn Mm Mh Mp Mfw Mfs Me Ml Mbr (xup Mlk i x) Mt Mg Ma Mb Mw Mwk Msp Mon Mct MS MZ MA MN := by
  obtain ⟨g22, g23, g24, g25, g26, g27, g28, g29, g30, g31, g32, g33, g34, g35, g36, g37, g38, g39⟩ := hM
  exact ⟨(u.2.2 22 (by decide)).trans g22, (u.2.2 23 (by decide)).trans g23, (u.2.2 24 (by decide)).trans g24, (u.2.2 25 (by decide)).trans g25, (u.2.1).trans (by rw [xup_v xz]), (u.2.2 27 (by decide)).trans g27, (u.2.2 28 (by decide)).trans g28, (u.2.2 29 (by decide)).trans g29, (u.2.2 30 (by decide)).trans g30, (u.2.2 31 (by decide)).trans g31, (u.2.2 32 (by decide)).trans g32, (u.2.2 33 (by decide)).trans g33, (u.2.2 34 (by decide)).trans g34, (u.2.2 35 (by decide)).trans g35, (u.2.2 36 (by decide)).trans g36, (u.2.2 37 (by decide)).trans g37, (u.2.2 38 (by decide)).trans g38, (u.2.2 39 (by decide)).trans g39⟩
theorem xMd_Mt {i : Nat} {x : Bool} (hM : xMd h Mc Mn Mm Mh Mp Mfw Mfs Me Ml Mbr Mlk Mt Mg Ma Mb Mw Mwk Msp Mon Mct MS MZ MA MN) (u : xU h h' 27 (.inl (1, 12, .inl (upd (fun j => xz (Mt j)) i (xz x))))) : xMd h' Mc Mn Mm Mh Mp Mfw Mfs Me Ml Mbr Mlk (xup Mt i x) Mg Ma Mb Mw Mwk Msp Mon Mct MS MZ MA MN := by
  obtain ⟨g22, g23, g24, g25, g26, g27, g28, g29, g30, g31, g32, g33, g34, g35, g36, g37, g38, g39⟩ := hM
  exact ⟨(u.2.2 22 (by decide)).trans g22, (u.2.2 23 (by decide)).trans g23, (u.2.2 24 (by decide)).trans g24, (u.2.2 25 (by decide)).trans g25, (u.2.2 26 (by decide)).trans g26, (u.2.1).trans (by rw [xup_v xz]), (u.2.2 28 (by decide)).trans g28, (u.2.2 29 (by decide)).trans g29, (u.2.2 30 (by decide)).trans g30, (u.2.2 31 (by decide)).trans g31, (u.2.2 32 (by decide)).trans g32, (u.2.2 33 (by decide)).trans g33, (u.2.2 34 (by decide)).trans g34, (u.2.2 35 (by decide)).trans g35, (u.2.2 36 (by decide)).trans g36, (u.2.2 37 (by decide)).trans g37, (u.2.2 38 (by decide)).trans g38, (u.2.2 39 (by decide)).trans g39⟩
theorem xMd_Mg {i : Nat} {x : Bool} (hM : xMd h Mc Mn Mm Mh Mp Mfw Mfs Me Ml Mbr Mlk Mt Mg Ma Mb Mw Mwk Msp Mon Mct MS MZ MA MN) (u : xU h h' 28 (.inl (1, 12, .inl (upd (fun j => xz (Mg j)) i (xz x))))) : xMd h' Mc Mn Mm Mh Mp Mfw Mfs Me Ml Mbr Mlk Mt (xup Mg i x) Ma Mb Mw Mwk Msp Mon Mct MS MZ MA MN := by
  obtain ⟨g22, g23, g24, g25, g26, g27, g28, g29, g30, g31, g32, g33, g34, g35, g36, g37, g38, g39⟩ := hM
  exact ⟨(u.2.2 22 (by decide)).trans g22, (u.2.2 23 (by decide)).trans g23, (u.2.2 24 (by decide)).trans g24, (u.2.2 25 (by decide)).trans g25, (u.2.2 26 (by decide)).trans g26, (u.2.2 27 (by decide)).trans g27, (u.2.1).trans (by rw [xup_v xz]), (u.2.2 29 (by decide)).trans g29, (u.2.2 30 (by decide)).trans g30, (u.2.2 31 (by decide)).trans g31, (u.2.2 32 (by decide)).trans g32, (u.2.2 33 (by decide)).trans g33, (u.2.2 34 (by decide)).trans g34, (u.2.2 35 (by decide)).trans g35, (u.2.2 36 (by decide)).trans g36, (u.2.2 37 (by decide)).trans g37, (u.2.2 38 (by decide)).trans g38, (u.2.2 39 (by decide)).trans g39⟩
theorem xMd_Ma {i : Nat} {x : Nat} (hM : xMd h Mc Mn Mm Mh Mp Mfw Mfs Me Ml Mbr Mlk Mt Mg Ma Mb Mw Mwk Msp Mon Mct MS MZ MA MN) (u : xU h h' 29 (.inl (0, 12, .inl (upd (fun j => nI (Ma j)) i (nI x))))) : xMd h' Mc Mn Mm Mh Mp Mfw Mfs Me Ml Mbr Mlk Mt Mg (xup Ma i x) Mb Mw Mwk Msp Mon Mct MS MZ MA MN := by
  obtain ⟨g22, g23, g24, g25, g26, g27, g28, g29, g30, g31, g32, g33, g34, g35, g36, g37, g38, g39⟩ := hM
  exact ⟨(u.2.2 22 (by decide)).trans g22, (u.2.2 23 (by decide)).trans g23, (u.2.2 24 (by decide)).trans g24, (u.2.2 25 (by decide)).trans g25, (u.2.2 26 (by decide)).trans g26, (u.2.2 27 (by decide)).trans g27, (u.2.2 28 (by decide)).trans g28, (u.2.1).trans (by rw [xup_v nI]), (u.2.2 30 (by decide)).trans g30, (u.2.2 31 (by decide)).trans g31, (u.2.2 32 (by decide)).trans g32, (u.2.2 33 (by decide)).trans g33, (u.2.2 34 (by decide)).trans g34, (u.2.2 35 (by decide)).trans g35, (u.2.2 36 (by decide)).trans g36, (u.2.2 37 (by decide)).trans g37, (u.2.2 38 (by decide)).trans g38, (u.2.2 39 (by decide)).trans g39⟩
theorem xMd_Mb {i : Nat} {x : Nat} (hM : xMd h Mc Mn Mm Mh Mp Mfw Mfs Me Ml Mbr Mlk Mt Mg Ma Mb Mw Mwk Msp Mon Mct MS MZ MA MN) (u : xU h h' 30 (.inl (0, 12, .inl (upd (fun j => nI (Mb j)) i (nI x))))) : xMd h' Mc Mn Mm Mh Mp Mfw Mfs Me Ml Mbr Mlk Mt Mg Ma (xup Mb i x) Mw Mwk Msp Mon Mct MS MZ MA MN := by
  obtain ⟨g22, g23, g24, g25, g26, g27, g28, g29, g30, g31, g32, g33, g34, g35, g36, g37, g38, g39⟩ := hM
  exact ⟨(u.2.2 22 (by decide)).trans g22, (u.2.2 23 (by decide)).trans g23, (u.2.2 24 (by decide)).trans g24, (u.2.2 25 (by decide)).trans g25, (u.2.2 26 (by decide)).trans g26, (u.2.2 27 (by decide)).trans g27, (u.2.2 28 (by decide)).trans g28, (u.2.2 29 (by decide)).trans g29, (u.2.1).trans (by rw [xup_v nI]), (u.2.2 31 (by decide)).trans g31, (u.2.2 32 (by decide)).trans g32, (u.2.2 33 (by decide)).trans g33, (u.2.2 34 (by decide)).trans g34, (u.2.2 35 (by decide)).trans g35, (u.2.2 36 (by decide)).trans g36, (u.2.2 37 (by decide)).trans g37, (u.2.2 38 (by decide)).trans g38, (u.2.2 39 (by decide)).trans g39⟩
theorem xMd_Mw {i : Nat} {x : Nat} (hM : xMd h Mc Mn Mm Mh Mp Mfw Mfs Me Ml Mbr Mlk Mt Mg Ma Mb Mw Mwk Msp Mon Mct MS MZ MA MN) (u : xU h h' 31 (.inl (0, 12, .inl (upd (fun j => nI (Mw j)) i (nI x))))) : xMd h' Mc Mn Mm Mh Mp Mfw Mfs Me Ml Mbr Mlk Mt Mg Ma Mb (xup Mw i x) Mwk Msp Mon Mct MS MZ MA MN := by
  obtain ⟨g22, g23, g24, g25, g26, g27, g28, g29, g30, g31, g32, g33, g34, g35, g36, g37, g38, g39⟩ := hM
  exact ⟨(u.2.2 22 (by decide)).trans g22, (u.2.2 23 (by decide)).trans g23, (u.2.2 24 (by decide)).trans g24, (u.2.2 25 (by decide)).trans g25, (u.2.2 26 (by decide)).trans g26, (u.2.2 27 (by decide)).trans g27, (u.2.2 28 (by decide)).trans g28, (u.2.2 29 (by decide)).trans g29, (u.2.2 30 (by decide)).trans g30, (u.2.1).trans (by rw [xup_v nI]), (u.2.2 32 (by decide)).trans g32, (u.2.2 33 (by decide)).trans g33, (u.2.2 34 (by decide)).trans g34, (u.2.2 35 (by decide)).trans g35, (u.2.2 36 (by decide)).trans g36, (u.2.2 37 (by decide)).trans g37, (u.2.2 38 (by decide)).trans g38, (u.2.2 39 (by decide)).trans g39⟩
theorem xMd_Mwk {i : Nat} {x : Int32} (hM : xMd h Mc Mn Mm Mh Mp Mfw Mfs Me Ml Mbr Mlk Mt Mg Ma Mb Mw Mwk Msp Mon Mct MS MZ MA MN) (u : xU h h' 32 (.inl (0, 12, .inl (upd Mwk i x)))) : xMd h' Mc Mn Mm Mh Mp Mfw Mfs Me Ml Mbr Mlk Mt Mg Ma Mb Mw (xup Mwk i x) Msp Mon Mct MS MZ MA MN := by
  obtain ⟨g22, g23, g24, g25, g26, g27, g28, g29, g30, g31, g32, g33, g34, g35, g36, g37, g38, g39⟩ := hM
  exact ⟨(u.2.2 22 (by decide)).trans g22, (u.2.2 23 (by decide)).trans g23, (u.2.2 24 (by decide)).trans g24, (u.2.2 25 (by decide)).trans g25, (u.2.2 26 (by decide)).trans g26, (u.2.2 27 (by decide)).trans g27, (u.2.2 28 (by decide)).trans g28, (u.2.2 29 (by decide)).trans g29, (u.2.2 30 (by decide)).trans g30, (u.2.2 31 (by decide)).trans g31, u.2.1, (u.2.2 33 (by decide)).trans g33, (u.2.2 34 (by decide)).trans g34, (u.2.2 35 (by decide)).trans g35, (u.2.2 36 (by decide)).trans g36, (u.2.2 37 (by decide)).trans g37, (u.2.2 38 (by decide)).trans g38, (u.2.2 39 (by decide)).trans g39⟩
theorem xMd_Msp {i : Nat} {x : Int32} (hM : xMd h Mc Mn Mm Mh Mp Mfw Mfs Me Ml Mbr Mlk Mt Mg Ma Mb Mw Mwk Msp Mon Mct MS MZ MA MN) (u : xU h h' 33 (.inl (0, 12, .inl (upd Msp i x)))) : xMd h' Mc Mn Mm Mh Mp Mfw Mfs Me Ml Mbr Mlk Mt Mg Ma Mb Mw Mwk (xup Msp i x) Mon Mct MS MZ MA MN := by
  obtain ⟨g22, g23, g24, g25, g26, g27, g28, g29, g30, g31, g32, g33, g34, g35, g36, g37, g38, g39⟩ := hM
  exact ⟨(u.2.2 22 (by decide)).trans g22, (u.2.2 23 (by decide)).trans g23, (u.2.2 24 (by decide)).trans g24, (u.2.2 25 (by decide)).trans g25, (u.2.2 26 (by decide)).trans g26, (u.2.2 27 (by decide)).trans g27, (u.2.2 28 (by decide)).trans g28, (u.2.2 29 (by decide)).trans g29, (u.2.2 30 (by decide)).trans g30, (u.2.2 31 (by decide)).trans g31, (u.2.2 32 (by decide)).trans g32, u.2.1, (u.2.2 34 (by decide)).trans g34, (u.2.2 35 (by decide)).trans g35, (u.2.2 36 (by decide)).trans g36, (u.2.2 37 (by decide)).trans g37, (u.2.2 38 (by decide)).trans g38, (u.2.2 39 (by decide)).trans g39⟩
theorem xMd_Mon {i : Nat} {x : Int32} (hM : xMd h Mc Mn Mm Mh Mp Mfw Mfs Me Ml Mbr Mlk Mt Mg Ma Mb Mw Mwk Msp Mon Mct MS MZ MA MN) (u : xU h h' 34 (.inl (0, 12, .inl (upd Mon i x)))) : xMd h' Mc Mn Mm Mh Mp Mfw Mfs Me Ml Mbr Mlk Mt Mg Ma Mb Mw Mwk Msp (xup Mon i x) Mct MS MZ MA MN := by
  obtain ⟨g22, g23, g24, g25, g26, g27, g28, g29, g30, g31, g32, g33, g34, g35, g36, g37, g38, g39⟩ := hM
  exact ⟨(u.2.2 22 (by decide)).trans g22, (u.2.2 23 (by decide)).trans g23, (u.2.2 24 (by decide)).trans g24, (u.2.2 25 (by decide)).trans g25, (u.2.2 26 (by decide)).trans g26, (u.2.2 27 (by decide)).trans g27, (u.2.2 28 (by decide)).trans g28, (u.2.2 29 (by decide)).trans g29, (u.2.2 30 (by decide)).trans g30, (u.2.2 31 (by decide)).trans g31, (u.2.2 32 (by decide)).trans g32, (u.2.2 33 (by decide)).trans g33, u.2.1, (u.2.2 35 (by decide)).trans g35, (u.2.2 36 (by decide)).trans g36, (u.2.2 37 (by decide)).trans g37, (u.2.2 38 (by decide)).trans g38, (u.2.2 39 (by decide)).trans g39⟩
theorem xMd_Mct {i : Nat} {x : Int32} (hM : xMd h Mc Mn Mm Mh Mp Mfw Mfs Me Ml Mbr Mlk Mt Mg Ma Mb Mw Mwk Msp Mon Mct MS MZ MA MN) (u : xU h h' 35 (.inl (0, 12, .inl (upd Mct i x)))) : xMd h' Mc Mn Mm Mh Mp Mfw Mfs Me Ml Mbr Mlk Mt Mg Ma Mb Mw Mwk Msp Mon (xup Mct i x) MS MZ MA MN := by
  obtain ⟨g22, g23, g24, g25, g26, g27, g28, g29, g30, g31, g32, g33, g34, g35, g36, g37, g38, g39⟩ := hM
  exact ⟨(u.2.2 22 (by decide)).trans g22, (u.2.2 23 (by decide)).trans g23, (u.2.2 24 (by decide)).trans g24, (u.2.2 25 (by decide)).trans g25, (u.2.2 26 (by decide)).trans g26, (u.2.2 27 (by decide)).trans g27, (u.2.2 28 (by decide)).trans g28, (u.2.2 29 (by decide)).trans g29, (u.2.2 30 (by decide)).trans g30, (u.2.2 31 (by decide)).trans g31, (u.2.2 32 (by decide)).trans g32, (u.2.2 33 (by decide)).trans g33, (u.2.2 34 (by decide)).trans g34, u.2.1, (u.2.2 36 (by decide)).trans g36, (u.2.2 37 (by decide)).trans g37, (u.2.2 38 (by decide)).trans g38, (u.2.2 39 (by decide)).trans g39⟩
theorem xMd_MS {i : Nat} {x : Int32} (hM : xMd h Mc Mn Mm Mh Mp Mfw Mfs Me Ml Mbr Mlk Mt Mg Ma Mb Mw Mwk Msp Mon Mct MS MZ MA MN) (u : xU h h' 36 (.inl (0, 4000, .inl (upd MS i x)))) : xMd h' Mc Mn Mm Mh Mp Mfw Mfs Me Ml Mbr Mlk Mt Mg Ma Mb Mw Mwk Msp Mon Mct (xup MS i x) MZ MA MN := by
  obtain ⟨g22, g23, g24, g25, g26, g27, g28, g29, g30, g31, g32, g33, g34, g35, g36, g37, g38, g39⟩ := hM
  exact ⟨(u.2.2 22 (by decide)).trans g22, (u.2.2 23 (by decide)).trans g23, (u.2.2 24 (by decide)).trans g24, (u.2.2 25 (by decide)).trans g25, (u.2.2 26 (by decide)).trans g26, (u.2.2 27 (by decide)).trans g27, (u.2.2 28 (by decide)).trans g28, (u.2.2 29 (by decide)).trans g29, (u.2.2 30 (by decide)).trans g30, (u.2.2 31 (by decide)).trans g31, (u.2.2 32 (by decide)).trans g32, (u.2.2 33 (by decide)).trans g33, (u.2.2 34 (by decide)).trans g34, (u.2.2 35 (by decide)).trans g35, u.2.1, (u.2.2 37 (by decide)).trans g37, (u.2.2 38 (by decide)).trans g38, (u.2.2 39 (by decide)).trans g39⟩
theorem xMd_MZ {i : Nat} {x : Int32} (hM : xMd h Mc Mn Mm Mh Mp Mfw Mfs Me Ml Mbr Mlk Mt Mg Ma Mb Mw Mwk Msp Mon Mct MS MZ MA MN) (u : xU h h' 37 (.inl (0, 4000, .inl (upd MZ i x)))) : xMd h' Mc Mn Mm Mh Mp Mfw Mfs Me Ml Mbr Mlk Mt Mg Ma Mb Mw Mwk Msp Mon Mct MS (xup MZ i x) MA MN := by
  obtain ⟨g22, g23, g24, g25, g26, g27, g28, g29, g30, g31, g32, g33, g34, g35, g36, g37, g38, g39⟩ := hM
  exact ⟨(u.2.2 22 (by decide)).trans g22, (u.2.2 23 (by decide)).trans g23, (u.2.2 24 (by decide)).trans g24, (u.2.2 25 (by decide)).trans g25, (u.2.2 26 (by decide)).trans g26, (u.2.2 27 (by decide)).trans g27, (u.2.2 28 (by decide)).trans g28, (u.2.2 29 (by decide)).trans g29, (u.2.2 30 (by decide)).trans g30, (u.2.2 31 (by decide)).trans g31, (u.2.2 32 (by decide)).trans g32, (u.2.2 33 (by decide)).trans g33, (u.2.2 34 (by decide)).trans g34, (u.2.2 35 (by decide)).trans g35, (u.2.2 36 (by decide)).trans g36, u.2.1, (u.2.2 38 (by decide)).trans g38, (u.2.2 39 (by decide)).trans g39⟩
theorem xMd_MA {i : Nat} {x : Nat} (hM : xMd h Mc Mn Mm Mh Mp Mfw Mfs Me Ml Mbr Mlk Mt Mg Ma Mb Mw Mwk Msp Mon Mct MS MZ MA MN) (u : xU h h' 38 (.inl (0, 8, .inl (upd (fun j => nI (MA j)) i (nI x))))) : xMd h' Mc Mn Mm Mh Mp Mfw Mfs Me Ml Mbr Mlk Mt Mg Ma Mb Mw Mwk Msp Mon Mct MS MZ (xup MA i x) MN := by
  obtain ⟨g22, g23, g24, g25, g26, g27, g28, g29, g30, g31, g32, g33, g34, g35, g36, g37, g38, g39⟩ := hM
  exact ⟨(u.2.2 22 (by decide)).trans g22, (u.2.2 23 (by decide)).trans g23, (u.2.2 24 (by decide)).trans g24, (u.2.2 25 (by decide)).trans g25, (u.2.2 26 (by decide)).trans g26, (u.2.2 27 (by decide)).trans g27, (u.2.2 28 (by decide)).trans g28, (u.2.2 29 (by decide)).trans g29, (u.2.2 30 (by decide)).trans g30, (u.2.2 31 (by decide)).trans g31, (u.2.2 32 (by decide)).trans g32, (u.2.2 33 (by decide)).trans g33, (u.2.2 34 (by decide)).trans g34, (u.2.2 35 (by decide)).trans g35, (u.2.2 36 (by decide)).trans g36, (u.2.2 37 (by decide)).trans g37, (u.2.1).trans (by rw [xup_v nI]), (u.2.2 39 (by decide)).trans g39⟩
theorem xMd_MN {i : Nat} {x : Nat} (hM : xMd h Mc Mn Mm Mh Mp Mfw Mfs Me Ml Mbr Mlk Mt Mg Ma Mb Mw Mwk Msp Mon Mct MS MZ MA MN) (u : xU h h' 39 (.inl (0, 8, .inl (upd (fun j => nI (MN j)) i (nI x))))) : xMd h' Mc Mn Mm Mh Mp Mfw Mfs Me Ml Mbr Mlk Mt Mg Ma Mb Mw Mwk Msp Mon Mct MS MZ MA (xup MN i x) := by
  obtain ⟨g22, g23, g24, g25, g26, g27, g28, g29, g30, g31, g32, g33, g34, g35, g36, g37, g38, g39⟩ := hM
  exact ⟨(u.2.2 22 (by decide)).trans g22, (u.2.2 23 (by decide)).trans g23, (u.2.2 24 (by decide)).trans g24, (u.2.2 25 (by decide)).trans g25, (u.2.2 26 (by decide)).trans g26, (u.2.2 27 (by decide)).trans g27, (u.2.2 28 (by decide)).trans g28, (u.2.2 29 (by decide)).trans g29, (u.2.2 30 (by decide)).trans g30, (u.2.2 31 (by decide)).trans g31, (u.2.2 32 (by decide)).trans g32, (u.2.2 33 (by decide)).trans g33, (u.2.2 34 (by decide)).trans g34, (u.2.2 35 (by decide)).trans g35, (u.2.2 36 (by decide)).trans g36, (u.2.2 37 (by decide)).trans g37, (u.2.2 38 (by decide)).trans g38, (u.2.1).trans (by rw [xup_v nI])⟩
theorem xMd_o {Mc' : Int32} {Mn' : Nat} {Mm' : Nat} {Mh' : Int32} {Mp' : Nat} {Mfw' : Int32} {Mfs' : Int32} (hM : xMd h Mc Mn Mm Mh Mp Mfw Mfs Me Ml Mbr Mlk Mt Mg Ma Mb Mw Mwk Msp Mon Mct MS MZ MA MN) (u : xU h h' 22 (.inr (3, [.int Mc', .int (nI Mn'), .int (nI Mm'), .ref 23, .ref 24, .ref 25, .ref 26, .int Mh', .ref 27, .ref 28, .ref 29, .ref 30, .ref 31, .ref 32, .ref 33, .ref 34, .ref 35, .int (nI Mp'), .ref 36, .ref 37, .ref 38, .ref 39, .int Mfw', .int Mfs']))) : xMd h' Mc' Mn' Mm' Mh' Mp' Mfw' Mfs' Me Ml Mbr Mlk Mt Mg Ma Mb Mw Mwk Msp Mon Mct MS MZ MA MN := by
  obtain ⟨g22, g23, g24, g25, g26, g27, g28, g29, g30, g31, g32, g33, g34, g35, g36, g37, g38, g39⟩ := hM
  exact ⟨u.2.1, (u.2.2 23 (by decide)).trans g23, (u.2.2 24 (by decide)).trans g24, (u.2.2 25 (by decide)).trans g25, (u.2.2 26 (by decide)).trans g26, (u.2.2 27 (by decide)).trans g27, (u.2.2 28 (by decide)).trans g28, (u.2.2 29 (by decide)).trans g29, (u.2.2 30 (by decide)).trans g30, (u.2.2 31 (by decide)).trans g31, (u.2.2 32 (by decide)).trans g32, (u.2.2 33 (by decide)).trans g33, (u.2.2 34 (by decide)).trans g34, (u.2.2 35 (by decide)).trans g35, (u.2.2 36 (by decide)).trans g36, (u.2.2 37 (by decide)).trans g37, (u.2.2 38 (by decide)).trans g38, (u.2.2 39 (by decide)).trans g39⟩
theorem xMd_keep (hM : xMd h Mc Mn Mm Mh Mp Mfw Mfs Me Ml Mbr Mlk Mt Mg Ma Mb Mw Mwk Msp Mon Mct MS MZ MA MN) (k : ∀ j, 22 ≤ j → j < 40 → h'[j]? = h[j]?) : xMd h' Mc Mn Mm Mh Mp Mfw Mfs Me Ml Mbr Mlk Mt Mg Ma Mb Mw Mwk Msp Mon Mct MS MZ MA MN := by
  obtain ⟨g22, g23, g24, g25, g26, g27, g28, g29, g30, g31, g32, g33, g34, g35, g36, g37, g38, g39⟩ := hM
  exact ⟨(k 22 (by decide) (by decide)).trans g22, (k 23 (by decide) (by decide)).trans g23, (k 24 (by decide) (by decide)).trans g24, (k 25 (by decide) (by decide)).trans g25, (k 26 (by decide) (by decide)).trans g26, (k 27 (by decide) (by decide)).trans g27, (k 28 (by decide) (by decide)).trans g28, (k 29 (by decide) (by decide)).trans g29, (k 30 (by decide) (by decide)).trans g30, (k 31 (by decide) (by decide)).trans g31, (k 32 (by decide) (by decide)).trans g32, (k 33 (by decide) (by decide)).trans g33, (k 34 (by decide) (by decide)).trans g34, (k 35 (by decide) (by decide)).trans g35, (k 36 (by decide) (by decide)).trans g36, (k 37 (by decide) (by decide)).trans g37, (k 38 (by decide) (by decide)).trans g38, (k 39 (by decide) (by decide)).trans g39⟩
end XM
end
section
/-! 32.small: the model's smallest methods. -/
theorem xa_M_thrown_0 : xm_at xP 69 0 = some (0, .aload_n 0, 0, 0, 0, 0) := by decide +kernel
theorem xa_M_thrown_1 : xm_at xP 69 1 = some (1, .getfield 66, 3, 0, 0, 0) := by decide +kernel
theorem xa_M_thrown_4 : xm_at xP 69 4 = some (4, .ireturn, 0, 0, 0, 0) := by decide +kernel
theorem xa_M_noSite_0 : xm_at xP 72 0 = some (0, .iload_n 1, 0, 0, 0, 0) := by decide +kernel
theorem xa_M_noSite_1 : xm_at xP 72 1 = some (1, .ifCond .lt 11, 12, 0, 0, 0) := by decide +kernel
theorem xa_M_noSite_4 : xm_at xP 72 4 = some (4, .iload_n 1, 0, 0, 0, 0) := by decide +kernel
theorem xa_M_noSite_5 : xm_at xP 72 5 = some (5, .aload_n 0, 0, 0, 0, 0) := by decide +kernel
theorem xa_M_noSite_6 : xm_at xP 72 6 = some (6, .getfield 7, 3, 1, 0, 0) := by decide +kernel
theorem xa_M_noSite_9 : xm_at xP 72 9 = some (9, .if_icmp .lt 7, 16, 0, 0, 0) := by decide +kernel
theorem xa_M_noSite_12 : xm_at xP 72 12 = some (12, .iconst 1, 0, 0, 0, 0) := by decide +kernel
theorem xa_M_noSite_13 : xm_at xP 72 13 = some (13, .goto 4, 17, 0, 0, 0) := by decide +kernel
theorem xa_M_noSite_16 : xm_at xP 72 16 = some (16, .iconst 0, 0, 0, 0, 0) := by decide +kernel
theorem xa_M_noSite_17 : xm_at xP 72 17 = some (17, .ireturn, 0, 0, 0, 1) := by decide +kernel
theorem xa_M_noFibre_0 : xm_at xP 89 0 = some (0, .iload_n 1, 0, 0, 0, 0) := by decide +kernel
theorem xa_M_noFibre_1 : xm_at xP 89 1 = some (1, .ifCond .lt 11, 12, 0, 0, 0) := by decide +kernel
theorem xa_M_noFibre_4 : xm_at xP 89 4 = some (4, .iload_n 1, 0, 0, 0, 0) := by decide +kernel
theorem xa_M_noFibre_5 : xm_at xP 89 5 = some (5, .aload_n 0, 0, 0, 0, 0) := by decide +kernel
theorem xa_M_noFibre_6 : xm_at xP 89 6 = some (6, .getfield 69, 3, 2, 0, 0) := by decide +kernel
theorem xa_M_noFibre_9 : xm_at xP 89 9 = some (9, .if_icmp .lt 7, 16, 0, 0, 0) := by decide +kernel
theorem xa_M_noFibre_12 : xm_at xP 89 12 = some (12, .iconst 1, 0, 0, 0, 0) := by decide +kernel
theorem xa_M_noFibre_13 : xm_at xP 89 13 = some (13, .goto 4, 17, 0, 0, 0) := by decide +kernel
theorem xa_M_noFibre_16 : xm_at xP 89 16 = some (16, .iconst 0, 0, 0, 0, 0) := by decide +kernel
theorem xa_M_noFibre_17 : xm_at xP 89 17 = some (17, .ireturn, 0, 0, 0, 1) := by decide +kernel
theorem xa_M_noConnection_0 : xm_at xP 87 0 = some (0, .iload_n 1, 0, 0, 0, 0) := by decide +kernel
theorem xa_M_noConnection_1 : xm_at xP 87 1 = some (1, .ifCond .lt 18, 19, 0, 0, 0) := by decide +kernel
theorem xa_M_noConnection_4 : xm_at xP 87 4 = some (4, .iload_n 1, 0, 0, 0, 0) := by decide +kernel
theorem xa_M_noConnection_5 : xm_at xP 87 5 = some (5, .bipush 11, 0, 0, 0, 0) := by decide +kernel
theorem xa_M_noConnection_7 : xm_at xP 87 7 = some (7, .if_icmp .gt 12, 19, 0, 0, 0) := by decide +kernel
theorem xa_M_noConnection_10 : xm_at xP 87 10 = some (10, .aload_n 0, 0, 0, 0, 0) := by decide +kernel
theorem xa_M_noConnection_11 : xm_at xP 87 11 = some (11, .getfield 27, 3, 8, 0, 0) := by decide +kernel
theorem xa_M_noConnection_14 : xm_at xP 87 14 = some (14, .iload_n 1, 0, 0, 0, 0) := by decide +kernel
theorem xa_M_noConnection_15 : xm_at xP 87 15 = some (15, .baload, 0, 0, 0, 0) := by decide +kernel
theorem xa_M_noConnection_16 : xm_at xP 87 16 = some (16, .ifCond .ne 7, 23, 0, 0, 0) := by decide +kernel
theorem xa_M_noConnection_19 : xm_at xP 87 19 = some (19, .iconst 1, 0, 0, 0, 0) := by decide +kernel
theorem xa_M_noConnection_20 : xm_at xP 87 20 = some (20, .goto 4, 24, 0, 0, 0) := by decide +kernel
theorem xa_M_noConnection_23 : xm_at xP 87 23 = some (23, .iconst 0, 0, 0, 0, 0) := by decide +kernel
theorem xa_M_noConnection_24 : xm_at xP 87 24 = some (24, .ireturn, 0, 0, 0, 1) := by decide +kernel
theorem xa_M_bit_0 : xm_at xP 78 0 = some (0, .iload_n 0, 0, 0, 0, 0) := by decide +kernel
theorem xa_M_bit_1 : xm_at xP 78 1 = some (1, .iload_n 1, 0, 0, 0, 0) := by decide +kernel
theorem xa_M_bit_2 : xm_at xP 78 2 = some (2, .ishr, 0, 0, 0, 0) := by decide +kernel
theorem xa_M_bit_3 : xm_at xP 78 3 = some (3, .iconst 1, 0, 0, 0, 0) := by decide +kernel
theorem xa_M_bit_4 : xm_at xP 78 4 = some (4, .iand, 0, 0, 0, 0) := by decide +kernel
theorem xa_M_bit_5 : xm_at xP 78 5 = some (5, .ireturn, 0, 0, 0, 0) := by decide +kernel
theorem xa_M_lengthOf_0 : xm_at xP 81 0 = some (0, .iconst 0, 0, 0, 0, 0) := by decide +kernel
theorem xa_M_lengthOf_1 : xm_at xP 81 1 = some (1, .istore_n 2, 0, 0, 0, 0) := by decide +kernel
theorem xa_M_lengthOf_2 : xm_at xP 81 2 = some (2, .iconst 0, 0, 0, 0, 0) := by decide +kernel
theorem xa_M_lengthOf_3 : xm_at xP 81 3 = some (3, .istore_n 3, 0, 0, 0, 0) := by decide +kernel
theorem xa_M_lengthOf_4 : xm_at xP 81 4 = some (4, .iload_n 3, 0, 0, 0, 0) := by decide +kernel
theorem xa_M_lengthOf_5 : xm_at xP 81 5 = some (5, .aload_n 0, 0, 0, 0, 0) := by decide +kernel
theorem xa_M_lengthOf_6 : xm_at xP 81 6 = some (6, .getfield 69, 3, 2, 0, 0) := by decide +kernel
theorem xa_M_lengthOf_9 : xm_at xP 81 9 = some (9, .if_icmp .ge 24, 33, 0, 0, 0) := by decide +kernel
theorem xa_M_lengthOf_12 : xm_at xP 81 12 = some (12, .iload_n 2, 0, 0, 0, 0) := by decide +kernel
theorem xa_M_lengthOf_13 : xm_at xP 81 13 = some (13, .iload_n 1, 0, 0, 0, 0) := by decide +kernel
theorem xa_M_lengthOf_14 : xm_at xP 81 14 = some (14, .iload_n 3, 0, 0, 0, 0) := by decide +kernel
theorem xa_M_lengthOf_15 : xm_at xP 81 15 = some (15, .invokestatic 72, 78, 2, 0, 0) := by decide +kernel
theorem xa_M_lengthOf_18 : xm_at xP 81 18 = some (18, .aload_n 0, 0, 0, 0, 0) := by decide +kernel
theorem xa_M_lengthOf_19 : xm_at xP 81 19 = some (19, .getfield 17, 3, 4, 0, 0) := by decide +kernel
theorem xa_M_lengthOf_22 : xm_at xP 81 22 = some (22, .iload_n 3, 0, 0, 0, 0) := by decide +kernel
theorem xa_M_lengthOf_23 : xm_at xP 81 23 = some (23, .iaload, 0, 0, 0, 0) := by decide +kernel
theorem xa_M_lengthOf_24 : xm_at xP 81 24 = some (24, .imul, 0, 0, 0, 0) := by decide +kernel
theorem xa_M_lengthOf_25 : xm_at xP 81 25 = some (25, .iadd, 0, 0, 0, 0) := by decide +kernel
theorem xa_M_lengthOf_26 : xm_at xP 81 26 = some (26, .istore_n 2, 0, 0, 0, 0) := by decide +kernel
theorem xa_M_lengthOf_27 : xm_at xP 81 27 = some (27, .iinc 3 1, 0, 0, 0, 0) := by decide +kernel
theorem xa_M_lengthOf_30 : xm_at xP 81 30 = some (30, .goto (-26), 4, 0, 0, 0) := by decide +kernel
theorem xa_M_lengthOf_33 : xm_at xP 81 33 = some (33, .iload_n 2, 0, 0, 0, 0) := by decide +kernel
theorem xa_M_lengthOf_34 : xm_at xP 81 34 = some (34, .ireturn, 0, 0, 0, 0) := by decide +kernel
theorem xa_M_before_0 : xm_at xP 83 0 = some (0, .iconst 0, 0, 0, 0, 0) := by decide +kernel
theorem xa_M_before_1 : xm_at xP 83 1 = some (1, .istore_n 2, 0, 0, 0, 0) := by decide +kernel
theorem xa_M_before_2 : xm_at xP 83 2 = some (2, .iload_n 2, 0, 0, 0, 0) := by decide +kernel
theorem xa_M_before_3 : xm_at xP 83 3 = some (3, .bipush 14, 0, 0, 0, 0) := by decide +kernel
theorem xa_M_before_5 : xm_at xP 83 5 = some (5, .if_icmp .ge 74, 79, 0, 0, 0) := by decide +kernel
theorem xa_M_before_8 : xm_at xP 83 8 = some (8, .iload_n 0, 0, 0, 0, 0) := by decide +kernel
theorem xa_M_before_9 : xm_at xP 83 9 = some (9, .iload_n 2, 0, 0, 0, 0) := by decide +kernel
theorem xa_M_before_10 : xm_at xP 83 10 = some (10, .invokestatic 72, 78, 2, 0, 0) := by decide +kernel
theorem xa_M_before_13 : xm_at xP 83 13 = some (13, .iload_n 1, 0, 0, 0, 0) := by decide +kernel
theorem xa_M_before_14 : xm_at xP 83 14 = some (14, .iload_n 2, 0, 0, 0, 0) := by decide +kernel
theorem xa_M_before_15 : xm_at xP 83 15 = some (15, .invokestatic 72, 78, 2, 0, 0) := by decide +kernel
theorem xa_M_before_18 : xm_at xP 83 18 = some (18, .if_icmp .eq 55, 73, 0, 0, 0) := by decide +kernel
theorem xa_M_before_21 : xm_at xP 83 21 = some (21, .iload_n 0, 0, 0, 0, 0) := by decide +kernel
theorem xa_M_before_22 : xm_at xP 83 22 = some (22, .iload_n 2, 0, 0, 0, 0) := by decide +kernel
theorem xa_M_before_23 : xm_at xP 83 23 = some (23, .invokestatic 72, 78, 2, 0, 0) := by decide +kernel
theorem xa_M_before_26 : xm_at xP 83 26 = some (26, .iconst 1, 0, 0, 0, 0) := by decide +kernel
theorem xa_M_before_27 : xm_at xP 83 27 = some (27, .if_icmp .ne 7, 34, 0, 0, 0) := by decide +kernel
theorem xa_M_before_30 : xm_at xP 83 30 = some (30, .iconst 1, 0, 0, 0, 0) := by decide +kernel
theorem xa_M_before_31 : xm_at xP 83 31 = some (31, .goto 4, 35, 0, 0, 0) := by decide +kernel
theorem xa_M_before_34 : xm_at xP 83 34 = some (34, .iconst 0, 0, 0, 0, 0) := by decide +kernel
theorem xa_M_before_35 : xm_at xP 83 35 = some (35, .istore_n 3, 0, 0, 0, 0) := by decide +kernel
theorem xa_M_before_36 : xm_at xP 83 36 = some (36, .iload_n 3, 0, 0, 0, 0) := by decide +kernel
theorem xa_M_before_37 : xm_at xP 83 37 = some (37, .ifCond .eq 7, 44, 0, 0, 0) := by decide +kernel
theorem xa_M_before_40 : xm_at xP 83 40 = some (40, .iload_n 1, 0, 0, 0, 0) := by decide +kernel
theorem xa_M_before_41 : xm_at xP 83 41 = some (41, .goto 4, 45, 0, 0, 0) := by decide +kernel
theorem xa_M_before_44 : xm_at xP 83 44 = some (44, .iload_n 0, 0, 0, 0, 0) := by decide +kernel
theorem xa_M_before_45 : xm_at xP 83 45 = some (45, .istore 4, 0, 0, 0, 0) := by decide +kernel
theorem xa_M_before_47 : xm_at xP 83 47 = some (47, .iload 4, 0, 0, 0, 0) := by decide +kernel
theorem xa_M_before_49 : xm_at xP 83 49 = some (49, .iload_n 2, 0, 0, 0, 0) := by decide +kernel
theorem xa_M_before_50 : xm_at xP 83 50 = some (50, .ishr, 0, 0, 0, 0) := by decide +kernel
theorem xa_M_before_51 : xm_at xP 83 51 = some (51, .ifCond .le 7, 58, 0, 0, 0) := by decide +kernel
theorem xa_M_before_54 : xm_at xP 83 54 = some (54, .iconst 1, 0, 0, 0, 0) := by decide +kernel
theorem xa_M_before_55 : xm_at xP 83 55 = some (55, .goto 4, 59, 0, 0, 0) := by decide +kernel
theorem xa_M_before_58 : xm_at xP 83 58 = some (58, .iconst 0, 0, 0, 0, 0) := by decide +kernel
theorem xa_M_before_59 : xm_at xP 83 59 = some (59, .istore 5, 0, 0, 0, 0) := by decide +kernel
theorem xa_M_before_61 : xm_at xP 83 61 = some (61, .iload_n 3, 0, 0, 0, 0) := by decide +kernel
theorem xa_M_before_62 : xm_at xP 83 62 = some (62, .iload 5, 0, 0, 0, 0) := by decide +kernel
theorem xa_M_before_64 : xm_at xP 83 64 = some (64, .if_icmp .ne 7, 71, 0, 0, 0) := by decide +kernel
theorem xa_M_before_67 : xm_at xP 83 67 = some (67, .iconst 1, 0, 0, 0, 0) := by decide +kernel
theorem xa_M_before_68 : xm_at xP 83 68 = some (68, .goto 4, 72, 0, 0, 0) := by decide +kernel
theorem xa_M_before_71 : xm_at xP 83 71 = some (71, .iconst 0, 0, 0, 0, 0) := by decide +kernel
theorem xa_M_before_72 : xm_at xP 83 72 = some (72, .ireturn, 0, 0, 0, 1) := by decide +kernel
theorem xa_M_before_73 : xm_at xP 83 73 = some (73, .iinc 2 1, 0, 0, 0, 0) := by decide +kernel
theorem xa_M_before_76 : xm_at xP 83 76 = some (76, .goto (-74), 2, 0, 0, 0) := by decide +kernel
theorem xa_M_before_79 : xm_at xP 83 79 = some (79, .iconst 0, 0, 0, 0, 0) := by decide +kernel
theorem xa_M_before_80 : xm_at xP 83 80 = some (80, .ireturn, 0, 0, 0, 1) := by decide +kernel
theorem xa_M_userOf_0 : xm_at xP 77 0 = some (0, .iconst 0, 0, 0, 0, 0) := by decide +kernel
theorem xa_M_userOf_1 : xm_at xP 77 1 = some (1, .istore_n 3, 0, 0, 0, 0) := by decide +kernel
theorem xa_M_userOf_2 : xm_at xP 77 2 = some (2, .iload_n 3, 0, 0, 0, 0) := by decide +kernel
theorem xa_M_userOf_3 : xm_at xP 77 3 = some (3, .bipush 12, 0, 0, 0, 0) := by decide +kernel
theorem xa_M_userOf_5 : xm_at xP 77 5 = some (5, .if_icmp .ge 51, 56, 0, 0, 0) := by decide +kernel
theorem xa_M_userOf_8 : xm_at xP 77 8 = some (8, .aload_n 0, 0, 0, 0, 0) := by decide +kernel
theorem xa_M_userOf_9 : xm_at xP 77 9 = some (9, .getfield 27, 3, 8, 0, 0) := by decide +kernel
theorem xa_M_userOf_12 : xm_at xP 77 12 = some (12, .iload_n 3, 0, 0, 0, 0) := by decide +kernel
theorem xa_M_userOf_13 : xm_at xP 77 13 = some (13, .baload, 0, 0, 0, 0) := by decide +kernel
theorem xa_M_userOf_14 : xm_at xP 77 14 = some (14, .ifCond .eq 36, 50, 0, 0, 0) := by decide +kernel
theorem xa_M_userOf_17 : xm_at xP 77 17 = some (17, .aload_n 0, 0, 0, 0, 0) := by decide +kernel
theorem xa_M_userOf_18 : xm_at xP 77 18 = some (18, .getfield 39, 3, 12, 0, 0) := by decide +kernel
theorem xa_M_userOf_21 : xm_at xP 77 21 = some (21, .iload_n 3, 0, 0, 0, 0) := by decide +kernel
theorem xa_M_userOf_22 : xm_at xP 77 22 = some (22, .iaload, 0, 0, 0, 0) := by decide +kernel
theorem xa_M_userOf_23 : xm_at xP 77 23 = some (23, .iload_n 2, 0, 0, 0, 0) := by decide +kernel
theorem xa_M_userOf_24 : xm_at xP 77 24 = some (24, .if_icmp .ne 26, 50, 0, 0, 0) := by decide +kernel
theorem xa_M_userOf_27 : xm_at xP 77 27 = some (27, .aload_n 0, 0, 0, 0, 0) := by decide +kernel
theorem xa_M_userOf_28 : xm_at xP 77 28 = some (28, .getfield 42, 3, 13, 0, 0) := by decide +kernel
theorem xa_M_userOf_31 : xm_at xP 77 31 = some (31, .iload_n 3, 0, 0, 0, 0) := by decide +kernel
theorem xa_M_userOf_32 : xm_at xP 77 32 = some (32, .iaload, 0, 0, 0, 0) := by decide +kernel
theorem xa_M_userOf_33 : xm_at xP 77 33 = some (33, .aload_n 0, 0, 0, 0, 0) := by decide +kernel
theorem xa_M_userOf_34 : xm_at xP 77 34 = some (34, .getfield 45, 3, 14, 0, 0) := by decide +kernel
theorem xa_M_userOf_37 : xm_at xP 77 37 = some (37, .iload_n 3, 0, 0, 0, 0) := by decide +kernel
theorem xa_M_userOf_38 : xm_at xP 77 38 = some (38, .iaload, 0, 0, 0, 0) := by decide +kernel
theorem xa_M_userOf_39 : xm_at xP 77 39 = some (39, .ior, 0, 0, 0, 0) := by decide +kernel
theorem xa_M_userOf_40 : xm_at xP 77 40 = some (40, .iload_n 1, 0, 0, 0, 0) := by decide +kernel
theorem xa_M_userOf_41 : xm_at xP 77 41 = some (41, .invokestatic 72, 78, 2, 0, 0) := by decide +kernel
theorem xa_M_userOf_44 : xm_at xP 77 44 = some (44, .iconst 1, 0, 0, 0, 0) := by decide +kernel
theorem xa_M_userOf_45 : xm_at xP 77 45 = some (45, .if_icmp .ne 5, 50, 0, 0, 0) := by decide +kernel
theorem xa_M_userOf_48 : xm_at xP 77 48 = some (48, .iload_n 3, 0, 0, 0, 0) := by decide +kernel
theorem xa_M_userOf_49 : xm_at xP 77 49 = some (49, .ireturn, 0, 0, 0, 0) := by decide +kernel
theorem xa_M_userOf_50 : xm_at xP 77 50 = some (50, .iinc 3 1, 0, 0, 0, 0) := by decide +kernel
theorem xa_M_userOf_53 : xm_at xP 77 53 = some (53, .goto (-51), 2, 0, 0, 0) := by decide +kernel
theorem xa_M_userOf_56 : xm_at xP 77 56 = some (56, .iconst (-1), 0, 0, 0, 0) := by decide +kernel
theorem xa_M_userOf_57 : xm_at xP 77 57 = some (57, .ireturn, 0, 0, 0, 0) := by decide +kernel
theorem xa_M_free_0 : xm_at xP 76 0 = some (0, .iconst 0, 0, 0, 0, 0) := by decide +kernel
theorem xa_M_free_1 : xm_at xP 76 1 = some (1, .istore_n 2, 0, 0, 0, 0) := by decide +kernel
theorem xa_M_free_2 : xm_at xP 76 2 = some (2, .iconst 0, 0, 0, 0, 0) := by decide +kernel
theorem xa_M_free_3 : xm_at xP 76 3 = some (3, .istore_n 3, 0, 0, 0, 0) := by decide +kernel
theorem xa_M_free_4 : xm_at xP 76 4 = some (4, .iload_n 3, 0, 0, 0, 0) := by decide +kernel
theorem xa_M_free_5 : xm_at xP 76 5 = some (5, .aload_n 0, 0, 0, 0, 0) := by decide +kernel
theorem xa_M_free_6 : xm_at xP 76 6 = some (6, .getfield 69, 3, 2, 0, 0) := by decide +kernel
theorem xa_M_free_9 : xm_at xP 76 9 = some (9, .if_icmp .ge 46, 55, 0, 0, 0) := by decide +kernel
theorem xa_M_free_12 : xm_at xP 76 12 = some (12, .aload_n 0, 0, 0, 0, 0) := by decide +kernel
theorem xa_M_free_13 : xm_at xP 76 13 = some (13, .getfield 20, 3, 5, 0, 0) := by decide +kernel
theorem xa_M_free_16 : xm_at xP 76 16 = some (16, .iload_n 3, 0, 0, 0, 0) := by decide +kernel
theorem xa_M_free_17 : xm_at xP 76 17 = some (17, .baload, 0, 0, 0, 0) := by decide +kernel
theorem xa_M_free_18 : xm_at xP 76 18 = some (18, .ifCond .ne 29, 47, 0, 0, 0) := by decide +kernel
theorem xa_M_free_21 : xm_at xP 76 21 = some (21, .aload_n 0, 0, 0, 0, 0) := by decide +kernel
theorem xa_M_free_22 : xm_at xP 76 22 = some (22, .getfield 24, 3, 6, 0, 0) := by decide +kernel
theorem xa_M_free_25 : xm_at xP 76 25 = some (25, .iload_n 3, 0, 0, 0, 0) := by decide +kernel
theorem xa_M_free_26 : xm_at xP 76 26 = some (26, .baload, 0, 0, 0, 0) := by decide +kernel
theorem xa_M_free_27 : xm_at xP 76 27 = some (27, .ifCond .ne 20, 47, 0, 0, 0) := by decide +kernel
theorem xa_M_free_30 : xm_at xP 76 30 = some (30, .aload_n 0, 0, 0, 0, 0) := by decide +kernel
theorem xa_M_free_31 : xm_at xP 76 31 = some (31, .iload_n 3, 0, 0, 0, 0) := by decide +kernel
theorem xa_M_free_32 : xm_at xP 76 32 = some (32, .iload_n 1, 0, 0, 0, 0) := by decide +kernel
theorem xa_M_free_33 : xm_at xP 76 33 = some (33, .invokevirtual 83, 77, 3, 3, 0) := by decide +kernel
theorem xa_M_free_36 : xm_at xP 76 36 = some (36, .ifCond .ge 11, 47, 0, 0, 0) := by decide +kernel
theorem xa_M_free_39 : xm_at xP 76 39 = some (39, .iload_n 2, 0, 0, 0, 0) := by decide +kernel
theorem xa_M_free_40 : xm_at xP 76 40 = some (40, .iconst 1, 0, 0, 0, 0) := by decide +kernel
theorem xa_M_free_41 : xm_at xP 76 41 = some (41, .iload_n 3, 0, 0, 0, 0) := by decide +kernel
theorem xa_M_free_42 : xm_at xP 76 42 = some (42, .ishl, 0, 0, 0, 0) := by decide +kernel
theorem xa_M_free_43 : xm_at xP 76 43 = some (43, .ior, 0, 0, 0, 0) := by decide +kernel
theorem xa_M_free_44 : xm_at xP 76 44 = some (44, .goto 4, 48, 0, 0, 0) := by decide +kernel
theorem xa_M_free_47 : xm_at xP 76 47 = some (47, .iload_n 2, 0, 0, 0, 0) := by decide +kernel
theorem xa_M_free_48 : xm_at xP 76 48 = some (48, .istore_n 2, 0, 0, 0, 0) := by decide +kernel
theorem xa_M_free_49 : xm_at xP 76 49 = some (49, .iinc 3 1, 0, 0, 0, 0) := by decide +kernel
theorem xa_M_free_52 : xm_at xP 76 52 = some (52, .goto (-48), 4, 0, 0, 0) := by decide +kernel
theorem xa_M_free_55 : xm_at xP 76 55 = some (55, .iload_n 2, 0, 0, 0, 0) := by decide +kernel
theorem xa_M_free_56 : xm_at xP 76 56 = some (56, .ireturn, 0, 0, 0, 0) := by decide +kernel
theorem xa_M_leads_0 : xm_at xP 82 0 = some (0, .iload_n 1, 0, 0, 0, 0) := by decide +kernel
theorem xa_M_leads_1 : xm_at xP 82 1 = some (1, .iload_n 2, 0, 0, 0, 0) := by decide +kernel
theorem xa_M_leads_2 : xm_at xP 82 2 = some (2, .invokestatic 72, 78, 2, 0, 0) := by decide +kernel
theorem xa_M_leads_5 : xm_at xP 82 5 = some (5, .ifCond .ne 5, 10, 0, 0, 0) := by decide +kernel
theorem xa_M_leads_8 : xm_at xP 82 8 = some (8, .iconst (-1), 0, 0, 0, 0) := by decide +kernel
theorem xa_M_leads_9 : xm_at xP 82 9 = some (9, .ireturn, 0, 0, 0, 0) := by decide +kernel
theorem xa_M_leads_10 : xm_at xP 82 10 = some (10, .aload_n 0, 0, 0, 0, 0) := by decide +kernel
theorem xa_M_leads_11 : xm_at xP 82 11 = some (11, .getfield 60, 3, 20, 0, 0) := by decide +kernel
theorem xa_M_leads_14 : xm_at xP 82 14 = some (14, .iload_n 3, 0, 0, 0, 0) := by decide +kernel
theorem xa_M_leads_15 : xm_at xP 82 15 = some (15, .iaload, 0, 0, 0, 0) := by decide +kernel
theorem xa_M_leads_16 : xm_at xP 82 16 = some (16, .istore 4, 0, 0, 0, 0) := by decide +kernel
theorem xa_M_leads_18 : xm_at xP 82 18 = some (18, .aload_n 0, 0, 0, 0, 0) := by decide +kernel
theorem xa_M_leads_19 : xm_at xP 82 19 = some (19, .getfield 13, 3, 3, 0, 0) := by decide +kernel
theorem xa_M_leads_22 : xm_at xP 82 22 = some (22, .iconst 2, 0, 0, 0, 0) := by decide +kernel
theorem xa_M_leads_23 : xm_at xP 82 23 = some (23, .iload_n 2, 0, 0, 0, 0) := by decide +kernel
theorem xa_M_leads_24 : xm_at xP 82 24 = some (24, .imul, 0, 0, 0, 0) := by decide +kernel
theorem xa_M_leads_25 : xm_at xP 82 25 = some (25, .iaload, 0, 0, 0, 0) := by decide +kernel
theorem xa_M_leads_26 : xm_at xP 82 26 = some (26, .iload 4, 0, 0, 0, 0) := by decide +kernel
theorem xa_M_leads_28 : xm_at xP 82 28 = some (28, .if_icmp .eq 20, 48, 0, 0, 0) := by decide +kernel
theorem xa_M_leads_31 : xm_at xP 82 31 = some (31, .aload_n 0, 0, 0, 0, 0) := by decide +kernel
theorem xa_M_leads_32 : xm_at xP 82 32 = some (32, .getfield 13, 3, 3, 0, 0) := by decide +kernel
theorem xa_M_leads_35 : xm_at xP 82 35 = some (35, .iconst 2, 0, 0, 0, 0) := by decide +kernel
theorem xa_M_leads_36 : xm_at xP 82 36 = some (36, .iload_n 2, 0, 0, 0, 0) := by decide +kernel
theorem xa_M_leads_37 : xm_at xP 82 37 = some (37, .imul, 0, 0, 0, 0) := by decide +kernel
theorem xa_M_leads_38 : xm_at xP 82 38 = some (38, .iconst 1, 0, 0, 0, 0) := by decide +kernel
theorem xa_M_leads_39 : xm_at xP 82 39 = some (39, .iadd, 0, 0, 0, 0) := by decide +kernel
theorem xa_M_leads_40 : xm_at xP 82 40 = some (40, .iaload, 0, 0, 0, 0) := by decide +kernel
theorem xa_M_leads_41 : xm_at xP 82 41 = some (41, .iload 4, 0, 0, 0, 0) := by decide +kernel
theorem xa_M_leads_43 : xm_at xP 82 43 = some (43, .if_icmp .eq 5, 48, 0, 0, 0) := by decide +kernel
theorem xa_M_leads_46 : xm_at xP 82 46 = some (46, .iconst (-1), 0, 0, 0, 0) := by decide +kernel
theorem xa_M_leads_47 : xm_at xP 82 47 = some (47, .ireturn, 0, 0, 0, 0) := by decide +kernel
theorem xa_M_leads_48 : xm_at xP 82 48 = some (48, .aload_n 0, 0, 0, 0, 0) := by decide +kernel
theorem xa_M_leads_49 : xm_at xP 82 49 = some (49, .getfield 13, 3, 3, 0, 0) := by decide +kernel
theorem xa_M_leads_52 : xm_at xP 82 52 = some (52, .iconst 2, 0, 0, 0, 0) := by decide +kernel
theorem xa_M_leads_53 : xm_at xP 82 53 = some (53, .iload_n 2, 0, 0, 0, 0) := by decide +kernel
theorem xa_M_leads_54 : xm_at xP 82 54 = some (54, .imul, 0, 0, 0, 0) := by decide +kernel
theorem xa_M_leads_55 : xm_at xP 82 55 = some (55, .iaload, 0, 0, 0, 0) := by decide +kernel
theorem xa_M_leads_56 : xm_at xP 82 56 = some (56, .iload 4, 0, 0, 0, 0) := by decide +kernel
theorem xa_M_leads_58 : xm_at xP 82 58 = some (58, .if_icmp .ne 16, 74, 0, 0, 0) := by decide +kernel
theorem xa_M_leads_61 : xm_at xP 82 61 = some (61, .aload_n 0, 0, 0, 0, 0) := by decide +kernel
theorem xa_M_leads_62 : xm_at xP 82 62 = some (62, .getfield 13, 3, 3, 0, 0) := by decide +kernel
theorem xa_M_leads_65 : xm_at xP 82 65 = some (65, .iconst 2, 0, 0, 0, 0) := by decide +kernel
theorem xa_M_leads_66 : xm_at xP 82 66 = some (66, .iload_n 2, 0, 0, 0, 0) := by decide +kernel
theorem xa_M_leads_67 : xm_at xP 82 67 = some (67, .imul, 0, 0, 0, 0) := by decide +kernel
theorem xa_M_leads_68 : xm_at xP 82 68 = some (68, .iconst 1, 0, 0, 0, 0) := by decide +kernel
theorem xa_M_leads_69 : xm_at xP 82 69 = some (69, .iadd, 0, 0, 0, 0) := by decide +kernel
theorem xa_M_leads_70 : xm_at xP 82 70 = some (70, .iaload, 0, 0, 0, 0) := by decide +kernel
theorem xa_M_leads_71 : xm_at xP 82 71 = some (71, .goto 11, 82, 0, 0, 0) := by decide +kernel
theorem xa_M_leads_74 : xm_at xP 82 74 = some (74, .aload_n 0, 0, 0, 0, 0) := by decide +kernel
theorem xa_M_leads_75 : xm_at xP 82 75 = some (75, .getfield 13, 3, 3, 0, 0) := by decide +kernel
theorem xa_M_leads_78 : xm_at xP 82 78 = some (78, .iconst 2, 0, 0, 0, 0) := by decide +kernel
theorem xa_M_leads_79 : xm_at xP 82 79 = some (79, .iload_n 2, 0, 0, 0, 0) := by decide +kernel
theorem xa_M_leads_80 : xm_at xP 82 80 = some (80, .imul, 0, 0, 0, 0) := by decide +kernel
theorem xa_M_leads_81 : xm_at xP 82 81 = some (81, .iaload, 0, 0, 0, 0) := by decide +kernel
theorem xa_M_leads_82 : xm_at xP 82 82 = some (82, .istore 5, 0, 0, 0, 0) := by decide +kernel
theorem xa_M_leads_84 : xm_at xP 82 84 = some (84, .iconst 0, 0, 0, 0, 0) := by decide +kernel
theorem xa_M_leads_85 : xm_at xP 82 85 = some (85, .istore 6, 0, 0, 0, 0) := by decide +kernel
theorem xa_M_leads_87 : xm_at xP 82 87 = some (87, .iload 6, 0, 0, 0, 0) := by decide +kernel
theorem xa_M_leads_89 : xm_at xP 82 89 = some (89, .iload_n 3, 0, 0, 0, 0) := by decide +kernel
theorem xa_M_leads_90 : xm_at xP 82 90 = some (90, .if_icmp .gt 23, 113, 0, 0, 0) := by decide +kernel
theorem xa_M_leads_93 : xm_at xP 82 93 = some (93, .aload_n 0, 0, 0, 0, 0) := by decide +kernel
theorem xa_M_leads_94 : xm_at xP 82 94 = some (94, .getfield 60, 3, 20, 0, 0) := by decide +kernel
theorem xa_M_leads_97 : xm_at xP 82 97 = some (97, .iload 6, 0, 0, 0, 0) := by decide +kernel
theorem xa_M_leads_99 : xm_at xP 82 99 = some (99, .iaload, 0, 0, 0, 0) := by decide +kernel
theorem xa_M_leads_100 : xm_at xP 82 100 = some (100, .iload 5, 0, 0, 0, 0) := by decide +kernel
theorem xa_M_leads_102 : xm_at xP 82 102 = some (102, .if_icmp .ne 5, 107, 0, 0, 0) := by decide +kernel
theorem xa_M_leads_105 : xm_at xP 82 105 = some (105, .iconst (-1), 0, 0, 0, 0) := by decide +kernel
theorem xa_M_leads_106 : xm_at xP 82 106 = some (106, .ireturn, 0, 0, 0, 0) := by decide +kernel
theorem xa_M_leads_107 : xm_at xP 82 107 = some (107, .iinc 6 1, 0, 0, 0, 0) := by decide +kernel
theorem xa_M_leads_110 : xm_at xP 82 110 = some (110, .goto (-23), 87, 0, 0, 0) := by decide +kernel
theorem xa_M_leads_113 : xm_at xP 82 113 = some (113, .iload 5, 0, 0, 0, 0) := by decide +kernel
theorem xa_M_leads_115 : xm_at xP 82 115 = some (115, .ireturn, 0, 0, 0, 0) := by decide +kernel
theorem xa_M_unused_0 : xm_at xP 74 0 = some (0, .iconst 0, 0, 0, 0, 0) := by decide +kernel
theorem xa_M_unused_1 : xm_at xP 74 1 = some (1, .istore_n 1, 0, 0, 0, 0) := by decide +kernel
theorem xa_M_unused_2 : xm_at xP 74 2 = some (2, .iload_n 1, 0, 0, 0, 0) := by decide +kernel
theorem xa_M_unused_3 : xm_at xP 74 3 = some (3, .bipush 12, 0, 0, 0, 0) := by decide +kernel
theorem xa_M_unused_5 : xm_at xP 74 5 = some (5, .if_icmp .ge 20, 25, 0, 0, 0) := by decide +kernel
theorem xa_M_unused_8 : xm_at xP 74 8 = some (8, .aload_n 0, 0, 0, 0, 0) := by decide +kernel
theorem xa_M_unused_9 : xm_at xP 74 9 = some (9, .getfield 27, 3, 8, 0, 0) := by decide +kernel
theorem xa_M_unused_12 : xm_at xP 74 12 = some (12, .iload_n 1, 0, 0, 0, 0) := by decide +kernel
theorem xa_M_unused_13 : xm_at xP 74 13 = some (13, .baload, 0, 0, 0, 0) := by decide +kernel
theorem xa_M_unused_14 : xm_at xP 74 14 = some (14, .ifCond .ne 5, 19, 0, 0, 0) := by decide +kernel
theorem xa_M_unused_17 : xm_at xP 74 17 = some (17, .iload_n 1, 0, 0, 0, 0) := by decide +kernel
theorem xa_M_unused_18 : xm_at xP 74 18 = some (18, .ireturn, 0, 0, 0, 0) := by decide +kernel
theorem xa_M_unused_19 : xm_at xP 74 19 = some (19, .iinc 1 1, 0, 0, 0, 0) := by decide +kernel
theorem xa_M_unused_22 : xm_at xP 74 22 = some (22, .goto (-20), 2, 0, 0, 0) := by decide +kernel
theorem xa_M_unused_25 : xm_at xP 74 25 = some (25, .bipush 12, 0, 0, 0, 0) := by decide +kernel
theorem xa_M_unused_27 : xm_at xP 74 27 = some (27, .ireturn, 0, 0, 0, 0) := by decide +kernel
theorem xa_M_whole_0 : xm_at xP 92 0 = some (0, .iload_n 1, 0, 0, 0, 0) := by decide +kernel
theorem xa_M_whole_1 : xm_at xP 92 1 = some (1, .ifCond .eq 7, 8, 0, 0, 0) := by decide +kernel
theorem xa_M_whole_4 : xm_at xP 92 4 = some (4, .iconst 1, 0, 0, 0, 0) := by decide +kernel
theorem xa_M_whole_5 : xm_at xP 92 5 = some (5, .goto 4, 9, 0, 0, 0) := by decide +kernel
theorem xa_M_whole_8 : xm_at xP 92 8 = some (8, .iconst 0, 0, 0, 0, 0) := by decide +kernel
theorem xa_M_whole_9 : xm_at xP 92 9 = some (9, .istore_n 2, 0, 0, 0, 0) := by decide +kernel
theorem xa_M_whole_10 : xm_at xP 92 10 = some (10, .iconst 0, 0, 0, 0, 0) := by decide +kernel
theorem xa_M_whole_11 : xm_at xP 92 11 = some (11, .istore_n 3, 0, 0, 0, 0) := by decide +kernel
theorem xa_M_whole_12 : xm_at xP 92 12 = some (12, .iload_n 3, 0, 0, 0, 0) := by decide +kernel
theorem xa_M_whole_13 : xm_at xP 92 13 = some (13, .aload_n 0, 0, 0, 0, 0) := by decide +kernel
theorem xa_M_whole_14 : xm_at xP 92 14 = some (14, .getfield 69, 3, 2, 0, 0) := by decide +kernel
theorem xa_M_whole_17 : xm_at xP 92 17 = some (17, .if_icmp .ge 37, 54, 0, 0, 0) := by decide +kernel
theorem xa_M_whole_20 : xm_at xP 92 20 = some (20, .iload_n 2, 0, 0, 0, 0) := by decide +kernel
theorem xa_M_whole_21 : xm_at xP 92 21 = some (21, .ifCond .eq 25, 46, 0, 0, 0) := by decide +kernel
theorem xa_M_whole_24 : xm_at xP 92 24 = some (24, .iload_n 1, 0, 0, 0, 0) := by decide +kernel
theorem xa_M_whole_25 : xm_at xP 92 25 = some (25, .iload_n 3, 0, 0, 0, 0) := by decide +kernel
theorem xa_M_whole_26 : xm_at xP 92 26 = some (26, .invokestatic 72, 78, 2, 0, 0) := by decide +kernel
theorem xa_M_whole_29 : xm_at xP 92 29 = some (29, .iconst 1, 0, 0, 0, 0) := by decide +kernel
theorem xa_M_whole_30 : xm_at xP 92 30 = some (30, .if_icmp .ne 12, 42, 0, 0, 0) := by decide +kernel
theorem xa_M_whole_33 : xm_at xP 92 33 = some (33, .aload_n 0, 0, 0, 0, 0) := by decide +kernel
theorem xa_M_whole_34 : xm_at xP 92 34 = some (34, .getfield 20, 3, 5, 0, 0) := by decide +kernel
theorem xa_M_whole_37 : xm_at xP 92 37 = some (37, .iload_n 3, 0, 0, 0, 0) := by decide +kernel
theorem xa_M_whole_38 : xm_at xP 92 38 = some (38, .baload, 0, 0, 0, 0) := by decide +kernel
theorem xa_M_whole_39 : xm_at xP 92 39 = some (39, .ifCond .ne 7, 46, 0, 0, 0) := by decide +kernel
theorem xa_M_whole_42 : xm_at xP 92 42 = some (42, .iconst 1, 0, 0, 0, 0) := by decide +kernel
theorem xa_M_whole_43 : xm_at xP 92 43 = some (43, .goto 4, 47, 0, 0, 0) := by decide +kernel
theorem xa_M_whole_46 : xm_at xP 92 46 = some (46, .iconst 0, 0, 0, 0, 0) := by decide +kernel
theorem xa_M_whole_47 : xm_at xP 92 47 = some (47, .istore_n 2, 0, 0, 0, 0) := by decide +kernel
theorem xa_M_whole_48 : xm_at xP 92 48 = some (48, .iinc 3 1, 0, 0, 0, 0) := by decide +kernel
theorem xa_M_whole_51 : xm_at xP 92 51 = some (51, .goto (-39), 12, 0, 0, 0) := by decide +kernel
theorem xa_M_whole_54 : xm_at xP 92 54 = some (54, .iload_n 2, 0, 0, 0, 0) := by decide +kernel
theorem xa_M_whole_55 : xm_at xP 92 55 = some (55, .ireturn, 0, 0, 0, 1) := by decide +kernel
section XM2
variable {xs : Nat → Int32} {LS d : Nat} {h : List va_E} {ks : Nat} {fl : Bool} {Q : (Option Value ⊕ Nat) → xm_S → Prop}
variable {Mc : Int32} {Mn : Nat} {Mm : Nat} {Mh : Int32} {Mp : Nat} {Mfw : Int32} {Mfs : Int32} {Me : Nat → Nat} {Ml : Nat → Nat} {Mbr : Nat → Bool} {Mlk : Nat → Bool} {Mt : Nat → Bool} {Mg : Nat → Bool} {Ma : Nat → Nat} {Mb : Nat → Nat} {Mw : Nat → Nat} {Mwk : Nat → Int32} {Msp : Nat → Int32} {Mon : Nat → Int32} {Mct : Nat → Int32} {MS : Nat → Int32} {MZ : Nat → Int32} {MA : Nat → Nat} {MN : Nat → Nat}
theorem xz1 {b : Bool} (hc : ¬ xz b = 0) : b = true := by
  cases b with
  | true => rfl
  | false => exact absurd rfl hc
theorem c_M_thrown (hM : xMd h Mc Mn Mm Mh Mp Mfw Mfs Me Ml Mbr Mlk Mt Mg Ma Mb Mw Mwk Msp Mon Mct MS MZ MA MN) (k : Q (.inl (some (.int Mc))) (h, ks, fl)) : xG xs LS d 69 (0, xm_entry xP 69 [.ref 22], []) (h, ks, fl) Q := by
  obtain ⟨g22, g23, g24, g25, g26, g27, g28, g29, g30, g31, g32, g33, g34, g35, g36, g37, g38, g39⟩ := id hM
  show xG xs LS d 69 (0, [some (.ref 22)], []) (h, ks, fl) Q
  refine xg_aload_n xa_M_thrown_0 rfl ?_
  refine xg_getfield xa_M_thrown_1 (by assumption) rfl ?_
  refine xg_ireturn xa_M_thrown_4  ?_
  exact k
/-- not under n -/
def xnS (n : Nat) (x : Int32) : Bool := decide (x < 0) || decide (nI n ≤ x)
theorem c_M_noSite {x : Int32} (hM : xMd h Mc Mn Mm Mh Mp Mfw Mfs Me Ml Mbr Mlk Mt Mg Ma Mb Mw Mwk Msp Mon Mct MS MZ MA MN) (k : Q (.inl (some (.int (xz (xnS Mn x))))) (h, ks, fl)) : xG xs LS d 72 (0, xm_entry xP 72 [.ref 22, .int x], []) (h, ks, fl) Q := by
  obtain ⟨g22, g23, g24, g25, g26, g27, g28, g29, g30, g31, g32, g33, g34, g35, g36, g37, g38, g39⟩ := id hM
  show xG xs LS d 72 (0, [some (.ref 22), some (.int x)], []) (h, ks, fl) Q
  unfold xnS at k
  have le : ¬ x < nI Mn → nI Mn ≤ x := fun q => Int32.not_lt.mp q
  have nl : x < nI Mn → ¬ nI Mn ≤ x := fun q => Int32.not_le.mpr q
  refine xg_iload_n xa_M_noSite_0 rfl ?_
  refine xg_if_lt xa_M_noSite_1 (fun c1 => ?_) (fun c1 => ?_)
  · rw [decide_eq_true c1] at k
    refine xg_iconst (v := 1) xa_M_noSite_12 (by decide) ?_
    refine xg_goto xa_M_noSite_13 ?_
    refine xg_zreturn xa_M_noSite_17 (Or.inr rfl) ?_
    exact k
  · rw [decide_eq_false c1] at k
    refine xg_iload_n xa_M_noSite_4 rfl ?_
    refine xg_aload_n xa_M_noSite_5 rfl ?_
    refine xg_getfield xa_M_noSite_6 (by assumption) rfl ?_
    refine xg_icmp_lt xa_M_noSite_9 (fun c9 => ?_) (fun c9 => ?_)
    · rw [decide_eq_false (nl c9)] at k
      refine xg_iconst (v := 0) xa_M_noSite_16 (by decide) ?_
      refine xg_zreturn xa_M_noSite_17 (Or.inl rfl) ?_
      exact k
    · rw [decide_eq_true (le c9)] at k
      refine xg_iconst (v := 1) xa_M_noSite_12 (by decide) ?_
      refine xg_goto xa_M_noSite_13 ?_
      refine xg_zreturn xa_M_noSite_17 (Or.inr rfl) ?_
      exact k
theorem c_M_noFibre {x : Int32} (hM : xMd h Mc Mn Mm Mh Mp Mfw Mfs Me Ml Mbr Mlk Mt Mg Ma Mb Mw Mwk Msp Mon Mct MS MZ MA MN) (k : Q (.inl (some (.int (xz (xnS Mm x))))) (h, ks, fl)) : xG xs LS d 89 (0, xm_entry xP 89 [.ref 22, .int x], []) (h, ks, fl) Q := by
  obtain ⟨g22, g23, g24, g25, g26, g27, g28, g29, g30, g31, g32, g33, g34, g35, g36, g37, g38, g39⟩ := id hM
  show xG xs LS d 89 (0, [some (.ref 22), some (.int x)], []) (h, ks, fl) Q
  unfold xnS at k
  have le : ¬ x < nI Mm → nI Mm ≤ x := fun q => Int32.not_lt.mp q
  have nl : x < nI Mm → ¬ nI Mm ≤ x := fun q => Int32.not_le.mpr q
  refine xg_iload_n xa_M_noFibre_0 rfl ?_
  refine xg_if_lt xa_M_noFibre_1 (fun c1 => ?_) (fun c1 => ?_)
  · rw [decide_eq_true c1] at k
    refine xg_iconst (v := 1) xa_M_noFibre_12 (by decide) ?_
    refine xg_goto xa_M_noFibre_13 ?_
    refine xg_zreturn xa_M_noFibre_17 (Or.inr rfl) ?_
    exact k
  · rw [decide_eq_false c1] at k
    refine xg_iload_n xa_M_noFibre_4 rfl ?_
    refine xg_aload_n xa_M_noFibre_5 rfl ?_
    refine xg_getfield xa_M_noFibre_6 (by assumption) rfl ?_
    refine xg_icmp_lt xa_M_noFibre_9 (fun c9 => ?_) (fun c9 => ?_)
    · rw [decide_eq_false (nl c9)] at k
      refine xg_iconst (v := 0) xa_M_noFibre_16 (by decide) ?_
      refine xg_zreturn xa_M_noFibre_17 (Or.inl rfl) ?_
      exact k
    · rw [decide_eq_true (le c9)] at k
      refine xg_iconst (v := 1) xa_M_noFibre_12 (by decide) ?_
      refine xg_goto xa_M_noFibre_13 ?_
      refine xg_zreturn xa_M_noFibre_17 (Or.inr rfl) ?_
      exact k
/-- no connection of this number -/
def xnC (t : Nat → Bool) (x : Int32) : Bool := decide (x < 0) || decide (11 < x) || !t x.toNatClampNeg
theorem xi_12 {x : Int32} (h1 : ¬ x < 0) (h2 : ¬ 11 < x) : ∃ j, j < 12 ∧ x = nI j := by
  obtain ⟨j, hj, e⟩ := nI_of2 (M := 11) (n := 11) (by decide) h1 (Int32.not_lt.mp h2)
  exact ⟨j, by omega, e⟩
theorem c_M_noConnection {x : Int32} (hM : xMd h Mc Mn Mm Mh Mp Mfw Mfs Me Ml Mbr Mlk Mt Mg Ma Mb Mw Mwk Msp Mon Mct MS MZ MA MN) (k : Q (.inl (some (.int (xz (xnC Mt x))))) (h, ks, fl)) : xG xs LS d 87 (0, xm_entry xP 87 [.ref 22, .int x], []) (h, ks, fl) Q := by
  obtain ⟨g22, g23, g24, g25, g26, g27, g28, g29, g30, g31, g32, g33, g34, g35, g36, g37, g38, g39⟩ := id hM
  show xG xs LS d 87 (0, [some (.ref 22), some (.int x)], []) (h, ks, fl) Q
  unfold xnC at k
  refine xg_iload_n xa_M_noConnection_0 rfl ?_
  refine xg_if_lt xa_M_noConnection_1 (fun c1 => ?_) (fun c1 => ?_)
  · rw [decide_eq_true c1] at k
    refine xg_iconst (v := 1) xa_M_noConnection_19 (by decide) ?_
    refine xg_goto xa_M_noConnection_20 ?_
    refine xg_zreturn xa_M_noConnection_24 (Or.inr rfl) ?_
    exact k
  · rw [decide_eq_false c1] at k
    refine xg_iload_n xa_M_noConnection_4 rfl ?_
    refine xg_bipush (v := 11) xa_M_noConnection_5 (by decide) ?_
    refine xg_icmp_gt xa_M_noConnection_7 (fun c7 => ?_) (fun c7 => ?_)
    · rw [decide_eq_true c7] at k
      refine xg_iconst (v := 1) xa_M_noConnection_19 (by decide) ?_
      refine xg_goto xa_M_noConnection_20 ?_
      refine xg_zreturn xa_M_noConnection_24 (Or.inr rfl) ?_
      exact k
    · rw [decide_eq_false c7] at k
      obtain ⟨j, hj, rfl⟩ := xi_12 c1 c7
      rw [nI_clamp (by omega)] at k
      refine xg_aload_n xa_M_noConnection_10 rfl ?_
      refine xg_getfield xa_M_noConnection_11 (by assumption) rfl ?_
      refine xg_iload_n xa_M_noConnection_14 rfl ?_
      refine xg_zald_n xa_M_noConnection_15 (by assumption) rfl (by assumption) (by decide) ?_
      refine xg_if_ne xa_M_noConnection_16 (fun c16 => ?_) (fun c16 => ?_)
      · rw [xz1 c16] at k
        refine xg_iconst (v := 0) xa_M_noConnection_23 (by decide) ?_
        refine xg_zreturn xa_M_noConnection_24 (Or.inl rfl) ?_
        exact k
      · rw [(xz0 _).mp c16] at k
        refine xg_iconst (v := 1) xa_M_noConnection_19 (by decide) ?_
        refine xg_goto xa_M_noConnection_20 ?_
        refine xg_zreturn xa_M_noConnection_24 (Or.inr rfl) ?_
        exact k
theorem c_M_bit {s : Int32} {f : Nat} (hf : f < 32) (k : Q (.inl (some (.int (xz (xb s f))))) (h, ks, fl)) : xG xs LS d 78 (0, xm_entry xP 78 [.int s, .int (nI f)], []) (h, ks, fl) Q := by
  show xG xs LS d 78 (0, [some (.int s), some (.int (nI f))], []) (h, ks, fl) Q
  refine xg_iload_n xa_M_bit_0 rfl ?_
  refine xg_iload_n xa_M_bit_1 rfl ?_
  refine xg_ishr xa_M_bit_2 rfl ?_
  refine xg_iconst (v := 1) xa_M_bit_3 (by decide) ?_
  refine xg_iand xa_M_bit_4 (xb_shr1 s hf) ?_
  refine xg_ireturn xa_M_bit_5  ?_
  exact k
theorem xlen_s (ln : Nat → Int32) (s : Int32) (i : Nat) : xlen ln s i + xz (xb s i) * ln i = xlen ln s (i + 1) := by
  show _ = if xb s i = true then xlen ln s i + ln i else xlen ln s i
  cases xb s i
  · show xlen ln s i + 0 * ln i = _
    rw [Int32.zero_mul, Int32.add_zero]
    rfl
  · show xlen ln s i + 1 * ln i = _
    rw [Int32.one_mul]
    rfl
theorem c_M_lengthOf {s : Int32} (hM : xMd h Mc Mn Mm Mh Mp Mfw Mfs Me Ml Mbr Mlk Mt Mg Ma Mb Mw Mwk Msp Mon Mct MS MZ MA MN) (hm : Mm ≤ 14) (k : Q (.inl (some (.int (xlen (fun j => nI (Ml j)) s Mm)))) (h, ks, fl)) : xG xs LS (d + 1) 81 (0, xm_entry xP 81 [.ref 22, .int s], []) (h, ks, fl) Q := by
  obtain ⟨g22, g23, g24, g25, g26, g27, g28, g29, g30, g31, g32, g33, g34, g35, g36, g37, g38, g39⟩ := id hM
  show xG xs LS (d + 1) 81 (0, [some (.ref 22), some (.int s), none, none], []) (h, ks, fl) Q
  have loop : ∀ n i, i + n = Mm → xG xs LS (d + 1) 81 (4, [some (.ref 22), some (.int s), some (.int (xlen (fun j => nI (Ml j)) s i)), some (.int (nI i))], []) (h, ks, fl) Q := by
    intro n
    induction n with
    | zero =>
      intro i hi
      have e : i = Mm := by omega
      subst e
      refine xg_iload_n xa_M_lengthOf_4 rfl ?_
      refine xg_aload_n xa_M_lengthOf_5 rfl ?_
      refine xg_getfield xa_M_lengthOf_6 (by assumption) rfl ?_
      refine xg_icmp_ge xa_M_lengthOf_9 (fun c9 => ?_) (fun c9 => absurd (nI_le (by omega) (by omega)) c9)
      refine xg_iload_n xa_M_lengthOf_33 rfl ?_
      refine xg_ireturn xa_M_lengthOf_34  ?_
      exact k
    | succ n ih =>
      intro i hi
      have hi14 : i < 14 := by omega
      refine xg_iload_n xa_M_lengthOf_4 rfl ?_
      refine xg_aload_n xa_M_lengthOf_5 rfl ?_
      refine xg_getfield xa_M_lengthOf_6 (by assumption) rfl ?_
      refine xg_icmp_ge xa_M_lengthOf_9 (fun c9 => absurd c9 (nI_ge (by omega) (by omega))) (fun c9 => ?_)
      refine xg_iload_n xa_M_lengthOf_12 rfl ?_
      refine xg_iload_n xa_M_lengthOf_13 rfl ?_
      refine xg_iload_n xa_M_lengthOf_14 rfl ?_
      refine xg_callS1 xa_M_lengthOf_15 ⟨Nat.le_of_ble_eq_true rfl, Nat.le_of_ble_eq_true rfl, rfl⟩ rfl rfl ?_
      refine c_M_bit (by omega) ?_
      refine xK1_c ?_
      refine xg_aload_n xa_M_lengthOf_18 rfl ?_
      refine xg_getfield xa_M_lengthOf_19 (by assumption) rfl ?_
      refine xg_iload_n xa_M_lengthOf_22 rfl ?_
      refine xg_iald_n xa_M_lengthOf_23 (by assumption) rfl (by assumption) (by decide) ?_
      refine xg_imul xa_M_lengthOf_24 rfl ?_
      refine xg_iadd xa_M_lengthOf_25 (xlen_s _ _ _) ?_
      refine xg_istore_n (L' := [_, _, _, _]) xa_M_lengthOf_26 (Nat.le_of_ble_eq_true rfl) rfl ?_
      refine xg_iinc (L' := [_, _, _, _]) xa_M_lengthOf_27 rfl (xi_inc _) rfl ?_
      refine xg_goto xa_M_lengthOf_30 ?_
      exact ih (i + 1) (by omega)
  refine xg_iconst (v := 0) xa_M_lengthOf_0 (by decide) ?_
  refine xg_istore_n (L' := [_, _, _, _]) xa_M_lengthOf_1 (Nat.le_of_ble_eq_true rfl) rfl ?_
  refine xg_iconst (v := 0) xa_M_lengthOf_2 (by decide) ?_
  refine xg_istore_n (L' := [_, _, _, _]) xa_M_lengthOf_3 (Nat.le_of_ble_eq_true rfl) rfl ?_
  exact loop Mm 0 (by omega)
/-- the list of x comes before that of y: from fibre f on -/
def xbf0 (x y : Int32) : Nat → Nat → Bool
  | 0, _ => false
  | n + 1, f => if xb x f = xb y f then xbf0 x y n (f + 1) else (xb x f == decide (0 < (if xb x f = true then y else x) >>> (nI f &&& 31)))
def xbef (x y : Int32) : Bool := xbf0 x y 14 0
theorem xz_inj {a b : Bool} : xz a = xz b ↔ a = b := by cases a <;> cases b <;> decide
theorem c_M_before {x y : Int32} (k : Q (.inl (some (.int (xz (xbef x y))))) (h, ks, fl)) : xG xs LS (d + 1) 83 (0, xm_entry xP 83 [.int x, .int y], []) (h, ks, fl) Q := by
  show xG xs LS (d + 1) 83 (0, [some (.int x), some (.int y), none, none, none, none], []) (h, ks, fl) Q
  have loop : ∀ n i, i + n = 14 → Q (.inl (some (.int (xz (xbf0 x y n i))))) (h, ks, fl) → xG xs LS (d + 1) 83 (2, [some (.int x), some (.int y), some (.int (nI i)), none, none, none], []) (h, ks, fl) Q := by
    intro n
    induction n with
    | zero =>
      intro i hi k
      have e : i = 14 := by omega
      subst e
      refine xg_iload_n xa_M_before_2 rfl ?_
      refine xg_bipush (v := 14) xa_M_before_3 (by decide) ?_
      refine xg_icmp_ge xa_M_before_5 (fun c5 => ?_) (fun c5 => absurd (by decide) c5)
      refine xg_iconst (v := 0) xa_M_before_79 (by decide) ?_
      refine xg_zreturn xa_M_before_80 (Or.inl rfl) ?_
      exact k
    | succ n ih =>
      intro i hi k
      unfold xbf0 at k
      have fin : ∀ (fst : Bool) (o : Int32), xb x i = fst → ¬ xb x i = xb y i → (if fst = true then y else x) = o → xG xs LS (d + 1) 83 (47, [some (.int x), some (.int y), some (.int (nI i)), some (.int (xz fst)), some (.int o), none], []) (h, ks, fl) Q := by
        intro fst o hf hne ho
        rw [if_neg hne, hf, ho] at k
        refine xg_iload xa_M_before_47 rfl ?_
        refine xg_iload_n xa_M_before_49 rfl ?_
        refine xg_ishr xa_M_before_50 rfl ?_
        refine xg_if_le xa_M_before_51 (fun c => ?_) (fun c => ?_)
        · rw [decide_eq_false (Int32.not_lt.mpr c)] at k
          refine xg_iconst (v := 0) xa_M_before_58 (by decide) ?_
          refine xg_istore (L' := [_, _, _, _, _, _]) xa_M_before_59 (Nat.le_of_ble_eq_true rfl) rfl ?_
          refine xg_iload_n xa_M_before_61 rfl ?_
          refine xg_iload xa_M_before_62 rfl ?_
          refine xg_icmp_ne xa_M_before_64 (fun c2 => ?_) (fun c2 => ?_)
          · have e : fst = true := by cases fst with
              | true => rfl
              | false => exact absurd rfl c2
            rw [e] at k
            refine xg_iconst (v := 0) xa_M_before_71 (by decide) ?_
            refine xg_zreturn xa_M_before_72 (Or.inl rfl) ?_
            exact k
          · have e : fst = false := xz_inj.mp c2
            rw [e] at k
            refine xg_iconst (v := 1) xa_M_before_67 (by decide) ?_
            refine xg_goto xa_M_before_68 ?_
            refine xg_zreturn xa_M_before_72 (Or.inr rfl) ?_
            exact k
        · rw [decide_eq_true (Int32.not_le.mp c)] at k
          refine xg_iconst (v := 1) xa_M_before_54 (by decide) ?_
          refine xg_goto xa_M_before_55 ?_
          refine xg_istore (L' := [_, _, _, _, _, _]) xa_M_before_59 (Nat.le_of_ble_eq_true rfl) rfl ?_
          refine xg_iload_n xa_M_before_61 rfl ?_
          refine xg_iload xa_M_before_62 rfl ?_
          refine xg_icmp_ne xa_M_before_64 (fun c2 => ?_) (fun c2 => ?_)
          · have e : fst = false := by cases fst with
              | false => rfl
              | true => exact absurd rfl c2
            rw [e] at k
            refine xg_iconst (v := 0) xa_M_before_71 (by decide) ?_
            refine xg_zreturn xa_M_before_72 (Or.inl rfl) ?_
            exact k
          · have e : fst = true := xz_inj.mp c2
            rw [e] at k
            refine xg_iconst (v := 1) xa_M_before_67 (by decide) ?_
            refine xg_goto xa_M_before_68 ?_
            refine xg_zreturn xa_M_before_72 (Or.inr rfl) ?_
            exact k
      refine xg_iload_n xa_M_before_2 rfl ?_
      refine xg_bipush (v := 14) xa_M_before_3 (by decide) ?_
      refine xg_icmp_ge xa_M_before_5 (fun c => absurd c (show ¬ nI 14 ≤ nI i from nI_ge (by omega) (by omega))) (fun _ => ?_)
      refine xg_iload_n xa_M_before_8 rfl ?_
      refine xg_iload_n xa_M_before_9 rfl ?_
      refine xg_callS1 xa_M_before_10 ⟨Nat.le_of_ble_eq_true rfl, Nat.le_of_ble_eq_true rfl, rfl⟩ rfl rfl ?_
      refine c_M_bit (by omega) ?_
      refine xK1_c ?_
      refine xg_iload_n xa_M_before_13 rfl ?_
      refine xg_iload_n xa_M_before_14 rfl ?_
      refine xg_callS1 xa_M_before_15 ⟨Nat.le_of_ble_eq_true rfl, Nat.le_of_ble_eq_true rfl, rfl⟩ rfl rfl ?_
      refine c_M_bit (by omega) ?_
      refine xK1_c ?_
      refine xg_icmp_eq xa_M_before_18 (fun c => ?_) (fun c => ?_)
      · rw [if_pos (xz_inj.mp c)] at k
        refine xg_iinc (L' := [_, _, _, _, _, _]) xa_M_before_73 rfl (xi_inc _) rfl ?_
        refine xg_goto xa_M_before_76 ?_
        exact ih (i + 1) (by omega) k
      · have hne : ¬ xb x i = xb y i := fun q => c (xz_inj.mpr q)
        refine xg_iload_n xa_M_before_21 rfl ?_
        refine xg_iload_n xa_M_before_22 rfl ?_
        refine xg_callS1 xa_M_before_23 ⟨Nat.le_of_ble_eq_true rfl, Nat.le_of_ble_eq_true rfl, rfl⟩ rfl rfl ?_
        refine c_M_bit (by omega) ?_
        refine xK1_c ?_
        refine xg_iconst (v := 1) xa_M_before_26 (by decide) ?_
        refine xg_icmp_ne xa_M_before_27 (fun c2 => ?_) (fun c2 => ?_)
        · have e : xb x i = false := by cases hb : xb x i with
            | false => rfl
            | true => rw [hb] at c2; exact absurd rfl c2
          refine xg_iconst (v := 0) xa_M_before_34 (by decide) ?_
          refine xg_istore_n (L' := [_, _, _, _, _, _]) xa_M_before_35 (Nat.le_of_ble_eq_true rfl) rfl ?_
          refine xg_iload_n xa_M_before_36 rfl ?_
          refine xg_if_eq xa_M_before_37 (fun _ => ?_) (fun c => absurd rfl c)
          refine xg_iload_n xa_M_before_44 rfl ?_
          refine xg_istore (L' := [_, _, _, _, _, _]) xa_M_before_45 (Nat.le_of_ble_eq_true rfl) rfl ?_
          exact fin false x e hne rfl
        · have e : xb x i = true := xz_inj.mp c2
          refine xg_iconst (v := 1) xa_M_before_30 (by decide) ?_
          refine xg_goto xa_M_before_31 ?_
          refine xg_istore_n (L' := [_, _, _, _, _, _]) xa_M_before_35 (Nat.le_of_ble_eq_true rfl) rfl ?_
          refine xg_iload_n xa_M_before_36 rfl ?_
          refine xg_if_eq xa_M_before_37 (fun c => absurd c (by decide)) (fun _ => ?_)
          refine xg_iload_n xa_M_before_40 rfl ?_
          refine xg_goto xa_M_before_41 ?_
          refine xg_istore (L' := [_, _, _, _, _, _]) xa_M_before_45 (Nat.le_of_ble_eq_true rfl) rfl ?_
          exact fin true y e hne rfl
  refine xg_iconst (v := 0) xa_M_before_0 (by decide) ?_
  refine xg_istore_n (L' := [_, _, _, _, _, _]) xa_M_before_1 (Nat.le_of_ble_eq_true rfl) rfl ?_
  exact loop 14 0 (by omega) k
/-- connection c uses fibre f on wavelength w -/
def xus (Mt : Nat → Bool) (Mw : Nat → Nat) (Mwk Msp : Nat → Int32) (f w : Nat) (c : Nat) : Bool := Mt c && decide (nI (Mw c) = nI w) && xb (Mwk c ||| Msp c) f
def xusr (Mt : Nat → Bool) (Mw : Nat → Nat) (Mwk Msp : Nat → Int32) (f w : Nat) : Option Nat := xfst (xus Mt Mw Mwk Msp f w) 12 0
theorem c_M_userOf {f w : Nat} (hM : xMd h Mc Mn Mm Mh Mp Mfw Mfs Me Ml Mbr Mlk Mt Mg Ma Mb Mw Mwk Msp Mon Mct MS MZ MA MN) (hf : f < 14) (k : Q (.inl (some (.int (xo (xusr Mt Mw Mwk Msp f w))))) (h, ks, fl)) : xG xs LS (d + 1) 77 (0, xm_entry xP 77 [.ref 22, .int (nI f), .int (nI w)], []) (h, ks, fl) Q := by
  obtain ⟨g22, g23, g24, g25, g26, g27, g28, g29, g30, g31, g32, g33, g34, g35, g36, g37, g38, g39⟩ := id hM
  show xG xs LS (d + 1) 77 (0, [some (.ref 22), some (.int (nI f)), some (.int (nI w)), none], []) (h, ks, fl) Q
  have loop : ∀ n i, i + n = 12 → Q (.inl (some (.int (xo (xfst (xus Mt Mw Mwk Msp f w) n i))))) (h, ks, fl) → xG xs LS (d + 1) 77 (2, [some (.ref 22), some (.int (nI f)), some (.int (nI w)), some (.int (nI i))], []) (h, ks, fl) Q := by
    intro n
    induction n with
    | zero =>
      intro i hi k
      have e : i = 12 := by omega
      subst e
      refine xg_iload_n xa_M_userOf_2 rfl ?_
      refine xg_bipush (v := 12) xa_M_userOf_3 (by decide) ?_
      refine xg_icmp_ge xa_M_userOf_5 (fun c5 => ?_) (fun c5 => absurd (by decide) c5)
      refine xg_iconst (v := (-1)) xa_M_userOf_56 (by decide) ?_
      refine xg_ireturn xa_M_userOf_57  ?_
      exact k
    | succ n ih =>
      intro i hi k
      have hi12 : i < 12 := by omega
      unfold xfst at k
      have next : xus Mt Mw Mwk Msp f w i = false → xG xs LS (d + 1) 77 (50, [some (.ref 22), some (.int (nI f)), some (.int (nI w)), some (.int (nI i))], []) (h, ks, fl) Q := by
        intro e
        rw [if_neg (by rw [e]; decide)] at k
        refine xg_iinc (L' := [_, _, _, _]) xa_M_userOf_50 rfl (xi_inc _) rfl ?_
        refine xg_goto xa_M_userOf_53 ?_
        exact ih (i + 1) (by omega) k
      refine xg_iload_n xa_M_userOf_2 rfl ?_
      refine xg_bipush (v := 12) xa_M_userOf_3 (by decide) ?_
      refine xg_icmp_ge xa_M_userOf_5 (fun c => absurd c (show ¬ nI 12 ≤ nI i from nI_ge (by omega) (by omega))) (fun _ => ?_)
      refine xg_aload_n xa_M_userOf_8 rfl ?_
      refine xg_getfield xa_M_userOf_9 (by assumption) rfl ?_
      refine xg_iload_n xa_M_userOf_12 rfl ?_
      refine xg_zald_n xa_M_userOf_13 (by assumption) rfl (by assumption) (by decide) ?_
      refine xg_if_eq xa_M_userOf_14 (fun c => next (by unfold xus; rw [(xz0 _).mp c]; rfl)) (fun c14 => ?_)
      refine xg_aload_n xa_M_userOf_17 rfl ?_
      refine xg_getfield xa_M_userOf_18 (by assumption) rfl ?_
      refine xg_iload_n xa_M_userOf_21 rfl ?_
      refine xg_iald_n xa_M_userOf_22 (by assumption) rfl (by assumption) (by decide) ?_
      refine xg_iload_n xa_M_userOf_23 rfl ?_
      refine xg_icmp_ne xa_M_userOf_24 (fun c => next (by unfold xus; rw [decide_eq_false c]; simp)) (fun c24 => ?_)
      refine xg_aload_n xa_M_userOf_27 rfl ?_
      refine xg_getfield xa_M_userOf_28 (by assumption) rfl ?_
      refine xg_iload_n xa_M_userOf_31 rfl ?_
      refine xg_iald_n xa_M_userOf_32 (by assumption) rfl (by assumption) (by decide) ?_
      refine xg_aload_n xa_M_userOf_33 rfl ?_
      refine xg_getfield xa_M_userOf_34 (by assumption) rfl ?_
      refine xg_iload_n xa_M_userOf_37 rfl ?_
      refine xg_iald_n xa_M_userOf_38 (by assumption) rfl (by assumption) (by decide) ?_
      refine xg_ior xa_M_userOf_39 rfl ?_
      refine xg_iload_n xa_M_userOf_40 rfl ?_
      refine xg_callS1 xa_M_userOf_41 ⟨Nat.le_of_ble_eq_true rfl, Nat.le_of_ble_eq_true rfl, rfl⟩ rfl rfl ?_
      refine c_M_bit (by omega) ?_
      refine xK1_c ?_
      refine xg_iconst (v := 1) xa_M_userOf_44 (by decide) ?_
      refine xg_icmp_ne xa_M_userOf_45 (fun c => next ?_) (fun c45 => ?_)
      · unfold xus
        cases hb : xb (Mwk i ||| Msp i) f with
        | false => simp
        | true => rw [hb] at c; exact absurd rfl c
      · have e : xus Mt Mw Mwk Msp f w i = true := by
          unfold xus
          rw [xz1 c14, decide_eq_true c24, show xb (Mwk i ||| Msp i) f = true from xz_inj.mp c45]
          rfl
        rw [if_pos e] at k
        refine xg_iload_n xa_M_userOf_48 rfl ?_
        refine xg_ireturn xa_M_userOf_49  ?_
        exact k
  refine xg_iconst (v := 0) xa_M_userOf_0 (by decide) ?_
  refine xg_istore_n (L' := [_, _, _, _]) xa_M_userOf_1 (Nat.le_of_ble_eq_true rfl) rfl ?_
  exact loop 12 0 (by omega) k
/-- the free ones of the first fibres -/
def xfre (Mbr Mlk Mt : Nat → Bool) (Mw : Nat → Nat) (Mwk Msp : Nat → Int32) (w : Nat) : Nat → Int32
  | 0 => 0
  | f + 1 => if Mbr f = false ∧ Mlk f = false ∧ xusr Mt Mw Mwk Msp f w = none then xfre Mbr Mlk Mt Mw Mwk Msp w f ||| xbt f else xfre Mbr Mlk Mt Mw Mwk Msp w f
theorem c_M_free {w : Nat} (hM : xMd h Mc Mn Mm Mh Mp Mfw Mfs Me Ml Mbr Mlk Mt Mg Ma Mb Mw Mwk Msp Mon Mct MS MZ MA MN) (hm : Mm ≤ 14) (k : Q (.inl (some (.int (xfre Mbr Mlk Mt Mw Mwk Msp w Mm)))) (h, ks, fl)) : xG xs LS (d + 2) 76 (0, xm_entry xP 76 [.ref 22, .int (nI w)], []) (h, ks, fl) Q := by
  obtain ⟨g22, g23, g24, g25, g26, g27, g28, g29, g30, g31, g32, g33, g34, g35, g36, g37, g38, g39⟩ := id hM
  show xG xs LS (d + 2) 76 (0, [some (.ref 22), some (.int (nI w)), none, none], []) (h, ks, fl) Q
  have loop : ∀ n i, i + n = Mm → xG xs LS (d + 2) 76 (4, [some (.ref 22), some (.int (nI w)), some (.int (xfre Mbr Mlk Mt Mw Mwk Msp w i)), some (.int (nI i))], []) (h, ks, fl) Q := by
    intro n
    induction n with
    | zero =>
      intro i hi
      have e : i = Mm := by omega
      subst e
      refine xg_iload_n xa_M_free_4 rfl ?_
      refine xg_aload_n xa_M_free_5 rfl ?_
      refine xg_getfield xa_M_free_6 (by assumption) rfl ?_
      refine xg_icmp_ge xa_M_free_9 (fun c9 => ?_) (fun c9 => absurd (nI_le (by omega) (by omega)) c9)
      refine xg_iload_n xa_M_free_55 rfl ?_
      refine xg_ireturn xa_M_free_56  ?_
      exact k
    | succ n ih =>
      intro i hi
      have hi14 : i < 14 := by omega
      have next : ∀ v, v = xfre Mbr Mlk Mt Mw Mwk Msp w (i + 1) → xG xs LS (d + 2) 76 (48, [some (.ref 22), some (.int (nI w)), some (.int (xfre Mbr Mlk Mt Mw Mwk Msp w i)), some (.int (nI i))], [.int v]) (h, ks, fl) Q := by
        intro v e
        subst e
        refine xg_istore_n (L' := [_, _, _, _]) xa_M_free_48 (Nat.le_of_ble_eq_true rfl) rfl ?_
        refine xg_iinc (L' := [_, _, _, _]) xa_M_free_49 rfl (xi_inc _) rfl ?_
        refine xg_goto xa_M_free_52 ?_
        exact ih (i + 1) (by omega)
      have no : ¬ (Mbr i = false ∧ Mlk i = false ∧ xusr Mt Mw Mwk Msp i w = none) → xG xs LS (d + 2) 76 (47, [some (.ref 22), some (.int (nI w)), some (.int (xfre Mbr Mlk Mt Mw Mwk Msp w i)), some (.int (nI i))], []) (h, ks, fl) Q := by
        intro e
        refine xg_iload_n xa_M_free_47 rfl ?_
        refine next _ ?_
        show _ = if _ then _ else _
        rw [if_neg e]
      refine xg_iload_n xa_M_free_4 rfl ?_
      refine xg_aload_n xa_M_free_5 rfl ?_
      refine xg_getfield xa_M_free_6 (by assumption) rfl ?_
      refine xg_icmp_ge xa_M_free_9 (fun c => absurd c (nI_ge (by omega) (by omega))) (fun _ => ?_)
      refine xg_aload_n xa_M_free_12 rfl ?_
      refine xg_getfield xa_M_free_13 (by assumption) rfl ?_
      refine xg_iload_n xa_M_free_16 rfl ?_
      refine xg_zald_n xa_M_free_17 (by assumption) rfl (by assumption) (by decide) ?_
      refine xg_if_ne xa_M_free_18 (fun c => no (fun q => c ((xz0 _).mpr q.1))) (fun c18 => ?_)
      refine xg_aload_n xa_M_free_21 rfl ?_
      refine xg_getfield xa_M_free_22 (by assumption) rfl ?_
      refine xg_iload_n xa_M_free_25 rfl ?_
      refine xg_zald_n xa_M_free_26 (by assumption) rfl (by assumption) (by decide) ?_
      refine xg_if_ne xa_M_free_27 (fun c => no (fun q => c ((xz0 _).mpr q.2.1))) (fun c27 => ?_)
      refine xg_aload_n xa_M_free_30 rfl ?_
      refine xg_iload_n xa_M_free_31 rfl ?_
      refine xg_iload_n xa_M_free_32 rfl ?_
      refine xg_callV1 xa_M_free_33 ⟨Nat.le_of_ble_eq_true rfl, Nat.le_of_ble_eq_true rfl, rfl⟩ rfl rfl (by assumption) ?_
      refine c_M_userOf hM hi14 ?_
      refine xK1_c ?_
      refine xg_if_ge xa_M_free_36 (fun c => no (fun q => ?_)) (fun c36 => ?_)
      · rw [q.2.2] at c
        exact absurd c (by decide)
      · have e : xusr Mt Mw Mwk Msp i w = none := by
          cases hu : xusr Mt Mw Mwk Msp i w with
          | none => rfl
          | some c =>
            rw [hu] at c36
            have hb := (xfst_spec _ _ _ hu).2.1
            exact absurd (nI_pos' (by omega)) c36
        refine xg_iload_n xa_M_free_39 rfl ?_
        refine xg_iconst (v := 1) xa_M_free_40 (by decide) ?_
        refine xg_iload_n xa_M_free_41 rfl ?_
        refine xg_ishl xa_M_free_42 rfl ?_
        refine xg_ior xa_M_free_43 rfl ?_
        refine xg_goto xa_M_free_44 ?_
        refine next _ ?_
        show _ = if _ then _ else _
        rw [if_pos ⟨(xz0 _).mp c18, (xz0 _).mp c27, e⟩]
        rfl
  refine xg_iconst (v := 0) xa_M_free_0 (by decide) ?_
  refine xg_istore_n (L' := [_, _, _, _]) xa_M_free_1 (Nat.le_of_ble_eq_true rfl) rfl ?_
  refine xg_iconst (v := 0) xa_M_free_2 (by decide) ?_
  refine xg_istore_n (L' := [_, _, _, _]) xa_M_free_3 (Nat.le_of_ble_eq_true rfl) rfl ?_
  exact loop Mm 0 (by omega)
/-- the first place that is not there -/
def xunu (t : Nat → Bool) : Nat → Nat → Nat
  | 0, i => i
  | n + 1, i => if t i = true then xunu t n (i + 1) else i
theorem c_M_unused (hM : xMd h Mc Mn Mm Mh Mp Mfw Mfs Me Ml Mbr Mlk Mt Mg Ma Mb Mw Mwk Msp Mon Mct MS MZ MA MN) (k : Q (.inl (some (.int (nI (xunu Mt 12 0))))) (h, ks, fl)) : xG xs LS d 74 (0, xm_entry xP 74 [.ref 22], []) (h, ks, fl) Q := by
  obtain ⟨g22, g23, g24, g25, g26, g27, g28, g29, g30, g31, g32, g33, g34, g35, g36, g37, g38, g39⟩ := id hM
  show xG xs LS d 74 (0, [some (.ref 22), none], []) (h, ks, fl) Q
  have loop : ∀ n i, i + n = 12 → Q (.inl (some (.int (nI (xunu Mt n i))))) (h, ks, fl) → xG xs LS d 74 (2, [some (.ref 22), some (.int (nI i))], []) (h, ks, fl) Q := by
    intro n
    induction n with
    | zero =>
      intro i hi k
      have e : i = 12 := by omega
      subst e
      refine xg_iload_n xa_M_unused_2 rfl ?_
      refine xg_bipush (v := 12) xa_M_unused_3 (by decide) ?_
      refine xg_icmp_ge xa_M_unused_5 (fun c5 => ?_) (fun c5 => absurd (by decide) c5)
      refine xg_bipush (v := 12) xa_M_unused_25 (by decide) ?_
      refine xg_ireturn xa_M_unused_27  ?_
      exact k
    | succ n ih =>
      intro i hi k
      have hi12 : i < 12 := by omega
      unfold xunu at k
      refine xg_iload_n xa_M_unused_2 rfl ?_
      refine xg_bipush (v := 12) xa_M_unused_3 (by decide) ?_
      refine xg_icmp_ge xa_M_unused_5 (fun c => absurd c (show ¬ nI 12 ≤ nI i from nI_ge (by omega) (by omega))) (fun _ => ?_)
      refine xg_aload_n xa_M_unused_8 rfl ?_
      refine xg_getfield xa_M_unused_9 (by assumption) rfl ?_
      refine xg_iload_n xa_M_unused_12 rfl ?_
      refine xg_zald_n xa_M_unused_13 (by assumption) rfl (by assumption) (by decide) ?_
      refine xg_if_ne xa_M_unused_14 (fun c => ?_) (fun c => ?_)
      · rw [if_pos (xz1 c)] at k
        refine xg_iinc (L' := [_, _]) xa_M_unused_19 rfl (xi_inc _) rfl ?_
        refine xg_goto xa_M_unused_22 ?_
        exact ih (i + 1) (by omega) k
      · rw [if_neg (by rw [(xz0 _).mp c]; decide)] at k
        refine xg_iload_n xa_M_unused_17 rfl ?_
        refine xg_ireturn xa_M_unused_18  ?_
        exact k
  refine xg_iconst (v := 0) xa_M_unused_0 (by decide) ?_
  refine xg_istore_n (L' := [_, _]) xa_M_unused_1 (Nat.le_of_ble_eq_true rfl) rfl ?_
  exact loop 12 0 (by omega) k
end XM2
end
section
/-! 33.list: the model's listing of paths. -/
theorem xa_M_list_0 : xm_at xP 80 0 = some (0, .aload_n 0, 0, 0, 0, 0) := by decide +kernel
theorem xa_M_list_1 : xm_at xP 80 1 = some (1, .iconst 0, 0, 0, 0, 0) := by decide +kernel
theorem xa_M_list_2 : xm_at xP 80 2 = some (2, .putfield 86, 3, 17, 0, 0) := by decide +kernel
theorem xa_M_list_5 : xm_at xP 80 5 = some (5, .iconst 0, 0, 0, 0, 0) := by decide +kernel
theorem xa_M_list_6 : xm_at xP 80 6 = some (6, .istore 4, 0, 0, 0, 0) := by decide +kernel
theorem xa_M_list_8 : xm_at xP 80 8 = some (8, .iconst 0, 0, 0, 0, 0) := by decide +kernel
theorem xa_M_list_9 : xm_at xP 80 9 = some (9, .istore 5, 0, 0, 0, 0) := by decide +kernel
theorem xa_M_list_11 : xm_at xP 80 11 = some (11, .aload_n 0, 0, 0, 0, 0) := by decide +kernel
theorem xa_M_list_12 : xm_at xP 80 12 = some (12, .getfield 60, 3, 20, 0, 0) := by decide +kernel
theorem xa_M_list_15 : xm_at xP 80 15 = some (15, .iconst 0, 0, 0, 0, 0) := by decide +kernel
theorem xa_M_list_16 : xm_at xP 80 16 = some (16, .iload_n 2, 0, 0, 0, 0) := by decide +kernel
theorem xa_M_list_17 : xm_at xP 80 17 = some (17, .iastore, 0, 0, 0, 0) := by decide +kernel
theorem xa_M_list_18 : xm_at xP 80 18 = some (18, .aload_n 0, 0, 0, 0, 0) := by decide +kernel
theorem xa_M_list_19 : xm_at xP 80 19 = some (19, .getfield 63, 3, 21, 0, 0) := by decide +kernel
theorem xa_M_list_22 : xm_at xP 80 22 = some (22, .iconst 0, 0, 0, 0, 0) := by decide +kernel
theorem xa_M_list_23 : xm_at xP 80 23 = some (23, .iconst 0, 0, 0, 0, 0) := by decide +kernel
theorem xa_M_list_24 : xm_at xP 80 24 = some (24, .iastore, 0, 0, 0, 0) := by decide +kernel
theorem xa_M_list_25 : xm_at xP 80 25 = some (25, .iload 4, 0, 0, 0, 0) := by decide +kernel
theorem xa_M_list_27 : xm_at xP 80 27 = some (27, .ifCond .lt 167, 194, 0, 0, 0) := by decide +kernel
theorem xa_M_list_30 : xm_at xP 80 30 = some (30, .aload_n 0, 0, 0, 0, 0) := by decide +kernel
theorem xa_M_list_31 : xm_at xP 80 31 = some (31, .getfield 63, 3, 21, 0, 0) := by decide +kernel
theorem xa_M_list_34 : xm_at xP 80 34 = some (34, .iload 4, 0, 0, 0, 0) := by decide +kernel
theorem xa_M_list_36 : xm_at xP 80 36 = some (36, .iaload, 0, 0, 0, 0) := by decide +kernel
theorem xa_M_list_37 : xm_at xP 80 37 = some (37, .istore 6, 0, 0, 0, 0) := by decide +kernel
theorem xa_M_list_39 : xm_at xP 80 39 = some (39, .aload_n 0, 0, 0, 0, 0) := by decide +kernel
theorem xa_M_list_40 : xm_at xP 80 40 = some (40, .getfield 60, 3, 20, 0, 0) := by decide +kernel
theorem xa_M_list_43 : xm_at xP 80 43 = some (43, .iload 4, 0, 0, 0, 0) := by decide +kernel
theorem xa_M_list_45 : xm_at xP 80 45 = some (45, .iaload, 0, 0, 0, 0) := by decide +kernel
theorem xa_M_list_46 : xm_at xP 80 46 = some (46, .iload_n 3, 0, 0, 0, 0) := by decide +kernel
theorem xa_M_list_47 : xm_at xP 80 47 = some (47, .if_icmp .eq 12, 59, 0, 0, 0) := by decide +kernel
theorem xa_M_list_50 : xm_at xP 80 50 = some (50, .iload 6, 0, 0, 0, 0) := by decide +kernel
theorem xa_M_list_52 : xm_at xP 80 52 = some (52, .aload_n 0, 0, 0, 0, 0) := by decide +kernel
theorem xa_M_list_53 : xm_at xP 80 53 = some (53, .getfield 69, 3, 2, 0, 0) := by decide +kernel
theorem xa_M_list_56 : xm_at xP 80 56 = some (56, .if_icmp .ne 79, 135, 0, 0, 0) := by decide +kernel
theorem xa_M_list_59 : xm_at xP 80 59 = some (59, .aload_n 0, 0, 0, 0, 0) := by decide +kernel
theorem xa_M_list_60 : xm_at xP 80 60 = some (60, .getfield 60, 3, 20, 0, 0) := by decide +kernel
theorem xa_M_list_63 : xm_at xP 80 63 = some (63, .iload 4, 0, 0, 0, 0) := by decide +kernel
theorem xa_M_list_65 : xm_at xP 80 65 = some (65, .iaload, 0, 0, 0, 0) := by decide +kernel
theorem xa_M_list_66 : xm_at xP 80 66 = some (66, .iload_n 3, 0, 0, 0, 0) := by decide +kernel
theorem xa_M_list_67 : xm_at xP 80 67 = some (67, .if_icmp .ne 39, 106, 0, 0, 0) := by decide +kernel
theorem xa_M_list_70 : xm_at xP 80 70 = some (70, .aload_n 0, 0, 0, 0, 0) := by decide +kernel
theorem xa_M_list_71 : xm_at xP 80 71 = some (71, .getfield 54, 3, 18, 0, 0) := by decide +kernel
theorem xa_M_list_74 : xm_at xP 80 74 = some (74, .aload_n 0, 0, 0, 0, 0) := by decide +kernel
theorem xa_M_list_75 : xm_at xP 80 75 = some (75, .getfield 86, 3, 17, 0, 0) := by decide +kernel
theorem xa_M_list_78 : xm_at xP 80 78 = some (78, .iload 5, 0, 0, 0, 0) := by decide +kernel
theorem xa_M_list_80 : xm_at xP 80 80 = some (80, .iastore, 0, 0, 0, 0) := by decide +kernel
theorem xa_M_list_81 : xm_at xP 80 81 = some (81, .aload_n 0, 0, 0, 0, 0) := by decide +kernel
theorem xa_M_list_82 : xm_at xP 80 82 = some (82, .getfield 57, 3, 19, 0, 0) := by decide +kernel
theorem xa_M_list_85 : xm_at xP 80 85 = some (85, .aload_n 0, 0, 0, 0, 0) := by decide +kernel
theorem xa_M_list_86 : xm_at xP 80 86 = some (86, .getfield 86, 3, 17, 0, 0) := by decide +kernel
theorem xa_M_list_89 : xm_at xP 80 89 = some (89, .aload_n 0, 0, 0, 0, 0) := by decide +kernel
theorem xa_M_list_90 : xm_at xP 80 90 = some (90, .iload 5, 0, 0, 0, 0) := by decide +kernel
theorem xa_M_list_92 : xm_at xP 80 92 = some (92, .invokevirtual 89, 81, 2, 3, 0) := by decide +kernel
theorem xa_M_list_95 : xm_at xP 80 95 = some (95, .iastore, 0, 0, 0, 0) := by decide +kernel
theorem xa_M_list_96 : xm_at xP 80 96 = some (96, .aload_n 0, 0, 0, 0, 0) := by decide +kernel
theorem xa_M_list_97 : xm_at xP 80 97 = some (97, .dup, 0, 0, 0, 0) := by decide +kernel
theorem xa_M_list_98 : xm_at xP 80 98 = some (98, .getfield 86, 3, 17, 0, 0) := by decide +kernel
theorem xa_M_list_101 : xm_at xP 80 101 = some (101, .iconst 1, 0, 0, 0, 0) := by decide +kernel
theorem xa_M_list_102 : xm_at xP 80 102 = some (102, .iadd, 0, 0, 0, 0) := by decide +kernel
theorem xa_M_list_103 : xm_at xP 80 103 = some (103, .putfield 86, 3, 17, 0, 0) := by decide +kernel
theorem xa_M_list_106 : xm_at xP 80 106 = some (106, .iinc 4 (-1), 0, 0, 0, 0) := by decide +kernel
theorem xa_M_list_109 : xm_at xP 80 109 = some (109, .iload 4, 0, 0, 0, 0) := by decide +kernel
theorem xa_M_list_111 : xm_at xP 80 111 = some (111, .ifCond .lt 80, 191, 0, 0, 0) := by decide +kernel
theorem xa_M_list_114 : xm_at xP 80 114 = some (114, .iload 5, 0, 0, 0, 0) := by decide +kernel
theorem xa_M_list_116 : xm_at xP 80 116 = some (116, .iconst 1, 0, 0, 0, 0) := by decide +kernel
theorem xa_M_list_117 : xm_at xP 80 117 = some (117, .aload_n 0, 0, 0, 0, 0) := by decide +kernel
theorem xa_M_list_118 : xm_at xP 80 118 = some (118, .getfield 63, 3, 21, 0, 0) := by decide +kernel
theorem xa_M_list_121 : xm_at xP 80 121 = some (121, .iload 4, 0, 0, 0, 0) := by decide +kernel
theorem xa_M_list_123 : xm_at xP 80 123 = some (123, .iaload, 0, 0, 0, 0) := by decide +kernel
theorem xa_M_list_124 : xm_at xP 80 124 = some (124, .iconst 1, 0, 0, 0, 0) := by decide +kernel
theorem xa_M_list_125 : xm_at xP 80 125 = some (125, .isub, 0, 0, 0, 0) := by decide +kernel
theorem xa_M_list_126 : xm_at xP 80 126 = some (126, .ishl, 0, 0, 0, 0) := by decide +kernel
theorem xa_M_list_127 : xm_at xP 80 127 = some (127, .iconst (-1), 0, 0, 0, 0) := by decide +kernel
theorem xa_M_list_128 : xm_at xP 80 128 = some (128, .ixor, 0, 0, 0, 0) := by decide +kernel
theorem xa_M_list_129 : xm_at xP 80 129 = some (129, .iand, 0, 0, 0, 0) := by decide +kernel
theorem xa_M_list_130 : xm_at xP 80 130 = some (130, .istore 5, 0, 0, 0, 0) := by decide +kernel
theorem xa_M_list_132 : xm_at xP 80 132 = some (132, .goto 59, 191, 0, 0, 0) := by decide +kernel
theorem xa_M_list_135 : xm_at xP 80 135 = some (135, .aload_n 0, 0, 0, 0, 0) := by decide +kernel
theorem xa_M_list_136 : xm_at xP 80 136 = some (136, .getfield 63, 3, 21, 0, 0) := by decide +kernel
theorem xa_M_list_139 : xm_at xP 80 139 = some (139, .iload 4, 0, 0, 0, 0) := by decide +kernel
theorem xa_M_list_141 : xm_at xP 80 141 = some (141, .iload 6, 0, 0, 0, 0) := by decide +kernel
theorem xa_M_list_143 : xm_at xP 80 143 = some (143, .iconst 1, 0, 0, 0, 0) := by decide +kernel
theorem xa_M_list_144 : xm_at xP 80 144 = some (144, .iadd, 0, 0, 0, 0) := by decide +kernel
theorem xa_M_list_145 : xm_at xP 80 145 = some (145, .iastore, 0, 0, 0, 0) := by decide +kernel
theorem xa_M_list_146 : xm_at xP 80 146 = some (146, .aload_n 0, 0, 0, 0, 0) := by decide +kernel
theorem xa_M_list_147 : xm_at xP 80 147 = some (147, .iload_n 1, 0, 0, 0, 0) := by decide +kernel
theorem xa_M_list_148 : xm_at xP 80 148 = some (148, .iload 6, 0, 0, 0, 0) := by decide +kernel
theorem xa_M_list_150 : xm_at xP 80 150 = some (150, .iload 4, 0, 0, 0, 0) := by decide +kernel
theorem xa_M_list_152 : xm_at xP 80 152 = some (152, .invokevirtual 93, 82, 4, 3, 0) := by decide +kernel
theorem xa_M_list_155 : xm_at xP 80 155 = some (155, .istore 7, 0, 0, 0, 0) := by decide +kernel
theorem xa_M_list_157 : xm_at xP 80 157 = some (157, .iload 7, 0, 0, 0, 0) := by decide +kernel
theorem xa_M_list_159 : xm_at xP 80 159 = some (159, .ifCond .lt 32, 191, 0, 0, 0) := by decide +kernel
theorem xa_M_list_162 : xm_at xP 80 162 = some (162, .iload 5, 0, 0, 0, 0) := by decide +kernel
theorem xa_M_list_164 : xm_at xP 80 164 = some (164, .iconst 1, 0, 0, 0, 0) := by decide +kernel
theorem xa_M_list_165 : xm_at xP 80 165 = some (165, .iload 6, 0, 0, 0, 0) := by decide +kernel
theorem xa_M_list_167 : xm_at xP 80 167 = some (167, .ishl, 0, 0, 0, 0) := by decide +kernel
theorem xa_M_list_168 : xm_at xP 80 168 = some (168, .ior, 0, 0, 0, 0) := by decide +kernel
theorem xa_M_list_169 : xm_at xP 80 169 = some (169, .istore 5, 0, 0, 0, 0) := by decide +kernel
theorem xa_M_list_171 : xm_at xP 80 171 = some (171, .iinc 4 1, 0, 0, 0, 0) := by decide +kernel
theorem xa_M_list_174 : xm_at xP 80 174 = some (174, .aload_n 0, 0, 0, 0, 0) := by decide +kernel
theorem xa_M_list_175 : xm_at xP 80 175 = some (175, .getfield 60, 3, 20, 0, 0) := by decide +kernel
theorem xa_M_list_178 : xm_at xP 80 178 = some (178, .iload 4, 0, 0, 0, 0) := by decide +kernel
theorem xa_M_list_180 : xm_at xP 80 180 = some (180, .iload 7, 0, 0, 0, 0) := by decide +kernel
theorem xa_M_list_182 : xm_at xP 80 182 = some (182, .iastore, 0, 0, 0, 0) := by decide +kernel
theorem xa_M_list_183 : xm_at xP 80 183 = some (183, .aload_n 0, 0, 0, 0, 0) := by decide +kernel
theorem xa_M_list_184 : xm_at xP 80 184 = some (184, .getfield 63, 3, 21, 0, 0) := by decide +kernel
theorem xa_M_list_187 : xm_at xP 80 187 = some (187, .iload 4, 0, 0, 0, 0) := by decide +kernel
theorem xa_M_list_189 : xm_at xP 80 189 = some (189, .iconst 0, 0, 0, 0, 0) := by decide +kernel
theorem xa_M_list_190 : xm_at xP 80 190 = some (190, .iastore, 0, 0, 0, 0) := by decide +kernel
theorem xa_M_list_191 : xm_at xP 80 191 = some (191, .goto (-166), 25, 0, 0, 0) := by decide +kernel
theorem xa_M_list_194 : xm_at xP 80 194 = some (194, .return_, 0, 0, 0, 0) := by decide +kernel
section XM3
variable {xs : Nat → Int32} {LS d : Nat} {h : List va_E} {ks : Nat} {fl : Bool} {Q : (Option Value ⊕ Nat) → xm_S → Prop}
variable {Mc : Int32} {Mn : Nat} {Mm : Nat} {Mh : Int32} {Mp : Nat} {Mfw : Int32} {Mfs : Int32} {Me : Nat → Nat} {Ml : Nat → Nat} {Mbr : Nat → Bool} {Mlk : Nat → Bool} {Mt : Nat → Bool} {Mg : Nat → Bool} {Ma : Nat → Nat} {Mb : Nat → Nat} {Mw : Nat → Nat} {Mwk : Nat → Int32} {Msp : Nat → Int32} {Mon : Nat → Int32} {Mct : Nat → Int32} {MS : Nat → Int32} {MZ : Nat → Int32} {MA : Nat → Nat} {MN : Nat → Nat}
theorem xi_2f (f : Nat) : (2 : Int32) * nI f = nI (2 * f) := by
  show Int32.ofNat 2 * Int32.ofNat f = Int32.ofNat (2 * f)
  rw [← Int32.ofNat_mul]
/-- the other end of a fibre that ends at v -/
def xoth (e : Nat → Nat) (f v : Nat) : Nat := if e (2 * f) = v then e (2 * f + 1) else e (2 * f)
/-- where fibre f leads from place dp of the way: nowhere, or to a new site -/
def xld (e : Nat → Nat) (s : Int32) (sA : Nat → Nat) (dp f : Nat) : Option Nat :=
  if xb s f = true ∧ (e (2 * f) = sA dp ∨ e (2 * f + 1) = sA dp) ∧ xfst (fun j => decide (sA j = xoth e f (sA dp))) (dp + 1) 0 = none then some (xoth e f (sA dp)) else none
theorem c_M_leads {s : Int32} {f dp : Nat} (hM : xMd h Mc Mn Mm Mh Mp Mfw Mfs Me Ml Mbr Mlk Mt Mg Ma Mb Mw Mwk Msp Mon Mct MS MZ MA MN) (hf : f < 14) (hdp : dp < 8) (hE : ∀ j, Me j < 100) (hA : ∀ j, MA j < 100) (k : Q (.inl (some (.int (xo (xld Me s MA dp f))))) (h, ks, fl)) : xG xs LS (d + 1) 82 (0, xm_entry xP 82 [.ref 22, .int s, .int (nI f), .int (nI dp)], []) (h, ks, fl) Q := by
  obtain ⟨g22, g23, g24, g25, g26, g27, g28, g29, g30, g31, g32, g33, g34, g35, g36, g37, g38, g39⟩ := id hM
  show xG xs LS (d + 1) 82 (0, [some (.ref 22), some (.int s), some (.int (nI f)), some (.int (nI dp)), none, none, none], []) (h, ks, fl) Q
  have f28 : 2 * f < 28 := by omega
  have f29 : 2 * f + 1 < 28 := by omega
  have eq : ∀ i j, nI (Me i) = nI (MA j) ↔ Me i = MA j := fun i j => nI_eq (by have := hE i; omega) (by have := hA j; omega)
  have eq2 : ∀ i j, nI (MA j) = nI (Me i) ↔ MA j = Me i := fun i j => nI_eq (by have := hA j; omega) (by have := hE i; omega)
  unfold xld at k
  have tail : ∀ i, nI (Me i) = nI (xoth Me f (MA dp)) → Me i = xoth Me f (MA dp) → xb s f = true → (Me (2 * f) = MA dp ∨ Me (2 * f + 1) = MA dp) → xG xs LS (d + 1) 82 (82, [some (.ref 22), some (.int s), some (.int (nI f)), some (.int (nI dp)), some (.int (nI (MA dp))), none, none], [.int (nI (Me i))]) (h, ks, fl) Q := by
    intro i _ hi hb he
    have loop : ∀ n j, j + n = dp + 1 → (xfst (fun j => decide (MA j = xoth Me f (MA dp))) n j = none ↔ xfst (fun j => decide (MA j = xoth Me f (MA dp))) (dp + 1) 0 = none) → xG xs LS (d + 1) 82 (87, [some (.ref 22), some (.int s), some (.int (nI f)), some (.int (nI dp)), some (.int (nI (MA dp))), some (.int (nI (Me i))), some (.int (nI j))], []) (h, ks, fl) Q := by
      intro n
      induction n with
      | zero =>
        intro j hj hx
        rw [if_pos ⟨hb, he, hx.mp rfl⟩, ← hi] at k
        refine xg_iload xa_M_leads_87 rfl ?_
        refine xg_iload_n xa_M_leads_89 rfl ?_
        refine xg_icmp_gt xa_M_leads_90 (fun _ => ?_) (fun c => absurd (nI_lt (by omega) (by omega)) c)
        refine xg_iload xa_M_leads_113 rfl ?_
        refine xg_ireturn xa_M_leads_115  ?_
        exact k
      | succ n ih =>
        intro j hj hx
        have hj8 : j < 8 := by omega
        refine xg_iload xa_M_leads_87 rfl ?_
        refine xg_iload_n xa_M_leads_89 rfl ?_
        refine xg_icmp_gt xa_M_leads_90 (fun c => absurd c (nI_nlt (by omega) (by omega))) (fun _ => ?_)
        refine xg_aload_n xa_M_leads_93 rfl ?_
        refine xg_getfield xa_M_leads_94 (by assumption) rfl ?_
        refine xg_iload xa_M_leads_97 rfl ?_
        refine xg_iald_n xa_M_leads_99 (by assumption) rfl (by assumption) (by decide) ?_
        refine xg_iload xa_M_leads_100 rfl ?_
        refine xg_icmp_ne xa_M_leads_102 (fun c => ?_) (fun c => ?_)
        · have hne : ¬ MA j = xoth Me f (MA dp) := by rw [← hi]; exact fun q => c ((eq2 _ _).mpr q)
          unfold xfst at hx
          rw [if_neg (by rw [decide_eq_false hne]; decide)] at hx
          refine xg_iinc (L' := [_, _, _, _, _, _, _]) xa_M_leads_107 rfl (xi_inc _) rfl ?_
          refine xg_goto xa_M_leads_110 ?_
          exact ih (j + 1) (by omega) hx
        · have heq : MA j = xoth Me f (MA dp) := by rw [← hi]; exact (eq2 _ _).mp c
          unfold xfst at hx
          rw [if_pos (decide_eq_true heq)] at hx
          rw [if_neg (fun q => by have := hx.mpr q.2.2; cases this)] at k
          refine xg_iconst (v := (-1)) xa_M_leads_105 (by decide) ?_
          refine xg_ireturn xa_M_leads_106  ?_
          exact k
    refine xg_istore (L' := [_, _, _, _, _, _, _]) xa_M_leads_82 (Nat.le_of_ble_eq_true rfl) rfl ?_
    refine xg_iconst (v := 0) xa_M_leads_84 (by decide) ?_
    refine xg_istore (L' := [_, _, _, _, _, _, _]) xa_M_leads_85 (Nat.le_of_ble_eq_true rfl) rfl ?_
    exact loop (dp + 1) 0 (by omega) Iff.rfl
  refine xg_iload_n xa_M_leads_0 rfl ?_
  refine xg_iload_n xa_M_leads_1 rfl ?_
  refine xg_callS1 xa_M_leads_2 ⟨Nat.le_of_ble_eq_true rfl, Nat.le_of_ble_eq_true rfl, rfl⟩ rfl rfl ?_
  refine c_M_bit (by omega) ?_
  refine xK1_c ?_
  refine xg_if_ne xa_M_leads_5 (fun c5 => ?_) (fun c5 => ?_)
  · have hb := xz1 c5
    have second : Me (2 * f) = MA dp ∨ Me (2 * f + 1) = MA dp → xG xs LS (d + 1) 82 (48, [some (.ref 22), some (.int s), some (.int (nI f)), some (.int (nI dp)), some (.int (nI (MA dp))), none, none], []) (h, ks, fl) Q := by
      intro he
      refine xg_aload_n xa_M_leads_48 rfl ?_
      refine xg_getfield xa_M_leads_49 (by assumption) rfl ?_
      refine xg_iconst (v := 2) xa_M_leads_52 (by decide) ?_
      refine xg_iload_n xa_M_leads_53 rfl ?_
      refine xg_imul xa_M_leads_54 (xi_2f f) ?_
      refine xg_iald_n xa_M_leads_55 (by assumption) rfl (by assumption) (by decide) ?_
      refine xg_iload xa_M_leads_56 rfl ?_
      refine xg_icmp_ne xa_M_leads_58 (fun c => ?_) (fun c => ?_)
      · have e1 : xoth Me f (MA dp) = Me (2 * f) := if_neg (fun q => c ((eq _ _).mpr q))
        refine xg_aload_n xa_M_leads_74 rfl ?_
        refine xg_getfield xa_M_leads_75 (by assumption) rfl ?_
        refine xg_iconst (v := 2) xa_M_leads_78 (by decide) ?_
        refine xg_iload_n xa_M_leads_79 rfl ?_
        refine xg_imul xa_M_leads_80 (xi_2f f) ?_
        refine xg_iald_n xa_M_leads_81 (by assumption) rfl (by assumption) (by decide) ?_
        exact tail (2 * f) (by rw [e1]) e1.symm hb he
      · have e1 : xoth Me f (MA dp) = Me (2 * f + 1) := if_pos ((eq _ _).mp c)
        refine xg_aload_n xa_M_leads_61 rfl ?_
        refine xg_getfield xa_M_leads_62 (by assumption) rfl ?_
        refine xg_iconst (v := 2) xa_M_leads_65 (by decide) ?_
        refine xg_iload_n xa_M_leads_66 rfl ?_
        refine xg_imul xa_M_leads_67 (xi_2f f) ?_
        refine xg_iconst (v := 1) xa_M_leads_68 (by decide) ?_
        refine xg_iadd xa_M_leads_69 (nI_1 _) ?_
        refine xg_iald_n xa_M_leads_70 (by assumption) rfl (by assumption) (by decide) ?_
        refine xg_goto xa_M_leads_71 ?_
        exact tail (2 * f + 1) (by rw [e1]) e1.symm hb he
    refine xg_aload_n xa_M_leads_10 rfl ?_
    refine xg_getfield xa_M_leads_11 (by assumption) rfl ?_
    refine xg_iload_n xa_M_leads_14 rfl ?_
    refine xg_iald_n xa_M_leads_15 (by assumption) rfl (by assumption) (by decide) ?_
    refine xg_istore (L' := [_, _, _, _, _, _, _]) xa_M_leads_16 (Nat.le_of_ble_eq_true rfl) rfl ?_
    refine xg_aload_n xa_M_leads_18 rfl ?_
    refine xg_getfield xa_M_leads_19 (by assumption) rfl ?_
    refine xg_iconst (v := 2) xa_M_leads_22 (by decide) ?_
    refine xg_iload_n xa_M_leads_23 rfl ?_
    refine xg_imul xa_M_leads_24 (xi_2f f) ?_
    refine xg_iald_n xa_M_leads_25 (by assumption) rfl (by assumption) (by decide) ?_
    refine xg_iload xa_M_leads_26 rfl ?_
    refine xg_icmp_eq xa_M_leads_28 (fun c => second (Or.inl ((eq _ _).mp c))) (fun c28 => ?_)
    refine xg_aload_n xa_M_leads_31 rfl ?_
    refine xg_getfield xa_M_leads_32 (by assumption) rfl ?_
    refine xg_iconst (v := 2) xa_M_leads_35 (by decide) ?_
    refine xg_iload_n xa_M_leads_36 rfl ?_
    refine xg_imul xa_M_leads_37 (xi_2f f) ?_
    refine xg_iconst (v := 1) xa_M_leads_38 (by decide) ?_
    refine xg_iadd xa_M_leads_39 (nI_1 _) ?_
    refine xg_iald_n xa_M_leads_40 (by assumption) rfl (by assumption) (by decide) ?_
    refine xg_iload xa_M_leads_41 rfl ?_
    refine xg_icmp_eq xa_M_leads_43 (fun c => second (Or.inr ((eq _ _).mp c))) (fun c43 => ?_)
    rw [if_neg (fun q => by
      rcases q.2.1 with z | z
      · exact c28 ((eq _ _).mpr z)
      · exact c43 ((eq _ _).mpr z))] at k
    refine xg_iconst (v := (-1)) xa_M_leads_46 (by decide) ?_
    refine xg_ireturn xa_M_leads_47  ?_
    exact k
  · rw [if_neg (fun q => by rw [(xz0 _).mp c5] at q; cases q.1)] at k
    refine xg_iconst (v := (-1)) xa_M_leads_8 (by decide) ?_
    refine xg_ireturn xa_M_leads_9  ?_
    exact k
end XM3
end
section
/-! 34.list2: the listing's loop. -/
section XM4
theorem xpig : ∀ (n : Nat) (f : Nat → Nat), (∀ i, i < n + 1 → f i < n) → ∃ i j, i < j ∧ j < n + 1 ∧ f i = f j := by
  intro n
  induction n with
  | zero => intro f h; exact absurd (h 0 (by omega)) (by omega)
  | succ n ih =>
    intro f h
    by_cases hx : ∃ i, i < n + 1 ∧ f i = f (n + 1)
    · obtain ⟨i, h1, h2⟩ := hx
      exact ⟨i, n + 1, h1, by omega, h2⟩
    · obtain ⟨i, j, h1, h2, h3⟩ := ih (fun i => if f i = n then f (n + 1) else f i) (fun i hi => by
        have q := h i (by omega)
        by_cases e : f i = n
        · rw [if_pos e]
          have := h (n + 1) (by omega)
          have : ¬ f i = f (n + 1) := fun z => hx ⟨i, hi, z⟩
          omega
        · rw [if_neg e]
          omega)
      refine ⟨i, j, h1, by omega, ?_⟩
      by_cases e1 : f i = n <;> by_cases e2 : f j = n
      · omega
      · rw [if_pos e1, if_neg e2] at h3
        exact absurd ⟨j, h2, h3.symm⟩ hx
      · rw [if_neg e1, if_pos e2] at h3
        exact absurd ⟨i, by omega, h3⟩ hx
      · rw [if_neg e1, if_neg e2] at h3
        exact h3
theorem xpig7 {sA : Nat → Nat} {dp : Nat} (hdp : 6 ≤ dp) (h1 : ∀ j, sA j < 7) (h2 : ∀ i j, i ≤ dp → j ≤ dp → sA i = sA j → i = j) {t : Nat} (ht : t < 7) : ∃ j, j ≤ dp ∧ sA j = t := by
  apply Classical.byContradiction
  intro hn
  have hne : ∀ j, j ≤ dp → ¬ sA j = t := fun j hj q => hn ⟨j, hj, q⟩
  obtain ⟨i, j, q1, q2, q3⟩ := xpig 6 (fun i => if t < sA i then sA i - 1 else sA i) (fun i hi => by
    have a := h1 i
    have b := hne i (by omega)
    by_cases c : t < sA i
    · rw [if_pos c]; omega
    · rw [if_neg c]; omega)
  have a := hne i (by omega)
  have b := hne j (by omega)
  have : sA i = sA j := by
    by_cases c1 : t < sA i <;> by_cases c2 : t < sA j
    · rw [if_pos c1, if_pos c2] at q3; omega
    · rw [if_pos c1, if_neg c2] at q3; omega
    · rw [if_neg c1, if_pos c2] at q3; omega
    · rw [if_neg c1, if_neg c2] at q3; omega
  have := h2 i j (by omega) (by omega) this
  omega
/-- the sets of the paths from place dp of the way on: depth first -/
def xdl (e : Nat → Nat) (m : Nat) (s : Int32) (b : Nat) : Nat → (Nat → Nat) → Nat → Int32 → List Int32
  | 0, sA, dp, p => if sA dp = b then [p] else []
  | n + 1, sA, dp, p => if sA dp = b then [p] else (List.range' 0 m).flatMap (fun f => match xld e s sA dp f with
    | none => []
    | some t => xdl e m s b n (xup sA (dp + 1) t) (dp + 1) (p ||| xbt f))
/-- .. from fibre f on -/
def xdk (e : Nat → Nat) (m : Nat) (s : Int32) (b : Nat) : Nat → (Nat → Nat) → Nat → Int32 → Nat → Nat → List Int32
  | 0, _, _, _, _, _ => []
  | n + 1, sA, dp, p, f, k => (List.range' f k).flatMap (fun f => match xld e s sA dp f with
    | none => []
    | some t => xdl e m s b n (xup sA (dp + 1) t) (dp + 1) (p ||| xbt f))
theorem xdl_k (e : Nat → Nat) (m : Nat) (s : Int32) (b n : Nat) (sA : Nat → Nat) (dp : Nat) (p : Int32) : xdl e m s b n sA dp p = if sA dp = b then [p] else xdk e m s b n sA dp p 0 m := by
  cases n <;> rfl
theorem xfst_congr {p q : Nat → Bool} : ∀ (n i : Nat), (∀ j, i ≤ j → j < i + n → p j = q j) → xfst p n i = xfst q n i := by
  intro n
  induction n with
  | zero => intro i h; rfl
  | succ n ih =>
    intro i h
    unfold xfst
    rw [h i (by omega) (by omega), ih (i + 1) (fun j h1 h2 => h j (by omega) (by omega))]
theorem xld_congr {e : Nat → Nat} {s : Int32} {sA sB : Nat → Nat} {dp f : Nat} (h : ∀ j, j ≤ dp → sA j = sB j) : xld e s sA dp f = xld e s sB dp f := by
  unfold xld
  rw [h dp (by omega), xfst_congr (dp + 1) 0 (fun j _ h2 => by rw [h j (by omega)])]
theorem xdl_congr {e : Nat → Nat} {m : Nat} {s : Int32} {b : Nat} : ∀ (n : Nat) (sA sB : Nat → Nat) (dp : Nat) (p : Int32), (∀ j, j ≤ dp → sA j = sB j) → xdl e m s b n sA dp p = xdl e m s b n sB dp p := by
  intro n
  induction n with
  | zero =>
    intro sA sB dp p h
    unfold xdl
    rw [h dp (by omega)]
  | succ n ih =>
    intro sA sB dp p h
    unfold xdl
    rw [h dp (by omega)]
    congr 1
    congr 1
    funext f
    rw [xld_congr h]
    cases xld e s sB dp f with
    | none => rfl
    | some t =>
      refine ih _ _ _ _ (fun j hj => ?_)
      unfold xup
      by_cases c : j = dp + 1
      · rw [if_pos c, if_pos c]
      · rw [if_neg c, if_neg c]
        exact h j (by omega)
theorem xdk_congr {e : Nat → Nat} {m : Nat} {s : Int32} {b n : Nat} {sA sB : Nat → Nat} {dp : Nat} {p : Int32} {f k : Nat} (h : ∀ j, j ≤ dp → sA j = sB j) : xdk e m s b n sA dp p f k = xdk e m s b n sB dp p f k := by
  cases n with
  | zero => rfl
  | succ n =>
    show List.flatMap _ _ = List.flatMap _ _
    congr 1
    funext f
    rw [xld_congr h]
    cases xld e s sB dp f with
    | none => rfl
    | some t =>
      refine xdl_congr n _ _ _ _ (fun j hj => ?_)
      unfold xup
      by_cases c : j = dp + 1
      · rw [if_pos c, if_pos c]
      · rw [if_neg c, if_neg c]
        exact h j (by omega)
theorem xdk_0 (e : Nat → Nat) (m : Nat) (s : Int32) (b n : Nat) (sA : Nat → Nat) (dp : Nat) (p : Int32) (f : Nat) : xdk e m s b n sA dp p f 0 = [] := by
  cases n <;> rfl
theorem xdk_s (e : Nat → Nat) (m : Nat) (s : Int32) (b n : Nat) (sA : Nat → Nat) (dp : Nat) (p : Int32) (f k : Nat) : xdk e m s b (n + 1) sA dp p f (k + 1) = (match xld e s sA dp f with
    | none => []
    | some t => xdl e m s b n (xup sA (dp + 1) t) (dp + 1) (p ||| xbt f)) ++ xdk e m s b (n + 1) sA dp p (f + 1) k := by
  show List.flatMap _ (List.range' f (k + 1)) = _
  rw [List.range'_succ, List.flatMap_cons]
  rfl
theorem xld_some {e : Nat → Nat} {s : Int32} {sA : Nat → Nat} {dp f t : Nat} (h : xld e s sA dp f = some t) : xb s f = true ∧ (e (2 * f) = sA dp ∨ e (2 * f + 1) = sA dp) ∧ t = xoth e f (sA dp) ∧ ∀ j, j ≤ dp → ¬ sA j = t := by
  unfold xld at h
  by_cases c : xb s f = true ∧ (e (2 * f) = sA dp ∨ e (2 * f + 1) = sA dp) ∧ xfst (fun j => decide (sA j = xoth e f (sA dp))) (dp + 1) 0 = none
  · rw [if_pos c] at h
    cases h
    exact ⟨c.1, c.2.1, rfl, fun j hj q => by
      have := xfst_none _ _ c.2.2 j (by omega) (by omega)
      rw [decide_eq_true q] at this
      cases this⟩
  · rw [if_neg c] at h
    cases h
end XM4
end
section
/-! 35.list3: the listing's loop, run. -/
section XM5
variable {xs : Nat → Int32} {LS d : Nat} {ks : Nat} {Q : (Option Value ⊕ Nat) → xm_S → Prop}
variable {Mc : Int32} {Mn : Nat} {Mm : Nat} {Mh : Int32} {Mp : Nat} {Mfw : Int32} {Mfs : Int32} {Me : Nat → Nat} {Ml : Nat → Nat} {Mbr : Nat → Bool} {Mlk : Nat → Bool} {Mt : Nat → Bool} {Mg : Nat → Bool} {Ma : Nat → Nat} {Mb : Nat → Nat} {Mw : Nat → Nat} {Mwk : Nat → Int32} {Msp : Nat → Int32} {Mon : Nat → Int32} {Mct : Nat → Int32} {MS : Nat → Int32} {MZ : Nat → Int32} {MA : Nat → Nat} {MN : Nat → Nat}
theorem xi_dec (q : Nat) : nI (q + 1) + Int32.ofInt (-1) = nI q := by
  rw [← nI_pred q, Int32.sub_eq_add_neg]
  rfl
theorem xl_pop {s : Int32} {a b dp : Nat} {path : Int32} {P : Nat} {S Z : Nat → Int32} {A N : Nat → Nat} {h : List va_E} {fl : Bool} {j6 j7 : Option Value} (hM : xMd h Mc Mn Mm Mh P Mfw Mfs Me Ml Mbr Mlk Mt Mg Ma Mb Mw Mwk Msp Mon Mct S Z A N) (hdp : dp < 8)
    (kk : ∀ v p', (dp = 0 → v = -1) → (∀ q, dp = q + 1 → v = nI q ∧ p' = path &&& (((1 : Int32) <<< ((nI (N q) - 1) &&& 31)) ^^^ (-1))) → xG xs LS (d + 2) 80 (25, [some (.ref 22), some (.int s), some (.int (nI a)), some (.int (nI b)), some (.int v), some (.int p'), j6, j7], []) (h, ks, fl) Q) :
    xG xs LS (d + 2) 80 (106, [some (.ref 22), some (.int s), some (.int (nI a)), some (.int (nI b)), some (.int (nI dp)), some (.int path), j6, j7], []) (h, ks, fl) Q := by
  obtain ⟨g22, g23, g24, g25, g26, g27, g28, g29, g30, g31, g32, g33, g34, g35, g36, g37, g38, g39⟩ := id hM
  cases dp with
  | zero =>
    refine xg_iinc (L' := [_, _, _, _, _, _, _, _]) xa_M_list_106 rfl (show nI 0 + Int32.ofInt (-1) = -1 from by decide) rfl ?_
    refine xg_iload xa_M_list_109 rfl ?_
    refine xg_if_lt xa_M_list_111 (fun c111 => ?_) (fun c111 => absurd (by decide) c111)
    refine xg_goto xa_M_list_191 ?_
    exact kk _ _ (fun _ => rfl) (fun q hq => by omega)
  | succ q =>
    have hq8 : q < 8 := by omega
    refine xg_iinc (L' := [_, _, _, _, _, _, _, _]) xa_M_list_106 rfl (xi_dec q) rfl ?_
    refine xg_iload xa_M_list_109 rfl ?_
    refine xg_if_lt xa_M_list_111 (fun c111 => absurd c111 (nI_pos (by omega))) (fun c111 => ?_)
    refine xg_iload xa_M_list_114 rfl ?_
    refine xg_iconst (v := 1) xa_M_list_116 (by decide) ?_
    refine xg_aload_n xa_M_list_117 rfl ?_
    refine xg_getfield xa_M_list_118 (by assumption) rfl ?_
    refine xg_iload xa_M_list_121 rfl ?_
    refine xg_iald_n xa_M_list_123 (by assumption) rfl (by assumption) (by decide) ?_
    refine xg_iconst (v := 1) xa_M_list_124 (by decide) ?_
    refine xg_isub xa_M_list_125 rfl ?_
    refine xg_ishl xa_M_list_126 rfl ?_
    refine xg_iconst (v := (-1)) xa_M_list_127 (by decide) ?_
    refine xg_ixor xa_M_list_128 rfl ?_
    refine xg_iand xa_M_list_129 rfl ?_
    refine xg_istore (L' := [_, _, _, _, _, _, _, _]) xa_M_list_130 (Nat.le_of_ble_eq_true rfl) rfl ?_
    refine xg_goto xa_M_list_132 ?_
    refine xg_goto xa_M_list_191 ?_
    refine kk _ _ (fun hq => by omega) (fun q' hq => ?_)
    obtain rfl : q = q' := by omega
    exact ⟨rfl, rfl⟩
theorem xl_emit {s : Int32} {a b dp : Nat} {path : Int32} {P : Nat} {S Z : Nat → Int32} {A N : Nat → Nat} {h : List va_E} {fl : Bool} {j6 j7 : Option Value} (hm : Mm ≤ 14) (hM : xMd h Mc Mn Mm Mh P Mfw Mfs Me Ml Mbr Mlk Mt Mg Ma Mb Mw Mwk Msp Mon Mct S Z A N) (hP : P < 4000)
    (kk : ∀ h' fl', xMd h' Mc Mn Mm Mh (P + 1) Mfw Mfs Me Ml Mbr Mlk Mt Mg Ma Mb Mw Mwk Msp Mon Mct (xup S P path) (xup Z P (xlen (fun j => nI (Ml j)) path Mm)) A N → xS h h' 22 40 → xG xs LS (d + 2) 80 (106, [some (.ref 22), some (.int s), some (.int (nI a)), some (.int (nI b)), some (.int (nI dp)), some (.int path), j6, j7], []) (h', ks, fl') Q) :
    xG xs LS (d + 2) 80 (70, [some (.ref 22), some (.int s), some (.int (nI a)), some (.int (nI b)), some (.int (nI dp)), some (.int path), j6, j7], []) (h, ks, fl) Q := by
  obtain ⟨g22, g23, g24, g25, g26, g27, g28, g29, g30, g31, g32, g33, g34, g35, g36, g37, g38, g39⟩ := id hM
  refine xg_aload_n xa_M_list_70 rfl ?_
  refine xg_getfield xa_M_list_71 (by assumption) rfl ?_
  refine xg_aload_n xa_M_list_74 rfl ?_
  refine xg_getfield xa_M_list_75 (by assumption) rfl ?_
  refine xg_iload xa_M_list_78 rfl ?_
  refine xg_iastf_n xa_M_list_80 (by assumption) rfl (by assumption) (by decide) (fun h80 u80 => ?_)
  have hM1 := xMd_MS hM u80
  obtain ⟨g22, g23, g24, g25, g26, g27, g28, g29, g30, g31, g32, g33, g34, g35, g36, g37, g38, g39⟩ := id hM1
  refine xg_aload_n xa_M_list_81 rfl ?_
  refine xg_getfield xa_M_list_82 (by assumption) rfl ?_
  refine xg_aload_n xa_M_list_85 rfl ?_
  refine xg_getfield xa_M_list_86 (by assumption) rfl ?_
  refine xg_aload_n xa_M_list_89 rfl ?_
  refine xg_iload xa_M_list_90 rfl ?_
  refine xg_callV1 xa_M_list_92 ⟨Nat.le_of_ble_eq_true rfl, Nat.le_of_ble_eq_true rfl, rfl⟩ rfl rfl (by assumption) ?_
  refine c_M_lengthOf hM1 hm ?_
  refine xK1_c ?_
  refine xg_iastf_n xa_M_list_95 (by assumption) rfl (by assumption) (by decide) (fun h95 u95 => ?_)
  have hM2 := xMd_MZ hM1 u95
  obtain ⟨g22, g23, g24, g25, g26, g27, g28, g29, g30, g31, g32, g33, g34, g35, g36, g37, g38, g39⟩ := id hM2
  refine xg_aload_n xa_M_list_96 rfl ?_
  refine xg_dup_r xa_M_list_97 ?_
  refine xg_getfield xa_M_list_98 (by assumption) rfl ?_
  refine xg_iconst (v := 1) xa_M_list_101 (by decide) ?_
  refine xg_iadd xa_M_list_102 (nI_1 _) ?_
  refine xg_putf (fs' := [_, _, _, _, _, _, _, _, _, _, _, _, _, _, _, _, _, _, _, _, _, _, _, _]) xa_M_list_103 (by assumption) (Nat.le_of_ble_eq_true rfl) rfl rfl (fun h103 u103 => ?_)
  exact kk _ _ (xMd_o hM2 u103) (((u80.toS (by decide) (by decide)).tr (u95.toS (by decide) (by decide))).tr (u103.toS (by decide) (by decide)))
theorem xdk_none {e : Nat → Nat} {m : Nat} {s : Int32} {b n : Nat} {sA : Nat → Nat} {dp : Nat} {p : Int32} {f k : Nat} (hx : xld e s sA dp f = none) : xdk e m s b n sA dp p f (k + 1) = xdk e m s b n sA dp p (f + 1) k := by
  cases n with
  | zero => rfl
  | succ n =>
    rw [xdk_s, hx]
    rfl
/-- a bit put in and taken out again -/
theorem xbit_back {p : Int32} {f : Nat} (hf : f < 32) (hp : xb p f = false) : (p ||| xbt f) &&& (xbt f ^^^ (-1)) = p := by
  refine xb_ext (fun g hg => ?_)
  rw [xb_and _ _ hg, xb_or _ _ hg, xb_not _ hg, xb_bt hg hf]
  by_cases c : g = f
  · subst c
    rw [hp]
    simp
  · rw [decide_eq_false c]
    simp
theorem xl_node {s : Int32} {a b : Nat} (hm : Mm ≤ 14) (hE : ∀ j, Me j < 7) (hb : b < 7) :
    ∀ (B n : Nat), n < B → ∀ (k f dp : Nat) (path : Int32) (P : Nat) (S Z : Nat → Int32) (A N : Nat → Nat) (h : List va_E) (fl : Bool) (j6 j7 : Option Value) (L : List Int32) (Q : (Option Value ⊕ Nat) → xm_S → Prop),
    dp + n = 6 → f + k = Mm → N dp = f → L = (if A dp = b then [path] else xdk Me Mm s b n A dp path f k) →
    xMd h Mc Mn Mm Mh P Mfw Mfs Me Ml Mbr Mlk Mt Mg Ma Mb Mw Mwk Msp Mon Mct S Z A N → (∀ j, A j < 7) → (∀ j, N j < 100) →
    (∀ i j, i ≤ dp → j ≤ dp → A i = A j → i = j) →
    (∀ g, g < 14 → xb path g = true → ∀ x, (x = Me (2 * g) ∨ x = Me (2 * g + 1)) → ∃ j, j ≤ dp ∧ A j = x) →
    P + L.length ≤ 4000 →
    (∀ h' fl' S' Z' A' N' j6 j7 v p', xMd h' Mc Mn Mm Mh (P + L.length) Mfw Mfs Me Ml Mbr Mlk Mt Mg Ma Mb Mw Mwk Msp Mon Mct S' Z' A' N' → xS h h' 22 40 → (∀ i, i < P → S' i = S i ∧ Z' i = Z i) →
      (∀ i x, L[i]? = some x → S' (P + i) = x ∧ Z' (P + i) = xlen (fun j => nI (Ml j)) x Mm) → (∀ j, j ≤ dp → A' j = A j) → (∀ j, j < dp → N' j = N j) → (∀ j, A' j < 7) → (∀ j, N' j < 100) → (dp = 0 → v = -1) →
      (∀ q, dp = q + 1 → v = nI q ∧ p' = path &&& (((1 : Int32) <<< ((nI (N q) - 1) &&& 31)) ^^^ (-1))) →
      xG xs LS (d + 2) 80 (25, [some (.ref 22), some (.int s), some (.int (nI a)), some (.int (nI b)), some (.int v), some (.int p'), j6, j7], []) (h', ks, fl') Q) →
    xG xs LS (d + 2) 80 (25, [some (.ref 22), some (.int s), some (.int (nI a)), some (.int (nI b)), some (.int (nI dp)), some (.int path), j6, j7], []) (h, ks, fl) Q := by
  intro B
  induction B with
  | zero => intro n hn; omega
  | succ B ihB =>
    intro n hn k
    induction k with
    | zero =>
      intro f dp path P S Z A N h fl j6 j7 L Q hdn hfk hNf hL hM hA hN hinj hpath hlen kk
      have hd8 : dp < 8 := by omega
      obtain ⟨g22, g23, g24, g25, g26, g27, g28, g29, g30, g31, g32, g33, g34, g35, g36, g37, g38, g39⟩ := id hM
      have done : ∀ j6 j7, ¬ A dp = b → xG xs LS (d + 2) 80 (106, [some (.ref 22), some (.int s), some (.int (nI a)), some (.int (nI b)), some (.int (nI dp)), some (.int path), j6, j7], []) (h, ks, fl) Q := by
        intro j6 j7 hne
        rw [if_neg hne, xdk_0] at hL
        subst hL
        refine xl_pop hM hd8 (fun v p' h1 h2 => ?_)
        exact kk h fl S Z A N j6 j7 v p' hM xS.rf (fun _ _ => ⟨rfl, rfl⟩) (fun i x hx => by cases hx) (fun _ _ => rfl) (fun _ _ => rfl) hA hN h1 h2
      refine xg_iload xa_M_list_25 rfl ?_
      refine xg_if_lt xa_M_list_27 (fun c => absurd c (nI_pos (by omega))) (fun _ => ?_)
      refine xg_aload_n xa_M_list_30 rfl ?_
      refine xg_getfield xa_M_list_31 (by assumption) rfl ?_
      refine xg_iload xa_M_list_34 rfl ?_
      refine xg_iald_n xa_M_list_36 (by assumption) rfl (by assumption) (by decide) ?_
      refine xg_istore (L' := [_, _, _, _, _, _, _, _]) xa_M_list_37 (Nat.le_of_ble_eq_true rfl) rfl ?_
      refine xg_aload_n xa_M_list_39 rfl ?_
      refine xg_getfield xa_M_list_40 (by assumption) rfl ?_
      refine xg_iload xa_M_list_43 rfl ?_
      refine xg_iald_n xa_M_list_45 (by assumption) rfl (by assumption) (by decide) ?_
      refine xg_iload_n xa_M_list_46 rfl ?_
      refine xg_icmp_eq xa_M_list_47 (fun c47 => ?_) (fun c47 => ?_)
      · have hAb : A dp = b := (nI_eq (by have := hA dp; omega) (by omega)).mp c47
        refine xg_aload_n xa_M_list_59 rfl ?_
        refine xg_getfield xa_M_list_60 (by assumption) rfl ?_
        refine xg_iload xa_M_list_63 rfl ?_
        refine xg_iald_n xa_M_list_65 (by assumption) rfl (by assumption) (by decide) ?_
        refine xg_iload_n xa_M_list_66 rfl ?_
        refine xg_icmp_ne xa_M_list_67 (fun c => absurd c47 c) (fun _ => ?_)
        rw [if_pos hAb] at hL
        subst hL
        refine xl_emit hm hM (by rw [List.length_singleton] at hlen; omega) (fun h' fl' hM' hS' => ?_)
        refine xl_pop hM' hd8 (fun v p' h1 h2 => ?_)
        exact kk h' fl' _ _ A N _ _ v p' hM' hS' (fun i hi => ⟨xup_n _ _ (by omega), xup_n _ _ (by omega)⟩) (fun i x hx => by
          cases i with
          | zero => cases hx; exact ⟨xup_s _ _ _, xup_s _ _ _⟩
          | succ i => cases hx) (fun _ _ => rfl) (fun _ _ => rfl) hA hN h1 h2
      · have hne : ¬ A dp = b := fun q => c47 (by rw [q])
        refine xg_iload xa_M_list_50 rfl ?_
        refine xg_aload_n xa_M_list_52 rfl ?_
        refine xg_getfield xa_M_list_53 (by assumption) rfl ?_
        refine xg_icmp_ne xa_M_list_56 (fun c => absurd (show nI (N dp) = nI Mm from by rw [hNf, show f = Mm by omega]) c) (fun _ => ?_)
        refine xg_aload_n xa_M_list_59 rfl ?_
        refine xg_getfield xa_M_list_60 (by assumption) rfl ?_
        refine xg_iload xa_M_list_63 rfl ?_
        refine xg_iald_n xa_M_list_65 (by assumption) rfl (by assumption) (by decide) ?_
        refine xg_iload_n xa_M_list_66 rfl ?_
        refine xg_icmp_ne xa_M_list_67 (fun _ => done _ _ hne) (fun c => absurd c c47)
    | succ k ihk =>
      intro f dp path P S Z A N h fl j6 j7 L Q hdn hfk hNf hL hM hA hN hinj hpath hlen kk
      have hd8 : dp < 8 := by omega
      have hf14 : f < 14 := by omega
      obtain ⟨g22, g23, g24, g25, g26, g27, g28, g29, g30, g31, g32, g33, g34, g35, g36, g37, g38, g39⟩ := id hM
      refine xg_iload xa_M_list_25 rfl ?_
      refine xg_if_lt xa_M_list_27 (fun c => absurd c (nI_pos (by omega))) (fun _ => ?_)
      refine xg_aload_n xa_M_list_30 rfl ?_
      refine xg_getfield xa_M_list_31 (by assumption) rfl ?_
      refine xg_iload xa_M_list_34 rfl ?_
      refine xg_iald_n xa_M_list_36 (by assumption) rfl (by assumption) (by decide) ?_
      refine xg_istore (L' := [_, _, _, _, _, _, _, _]) xa_M_list_37 (Nat.le_of_ble_eq_true rfl) rfl ?_
      refine xg_aload_n xa_M_list_39 rfl ?_
      refine xg_getfield xa_M_list_40 (by assumption) rfl ?_
      refine xg_iload xa_M_list_43 rfl ?_
      refine xg_iald_n xa_M_list_45 (by assumption) rfl (by assumption) (by decide) ?_
      refine xg_iload_n xa_M_list_46 rfl ?_
      refine xg_icmp_eq xa_M_list_47 (fun c47 => ?_) (fun c47 => ?_)
      · have hAb : A dp = b := (nI_eq (by have := hA dp; omega) (by omega)).mp c47
        refine xg_aload_n xa_M_list_59 rfl ?_
        refine xg_getfield xa_M_list_60 (by assumption) rfl ?_
        refine xg_iload xa_M_list_63 rfl ?_
        refine xg_iald_n xa_M_list_65 (by assumption) rfl (by assumption) (by decide) ?_
        refine xg_iload_n xa_M_list_66 rfl ?_
        refine xg_icmp_ne xa_M_list_67 (fun c => absurd c47 c) (fun _ => ?_)
        rw [if_pos hAb] at hL
        subst hL
        refine xl_emit hm hM (by rw [List.length_singleton] at hlen; omega) (fun h' fl' hM' hS' => ?_)
        refine xl_pop hM' hd8 (fun v p' h1 h2 => ?_)
        exact kk h' fl' _ _ A N _ _ v p' hM' hS' (fun i hi => ⟨xup_n _ _ (by omega), xup_n _ _ (by omega)⟩) (fun i x hx => by
          cases i with
          | zero => cases hx; exact ⟨xup_s _ _ _, xup_s _ _ _⟩
          | succ i => cases hx) (fun _ _ => rfl) (fun _ _ => rfl) hA hN h1 h2
      · have hne : ¬ A dp = b := fun q => c47 (by rw [q])
        rw [if_neg hne] at hL
        rw [hNf]
        refine xg_iload xa_M_list_50 rfl ?_
        refine xg_aload_n xa_M_list_52 rfl ?_
        refine xg_getfield xa_M_list_53 (by assumption) rfl ?_
        refine xg_icmp_ne xa_M_list_56 (fun _ => ?_) (fun c => absurd c (fun q => by have := (nI_eq (by omega) (by omega)).mp q; omega))
        refine xg_aload_n xa_M_list_135 rfl ?_
        refine xg_getfield xa_M_list_136 (by assumption) rfl ?_
        refine xg_iload xa_M_list_139 rfl ?_
        refine xg_iload xa_M_list_141 rfl ?_
        refine xg_iconst (v := 1) xa_M_list_143 (by decide) ?_
        refine xg_iadd xa_M_list_144 (nI_1 _) ?_
        refine xg_iastf_n xa_M_list_145 (by assumption) rfl (by assumption) (by decide) (fun h145 u145 => ?_)
        have hM1 := xMd_MN hM u145
        obtain ⟨g22, g23, g24, g25, g26, g27, g28, g29, g30, g31, g32, g33, g34, g35, g36, g37, g38, g39⟩ := id hM1
        refine xg_aload_n xa_M_list_146 rfl ?_
        refine xg_iload_n xa_M_list_147 rfl ?_
        refine xg_iload xa_M_list_148 rfl ?_
        refine xg_iload xa_M_list_150 rfl ?_
        refine xg_callV1 xa_M_list_152 ⟨Nat.le_of_ble_eq_true rfl, Nat.le_of_ble_eq_true rfl, rfl⟩ rfl rfl (by assumption) ?_
        refine c_M_leads hM1 hf14 hd8 (fun j => by have := hE j; omega) (fun j => by have := hA j; omega) ?_
        refine xK1_c ?_
        have hN1 : ∀ j, xup N dp (f + 1) j < 100 := by
          intro j
          unfold xup
          by_cases c : j = dp
          · rw [if_pos c]; omega
          · rw [if_neg c]; exact hN j
        cases hx : xld Me s A dp f with
        | none =>
          rw [xdk_none hx] at hL
          refine xg_istore (L' := [_, _, _, _, _, _, _, _]) xa_M_list_155 (Nat.le_of_ble_eq_true rfl) rfl ?_
          refine xg_iload xa_M_list_157 rfl ?_
          refine xg_if_lt xa_M_list_159 (fun _ => ?_) (fun c => absurd (show (-1 : Int32) < 0 from by decide) c)
          refine xg_goto xa_M_list_191 ?_
          refine ihk (f + 1) dp path P S Z A (xup N dp (f + 1)) h145 _ _ _ L Q hdn (by omega) (xup_s _ _ _) (by rw [if_neg hne]; exact hL) hM1 hA hN1 hinj hpath hlen ?_
          intro h' fl' S' Z' A' N' j6 j7 v p' q1 q2 q3 q4 q5 q6 q7 q8 q9 q10
          refine kk h' fl' S' Z' A' N' j6 j7 v p' q1 ((u145.toS (by decide) (by decide)).tr q2) q3 q4 q5 (fun j hj => (q6 j hj).trans (xup_n _ _ (by omega))) q7 q8 q9 (fun q hq => ?_)
          have := q10 q hq
          rw [xup_n _ _ (by omega)] at this
          exact this
        | some t =>
          obtain ⟨x1, x2, x3, x4⟩ := xld_some hx
          have ht7 : t < 7 := by
            rw [x3]
            unfold xoth
            by_cases c : Me (2 * f) = A dp
            · rw [if_pos c]; exact hE _
            · rw [if_neg c]; exact hE _
          have hn0 : ∃ n', n = n' + 1 := by
            cases n with
            | succ n' => exact ⟨n', rfl⟩
            | zero =>
              obtain ⟨j, hj1, hj2⟩ := xpig7 (show 6 ≤ dp by omega) hA hinj ht7
              exact absurd hj2 (x4 j hj1)
          obtain ⟨n', rfl⟩ := hn0
          rw [xdk_s, hx] at hL
          have hpf : xb path f = false := by
            cases hp : xb path f with
            | false => rfl
            | true =>
              exfalso
              obtain ⟨j, hj1, hj2⟩ := hpath f hf14 hp t (by
                rw [x3]
                unfold xoth
                by_cases c : Me (2 * f) = A dp
                · rw [if_pos c]; exact Or.inr rfl
                · rw [if_neg c]; exact Or.inl rfl)
              exact x4 j hj1 hj2
          have hd9 : dp + 1 < 8 := by omega
          show xG xs LS (d + 2) 80 (155, _, [.int (nI t)]) _ Q
          refine xg_istore (L' := [_, _, _, _, _, _, _, _]) xa_M_list_155 (Nat.le_of_ble_eq_true rfl) rfl ?_
          refine xg_iload xa_M_list_157 rfl ?_
          refine xg_if_lt xa_M_list_159 (fun c => absurd c (nI_pos (by omega))) (fun _ => ?_)
          refine xg_iload xa_M_list_162 rfl ?_
          refine xg_iconst (v := 1) xa_M_list_164 (by decide) ?_
          refine xg_iload xa_M_list_165 rfl ?_
          refine xg_ishl xa_M_list_167 rfl ?_
          refine xg_ior xa_M_list_168 rfl ?_
          refine xg_istore (L' := [_, _, _, _, _, _, _, _]) xa_M_list_169 (Nat.le_of_ble_eq_true rfl) rfl ?_
          refine xg_iinc (L' := [_, _, _, _, _, _, _, _]) xa_M_list_171 rfl (xi_inc _) rfl ?_
          refine xg_aload_n xa_M_list_174 rfl ?_
          refine xg_getfield xa_M_list_175 (by assumption) rfl ?_
          refine xg_iload xa_M_list_178 rfl ?_
          refine xg_iload xa_M_list_180 rfl ?_
          refine xg_iastf_n xa_M_list_182 (by assumption) rfl (by assumption) (by decide) (fun h182 u182 => ?_)
          have hM2 := xMd_MA hM1 u182
          obtain ⟨g22, g23, g24, g25, g26, g27, g28, g29, g30, g31, g32, g33, g34, g35, g36, g37, g38, g39⟩ := id hM2
          refine xg_aload_n xa_M_list_183 rfl ?_
          refine xg_getfield xa_M_list_184 (by assumption) rfl ?_
          refine xg_iload xa_M_list_187 rfl ?_
          refine xg_iconst (v := 0) xa_M_list_189 (by decide) ?_
          refine xg_iastf_n xa_M_list_190 (by assumption) rfl (by assumption) (by decide) (fun h190 u190 => ?_)
          refine xg_goto xa_M_list_191 ?_
          have hM3 := xMd_MN (x := 0) hM2 u190
          have key : ∀ j, j ≤ dp → xup A (dp + 1) t j = A j := fun j hj => xup_n _ _ (by omega)
          have hL1 : P + (xdl Me Mm s b n' (xup A (dp + 1) t) (dp + 1) (path ||| xbt f)).length + (xdk Me Mm s b (n' + 1) A dp path (f + 1) k).length ≤ 4000 := by
            rw [hL, List.length_append] at hlen
            simp only at hlen
            omega
          refine ihB n' (by omega) Mm 0 (dp + 1) (path ||| xbt f) P S Z (xup A (dp + 1) t) (xup (xup N dp (f + 1)) (dp + 1) 0) h190 _ _ _ (xdl Me Mm s b n' (xup A (dp + 1) t) (dp + 1) (path ||| xbt f)) Q (by omega) (by omega) (xup_s _ _ _) (xdl_k _ _ _ _ _ _ _ _) hM3 ?_ ?_ ?_ ?_ (by omega) ?_
          · intro j
            unfold xup
            by_cases c : j = dp + 1
            · rw [if_pos c]; exact ht7
            · rw [if_neg c]; exact hA j
          · intro j
            by_cases c : j = dp + 1
            · rw [c, xup_s]; omega
            · rw [xup_n _ _ c]; exact hN1 j
          · intro i j hi hj hij
            by_cases c1 : i = dp + 1 <;> by_cases c2 : j = dp + 1
            · omega
            · rw [c1, xup_s, xup_n _ _ c2] at hij
              exact absurd hij.symm (x4 j (by omega))
            · rw [c2, xup_s, xup_n _ _ c1] at hij
              exact absurd hij (x4 i (by omega))
            · rw [xup_n _ _ c1, xup_n _ _ c2] at hij
              exact hinj i j (by omega) (by omega) hij
          · intro g hg hgb x hgx
            rw [xb_or _ _ (by omega), xb_bt (by omega) (by omega)] at hgb
            by_cases c : g = f
            · subst c
              have ends : x = A dp ∨ x = t := by
                rw [x3]
                unfold xoth
                by_cases c : Me (2 * g) = A dp
                · rw [if_pos c]
                  rcases hgx with z | z
                  · exact Or.inl (z.trans c)
                  · exact Or.inr z
                · rw [if_neg c]
                  rcases hgx with z | z
                  · exact Or.inr z
                  · rcases x2 with y | y
                    · exact absurd y c
                    · exact Or.inl (z.trans y)
              rcases ends with z | z
              · exact ⟨dp, by omega, by rw [key dp (by omega)]; exact z.symm⟩
              · exact ⟨dp + 1, by omega, by rw [xup_s]; exact z.symm⟩
            · rw [decide_eq_false c, Bool.or_false] at hgb
              obtain ⟨j, hj1, hj2⟩ := hpath g hg hgb x hgx
              exact ⟨j, by omega, by rw [key j hj1]; exact hj2⟩
          · intro h' fl' S' Z' A' N' j6 j7 v p' q1 q2 q3 q4 q5 q6 q7 q8 q9 q10
            obtain ⟨rfl, q11⟩ := q10 dp rfl
            have hNd : N' dp = f + 1 := by rw [q6 dp (by omega), xup_n _ _ (by omega), xup_s]
            have hp' : p' = path := by
              rw [q11, xup_n _ _ (by omega), xup_s, nI_pred]
              exact xbit_back (by omega) hpf
            subst hp'
            have hA' : ∀ j, j ≤ dp → A' j = A j := fun j hj => (q5 j (by omega)).trans (key j hj)
            refine ihk (f + 1) dp p' _ S' Z' A' N' h' fl' j6 j7 (xdk Me Mm s b (n' + 1) A dp p' (f + 1) k) Q hdn (by omega) hNd (by rw [hA' dp (by omega), if_neg hne]; exact (xdk_congr hA').symm) q1 q7 q8 (fun i j hi hj hij => by rw [hA' i hi, hA' j hj] at hij; exact hinj i j hi hj hij) (fun g hg hgb x hgx => by obtain ⟨j, hj1, hj2⟩ := hpath g hg hgb x hgx; exact ⟨j, hj1, (hA' j hj1).trans hj2⟩) (by omega) ?_
            intro h2 fl2 S2 Z2 A2 N2 j6 j7 v p2 r1 r2 r3 r4 r5 r6 r7 r8 r9 r10
            have eL : P + (xdl Me Mm s b n' (xup A (dp + 1) t) (dp + 1) (p' ||| xbt f)).length + (xdk Me Mm s b (n' + 1) A dp p' (f + 1) k).length = P + L.length := by
              rw [hL, List.length_append]
              simp only
              omega
            rw [eL] at r1
            refine kk h2 fl2 S2 Z2 A2 N2 j6 j7 v p2 r1 ((((u145.toS (by decide) (by decide)).tr (u182.toS (by decide) (by decide))).tr (u190.toS (by decide) (by decide))).tr (q2.tr r2)) ?_ ?_ (fun j hj => (r5 j hj).trans (hA' j hj)) ?_ r7 r8 r9 ?_
            · intro i hi
              obtain ⟨w1, w2⟩ := r3 i (by omega)
              obtain ⟨w3, w4⟩ := q3 i hi
              exact ⟨w1.trans w3, w2.trans w4⟩
            · intro i x hi
              rw [hL] at hi
              by_cases c : i < (xdl Me Mm s b n' (xup A (dp + 1) t) (dp + 1) (p' ||| xbt f)).length
              · rw [List.getElem?_append_left c] at hi
                obtain ⟨w1, w2⟩ := q4 i x hi
                obtain ⟨w3, w4⟩ := r3 (P + i) (by omega)
                exact ⟨w3.trans w1, w4.trans w2⟩
              · rw [List.getElem?_append_right (Nat.le_of_not_lt c)] at hi
                obtain ⟨w1, w2⟩ := r4 _ x hi
                have e : P + (xdl Me Mm s b n' (xup A (dp + 1) t) (dp + 1) (p' ||| xbt f)).length + (i - (xdl Me Mm s b n' (xup A (dp + 1) t) (dp + 1) (p' ||| xbt f)).length) = P + i := by omega
                rw [e] at w1 w2
                exact ⟨w1, w2⟩
            · intro j hj
              rw [r6 j hj, q6 j (by omega), xup_n _ _ (by omega), xup_n _ _ (by omega)]
            · intro q hq
              have := r10 q hq
              rw [q6 q (by omega), xup_n _ _ (by omega), xup_n _ _ (by omega)] at this
              exact this
end XM5
end
section
/-! 36.find: the model's findPath and findPair. -/
theorem xa_M_findPath_0 : xm_at xP 84 0 = some (0, .aload_n 0, 0, 0, 0, 0) := by decide +kernel
theorem xa_M_findPath_1 : xm_at xP 84 1 = some (1, .iload_n 1, 0, 0, 0, 0) := by decide +kernel
theorem xa_M_findPath_2 : xm_at xP 84 2 = some (2, .iload_n 2, 0, 0, 0, 0) := by decide +kernel
theorem xa_M_findPath_3 : xm_at xP 84 3 = some (3, .iload_n 3, 0, 0, 0, 0) := by decide +kernel
theorem xa_M_findPath_4 : xm_at xP 84 4 = some (4, .invokevirtual 97, 80, 4, 3, 0) := by decide +kernel
theorem xa_M_findPath_7 : xm_at xP 84 7 = some (7, .iconst (-1), 0, 0, 0, 0) := by decide +kernel
theorem xa_M_findPath_8 : xm_at xP 84 8 = some (8, .istore 4, 0, 0, 0, 0) := by decide +kernel
theorem xa_M_findPath_10 : xm_at xP 84 10 = some (10, .iconst 0, 0, 0, 0, 0) := by decide +kernel
theorem xa_M_findPath_11 : xm_at xP 84 11 = some (11, .istore 5, 0, 0, 0, 0) := by decide +kernel
theorem xa_M_findPath_13 : xm_at xP 84 13 = some (13, .iload 5, 0, 0, 0, 0) := by decide +kernel
theorem xa_M_findPath_15 : xm_at xP 84 15 = some (15, .aload_n 0, 0, 0, 0, 0) := by decide +kernel
theorem xa_M_findPath_16 : xm_at xP 84 16 = some (16, .getfield 86, 3, 17, 0, 0) := by decide +kernel
theorem xa_M_findPath_19 : xm_at xP 84 19 = some (19, .if_icmp .ge 72, 91, 0, 0, 0) := by decide +kernel
theorem xa_M_findPath_22 : xm_at xP 84 22 = some (22, .iload 4, 0, 0, 0, 0) := by decide +kernel
theorem xa_M_findPath_24 : xm_at xP 84 24 = some (24, .ifCond .lt 57, 81, 0, 0, 0) := by decide +kernel
theorem xa_M_findPath_27 : xm_at xP 84 27 = some (27, .aload_n 0, 0, 0, 0, 0) := by decide +kernel
theorem xa_M_findPath_28 : xm_at xP 84 28 = some (28, .getfield 57, 3, 19, 0, 0) := by decide +kernel
theorem xa_M_findPath_31 : xm_at xP 84 31 = some (31, .iload 5, 0, 0, 0, 0) := by decide +kernel
theorem xa_M_findPath_33 : xm_at xP 84 33 = some (33, .iaload, 0, 0, 0, 0) := by decide +kernel
theorem xa_M_findPath_34 : xm_at xP 84 34 = some (34, .aload_n 0, 0, 0, 0, 0) := by decide +kernel
theorem xa_M_findPath_35 : xm_at xP 84 35 = some (35, .getfield 57, 3, 19, 0, 0) := by decide +kernel
theorem xa_M_findPath_38 : xm_at xP 84 38 = some (38, .iload 4, 0, 0, 0, 0) := by decide +kernel
theorem xa_M_findPath_40 : xm_at xP 84 40 = some (40, .iaload, 0, 0, 0, 0) := by decide +kernel
theorem xa_M_findPath_41 : xm_at xP 84 41 = some (41, .if_icmp .lt 40, 81, 0, 0, 0) := by decide +kernel
theorem xa_M_findPath_44 : xm_at xP 84 44 = some (44, .aload_n 0, 0, 0, 0, 0) := by decide +kernel
theorem xa_M_findPath_45 : xm_at xP 84 45 = some (45, .getfield 57, 3, 19, 0, 0) := by decide +kernel
theorem xa_M_findPath_48 : xm_at xP 84 48 = some (48, .iload 5, 0, 0, 0, 0) := by decide +kernel
theorem xa_M_findPath_50 : xm_at xP 84 50 = some (50, .iaload, 0, 0, 0, 0) := by decide +kernel
theorem xa_M_findPath_51 : xm_at xP 84 51 = some (51, .aload_n 0, 0, 0, 0, 0) := by decide +kernel
theorem xa_M_findPath_52 : xm_at xP 84 52 = some (52, .getfield 57, 3, 19, 0, 0) := by decide +kernel
theorem xa_M_findPath_55 : xm_at xP 84 55 = some (55, .iload 4, 0, 0, 0, 0) := by decide +kernel
theorem xa_M_findPath_57 : xm_at xP 84 57 = some (57, .iaload, 0, 0, 0, 0) := by decide +kernel
theorem xa_M_findPath_58 : xm_at xP 84 58 = some (58, .if_icmp .ne 27, 85, 0, 0, 0) := by decide +kernel
theorem xa_M_findPath_61 : xm_at xP 84 61 = some (61, .aload_n 0, 0, 0, 0, 0) := by decide +kernel
theorem xa_M_findPath_62 : xm_at xP 84 62 = some (62, .getfield 54, 3, 18, 0, 0) := by decide +kernel
theorem xa_M_findPath_65 : xm_at xP 84 65 = some (65, .iload 5, 0, 0, 0, 0) := by decide +kernel
theorem xa_M_findPath_67 : xm_at xP 84 67 = some (67, .iaload, 0, 0, 0, 0) := by decide +kernel
theorem xa_M_findPath_68 : xm_at xP 84 68 = some (68, .aload_n 0, 0, 0, 0, 0) := by decide +kernel
theorem xa_M_findPath_69 : xm_at xP 84 69 = some (69, .getfield 54, 3, 18, 0, 0) := by decide +kernel
theorem xa_M_findPath_72 : xm_at xP 84 72 = some (72, .iload 4, 0, 0, 0, 0) := by decide +kernel
theorem xa_M_findPath_74 : xm_at xP 84 74 = some (74, .iaload, 0, 0, 0, 0) := by decide +kernel
theorem xa_M_findPath_75 : xm_at xP 84 75 = some (75, .invokestatic 101, 83, 2, 0, 0) := by decide +kernel
theorem xa_M_findPath_78 : xm_at xP 84 78 = some (78, .ifCond .eq 7, 85, 0, 0, 0) := by decide +kernel
theorem xa_M_findPath_81 : xm_at xP 84 81 = some (81, .iload 5, 0, 0, 0, 0) := by decide +kernel
theorem xa_M_findPath_83 : xm_at xP 84 83 = some (83, .istore 4, 0, 0, 0, 0) := by decide +kernel
theorem xa_M_findPath_85 : xm_at xP 84 85 = some (85, .iinc 5 1, 0, 0, 0, 0) := by decide +kernel
theorem xa_M_findPath_88 : xm_at xP 84 88 = some (88, .goto (-75), 13, 0, 0, 0) := by decide +kernel
theorem xa_M_findPath_91 : xm_at xP 84 91 = some (91, .iload 4, 0, 0, 0, 0) := by decide +kernel
theorem xa_M_findPath_93 : xm_at xP 84 93 = some (93, .ifCond .ge 5, 98, 0, 0, 0) := by decide +kernel
theorem xa_M_findPath_96 : xm_at xP 84 96 = some (96, .iconst 0, 0, 0, 0, 0) := by decide +kernel
theorem xa_M_findPath_97 : xm_at xP 84 97 = some (97, .ireturn, 0, 0, 0, 1) := by decide +kernel
theorem xa_M_findPath_98 : xm_at xP 84 98 = some (98, .aload_n 0, 0, 0, 0, 0) := by decide +kernel
theorem xa_M_findPath_99 : xm_at xP 84 99 = some (99, .aload_n 0, 0, 0, 0, 0) := by decide +kernel
theorem xa_M_findPath_100 : xm_at xP 84 100 = some (100, .getfield 54, 3, 18, 0, 0) := by decide +kernel
theorem xa_M_findPath_103 : xm_at xP 84 103 = some (103, .iload 4, 0, 0, 0, 0) := by decide +kernel
theorem xa_M_findPath_105 : xm_at xP 84 105 = some (105, .iaload, 0, 0, 0, 0) := by decide +kernel
theorem xa_M_findPath_106 : xm_at xP 84 106 = some (106, .putfield 105, 3, 22, 0, 0) := by decide +kernel
theorem xa_M_findPath_109 : xm_at xP 84 109 = some (109, .aload_n 0, 0, 0, 0, 0) := by decide +kernel
theorem xa_M_findPath_110 : xm_at xP 84 110 = some (110, .iconst 0, 0, 0, 0, 0) := by decide +kernel
theorem xa_M_findPath_111 : xm_at xP 84 111 = some (111, .putfield 108, 3, 23, 0, 0) := by decide +kernel
theorem xa_M_findPath_114 : xm_at xP 84 114 = some (114, .iconst 1, 0, 0, 0, 0) := by decide +kernel
theorem xa_M_findPath_115 : xm_at xP 84 115 = some (115, .ireturn, 0, 0, 0, 1) := by decide +kernel
theorem xa_M_findPair_0 : xm_at xP 79 0 = some (0, .aload_n 0, 0, 0, 0, 0) := by decide +kernel
theorem xa_M_findPair_1 : xm_at xP 79 1 = some (1, .iload_n 1, 0, 0, 0, 0) := by decide +kernel
theorem xa_M_findPair_2 : xm_at xP 79 2 = some (2, .iload_n 2, 0, 0, 0, 0) := by decide +kernel
theorem xa_M_findPair_3 : xm_at xP 79 3 = some (3, .iload_n 3, 0, 0, 0, 0) := by decide +kernel
theorem xa_M_findPair_4 : xm_at xP 79 4 = some (4, .invokevirtual 97, 80, 4, 3, 0) := by decide +kernel
theorem xa_M_findPair_7 : xm_at xP 79 7 = some (7, .iconst 0, 0, 0, 0, 0) := by decide +kernel
theorem xa_M_findPair_8 : xm_at xP 79 8 = some (8, .istore 4, 0, 0, 0, 0) := by decide +kernel
theorem xa_M_findPair_10 : xm_at xP 79 10 = some (10, .ldc 111, 100000, 0, 0, 0) := by decide +kernel
theorem xa_M_findPair_12 : xm_at xP 79 12 = some (12, .istore 5, 0, 0, 0, 0) := by decide +kernel
theorem xa_M_findPair_14 : xm_at xP 79 14 = some (14, .iconst 0, 0, 0, 0, 0) := by decide +kernel
theorem xa_M_findPair_15 : xm_at xP 79 15 = some (15, .istore 6, 0, 0, 0, 0) := by decide +kernel
theorem xa_M_findPair_17 : xm_at xP 79 17 = some (17, .iload 6, 0, 0, 0, 0) := by decide +kernel
theorem xa_M_findPair_19 : xm_at xP 79 19 = some (19, .aload_n 0, 0, 0, 0, 0) := by decide +kernel
theorem xa_M_findPair_20 : xm_at xP 79 20 = some (20, .getfield 86, 3, 17, 0, 0) := by decide +kernel
theorem xa_M_findPair_23 : xm_at xP 79 23 = some (23, .if_icmp .ge 118, 141, 0, 0, 0) := by decide +kernel
theorem xa_M_findPair_26 : xm_at xP 79 26 = some (26, .iconst 0, 0, 0, 0, 0) := by decide +kernel
theorem xa_M_findPair_27 : xm_at xP 79 27 = some (27, .istore 7, 0, 0, 0, 0) := by decide +kernel
theorem xa_M_findPair_29 : xm_at xP 79 29 = some (29, .iload 7, 0, 0, 0, 0) := by decide +kernel
theorem xa_M_findPair_31 : xm_at xP 79 31 = some (31, .iload 6, 0, 0, 0, 0) := by decide +kernel
theorem xa_M_findPair_33 : xm_at xP 79 33 = some (33, .if_icmp .ge 102, 135, 0, 0, 0) := by decide +kernel
theorem xa_M_findPair_36 : xm_at xP 79 36 = some (36, .aload_n 0, 0, 0, 0, 0) := by decide +kernel
theorem xa_M_findPair_37 : xm_at xP 79 37 = some (37, .getfield 57, 3, 19, 0, 0) := by decide +kernel
theorem xa_M_findPair_40 : xm_at xP 79 40 = some (40, .iload 6, 0, 0, 0, 0) := by decide +kernel
theorem xa_M_findPair_42 : xm_at xP 79 42 = some (42, .iaload, 0, 0, 0, 0) := by decide +kernel
theorem xa_M_findPair_43 : xm_at xP 79 43 = some (43, .aload_n 0, 0, 0, 0, 0) := by decide +kernel
theorem xa_M_findPair_44 : xm_at xP 79 44 = some (44, .getfield 57, 3, 19, 0, 0) := by decide +kernel
theorem xa_M_findPair_47 : xm_at xP 79 47 = some (47, .iload 7, 0, 0, 0, 0) := by decide +kernel
theorem xa_M_findPair_49 : xm_at xP 79 49 = some (49, .iaload, 0, 0, 0, 0) := by decide +kernel
theorem xa_M_findPair_50 : xm_at xP 79 50 = some (50, .iadd, 0, 0, 0, 0) := by decide +kernel
theorem xa_M_findPair_51 : xm_at xP 79 51 = some (51, .istore 8, 0, 0, 0, 0) := by decide +kernel
theorem xa_M_findPair_53 : xm_at xP 79 53 = some (53, .aload_n 0, 0, 0, 0, 0) := by decide +kernel
theorem xa_M_findPair_54 : xm_at xP 79 54 = some (54, .getfield 54, 3, 18, 0, 0) := by decide +kernel
theorem xa_M_findPair_57 : xm_at xP 79 57 = some (57, .iload 6, 0, 0, 0, 0) := by decide +kernel
theorem xa_M_findPair_59 : xm_at xP 79 59 = some (59, .iaload, 0, 0, 0, 0) := by decide +kernel
theorem xa_M_findPair_60 : xm_at xP 79 60 = some (60, .aload_n 0, 0, 0, 0, 0) := by decide +kernel
theorem xa_M_findPair_61 : xm_at xP 79 61 = some (61, .getfield 54, 3, 18, 0, 0) := by decide +kernel
theorem xa_M_findPair_64 : xm_at xP 79 64 = some (64, .iload 7, 0, 0, 0, 0) := by decide +kernel
theorem xa_M_findPair_66 : xm_at xP 79 66 = some (66, .iaload, 0, 0, 0, 0) := by decide +kernel
theorem xa_M_findPair_67 : xm_at xP 79 67 = some (67, .iand, 0, 0, 0, 0) := by decide +kernel
theorem xa_M_findPair_68 : xm_at xP 79 68 = some (68, .ifCond .ne 61, 129, 0, 0, 0) := by decide +kernel
theorem xa_M_findPair_71 : xm_at xP 79 71 = some (71, .iload 8, 0, 0, 0, 0) := by decide +kernel
theorem xa_M_findPair_73 : xm_at xP 79 73 = some (73, .iload 5, 0, 0, 0, 0) := by decide +kernel
theorem xa_M_findPair_75 : xm_at xP 79 75 = some (75, .if_icmp .lt 33, 108, 0, 0, 0) := by decide +kernel
theorem xa_M_findPair_78 : xm_at xP 79 78 = some (78, .iload 8, 0, 0, 0, 0) := by decide +kernel
theorem xa_M_findPair_80 : xm_at xP 79 80 = some (80, .iload 5, 0, 0, 0, 0) := by decide +kernel
theorem xa_M_findPair_82 : xm_at xP 79 82 = some (82, .if_icmp .ne 47, 129, 0, 0, 0) := by decide +kernel
theorem xa_M_findPair_85 : xm_at xP 79 85 = some (85, .aload_n 0, 0, 0, 0, 0) := by decide +kernel
theorem xa_M_findPair_86 : xm_at xP 79 86 = some (86, .getfield 54, 3, 18, 0, 0) := by decide +kernel
theorem xa_M_findPair_89 : xm_at xP 79 89 = some (89, .iload 6, 0, 0, 0, 0) := by decide +kernel
theorem xa_M_findPair_91 : xm_at xP 79 91 = some (91, .iaload, 0, 0, 0, 0) := by decide +kernel
theorem xa_M_findPair_92 : xm_at xP 79 92 = some (92, .aload_n 0, 0, 0, 0, 0) := by decide +kernel
theorem xa_M_findPair_93 : xm_at xP 79 93 = some (93, .getfield 54, 3, 18, 0, 0) := by decide +kernel
theorem xa_M_findPair_96 : xm_at xP 79 96 = some (96, .iload 7, 0, 0, 0, 0) := by decide +kernel
theorem xa_M_findPair_98 : xm_at xP 79 98 = some (98, .iaload, 0, 0, 0, 0) := by decide +kernel
theorem xa_M_findPair_99 : xm_at xP 79 99 = some (99, .ior, 0, 0, 0, 0) := by decide +kernel
theorem xa_M_findPair_100 : xm_at xP 79 100 = some (100, .iload 4, 0, 0, 0, 0) := by decide +kernel
theorem xa_M_findPair_102 : xm_at xP 79 102 = some (102, .invokestatic 101, 83, 2, 0, 0) := by decide +kernel
theorem xa_M_findPair_105 : xm_at xP 79 105 = some (105, .ifCond .eq 24, 129, 0, 0, 0) := by decide +kernel
theorem xa_M_findPair_108 : xm_at xP 79 108 = some (108, .iload 8, 0, 0, 0, 0) := by decide +kernel
theorem xa_M_findPair_110 : xm_at xP 79 110 = some (110, .istore 5, 0, 0, 0, 0) := by decide +kernel
theorem xa_M_findPair_112 : xm_at xP 79 112 = some (112, .aload_n 0, 0, 0, 0, 0) := by decide +kernel
theorem xa_M_findPair_113 : xm_at xP 79 113 = some (113, .getfield 54, 3, 18, 0, 0) := by decide +kernel
theorem xa_M_findPair_116 : xm_at xP 79 116 = some (116, .iload 6, 0, 0, 0, 0) := by decide +kernel
theorem xa_M_findPair_118 : xm_at xP 79 118 = some (118, .iaload, 0, 0, 0, 0) := by decide +kernel
theorem xa_M_findPair_119 : xm_at xP 79 119 = some (119, .aload_n 0, 0, 0, 0, 0) := by decide +kernel
theorem xa_M_findPair_120 : xm_at xP 79 120 = some (120, .getfield 54, 3, 18, 0, 0) := by decide +kernel
theorem xa_M_findPair_123 : xm_at xP 79 123 = some (123, .iload 7, 0, 0, 0, 0) := by decide +kernel
theorem xa_M_findPair_125 : xm_at xP 79 125 = some (125, .iaload, 0, 0, 0, 0) := by decide +kernel
theorem xa_M_findPair_126 : xm_at xP 79 126 = some (126, .ior, 0, 0, 0, 0) := by decide +kernel
theorem xa_M_findPair_127 : xm_at xP 79 127 = some (127, .istore 4, 0, 0, 0, 0) := by decide +kernel
theorem xa_M_findPair_129 : xm_at xP 79 129 = some (129, .iinc 7 1, 0, 0, 0, 0) := by decide +kernel
theorem xa_M_findPair_132 : xm_at xP 79 132 = some (132, .goto (-103), 29, 0, 0, 0) := by decide +kernel
theorem xa_M_findPair_135 : xm_at xP 79 135 = some (135, .iinc 6 1, 0, 0, 0, 0) := by decide +kernel
theorem xa_M_findPair_138 : xm_at xP 79 138 = some (138, .goto (-121), 17, 0, 0, 0) := by decide +kernel
theorem xa_M_findPair_141 : xm_at xP 79 141 = some (141, .iload 4, 0, 0, 0, 0) := by decide +kernel
theorem xa_M_findPair_143 : xm_at xP 79 143 = some (143, .ifCond .ne 5, 148, 0, 0, 0) := by decide +kernel
theorem xa_M_findPair_146 : xm_at xP 79 146 = some (146, .iconst 0, 0, 0, 0, 0) := by decide +kernel
theorem xa_M_findPair_147 : xm_at xP 79 147 = some (147, .ireturn, 0, 0, 0, 1) := by decide +kernel
theorem xa_M_findPair_148 : xm_at xP 79 148 = some (148, .iconst (-1), 0, 0, 0, 0) := by decide +kernel
theorem xa_M_findPair_149 : xm_at xP 79 149 = some (149, .istore 6, 0, 0, 0, 0) := by decide +kernel
theorem xa_M_findPair_151 : xm_at xP 79 151 = some (151, .iconst 0, 0, 0, 0, 0) := by decide +kernel
theorem xa_M_findPair_152 : xm_at xP 79 152 = some (152, .istore 7, 0, 0, 0, 0) := by decide +kernel
theorem xa_M_findPair_154 : xm_at xP 79 154 = some (154, .iload 7, 0, 0, 0, 0) := by decide +kernel
theorem xa_M_findPair_156 : xm_at xP 79 156 = some (156, .aload_n 0, 0, 0, 0, 0) := by decide +kernel
theorem xa_M_findPair_157 : xm_at xP 79 157 = some (157, .getfield 86, 3, 17, 0, 0) := by decide +kernel
theorem xa_M_findPair_160 : xm_at xP 79 160 = some (160, .if_icmp .ge 213, 373, 0, 0, 0) := by decide +kernel
theorem xa_M_findPair_163 : xm_at xP 79 163 = some (163, .iconst 0, 0, 0, 0, 0) := by decide +kernel
theorem xa_M_findPair_164 : xm_at xP 79 164 = some (164, .istore 8, 0, 0, 0, 0) := by decide +kernel
theorem xa_M_findPair_166 : xm_at xP 79 166 = some (166, .iload 8, 0, 0, 0, 0) := by decide +kernel
theorem xa_M_findPair_168 : xm_at xP 79 168 = some (168, .aload_n 0, 0, 0, 0, 0) := by decide +kernel
theorem xa_M_findPair_169 : xm_at xP 79 169 = some (169, .getfield 86, 3, 17, 0, 0) := by decide +kernel
theorem xa_M_findPair_172 : xm_at xP 79 172 = some (172, .if_icmp .ge 195, 367, 0, 0, 0) := by decide +kernel
theorem xa_M_findPair_175 : xm_at xP 79 175 = some (175, .iload 7, 0, 0, 0, 0) := by decide +kernel
theorem xa_M_findPair_177 : xm_at xP 79 177 = some (177, .iload 8, 0, 0, 0, 0) := by decide +kernel
theorem xa_M_findPair_179 : xm_at xP 79 179 = some (179, .if_icmp .eq 45, 224, 0, 0, 0) := by decide +kernel
theorem xa_M_findPair_182 : xm_at xP 79 182 = some (182, .aload_n 0, 0, 0, 0, 0) := by decide +kernel
theorem xa_M_findPair_183 : xm_at xP 79 183 = some (183, .getfield 54, 3, 18, 0, 0) := by decide +kernel
theorem xa_M_findPair_186 : xm_at xP 79 186 = some (186, .iload 7, 0, 0, 0, 0) := by decide +kernel
theorem xa_M_findPair_188 : xm_at xP 79 188 = some (188, .iaload, 0, 0, 0, 0) := by decide +kernel
theorem xa_M_findPair_189 : xm_at xP 79 189 = some (189, .aload_n 0, 0, 0, 0, 0) := by decide +kernel
theorem xa_M_findPair_190 : xm_at xP 79 190 = some (190, .getfield 54, 3, 18, 0, 0) := by decide +kernel
theorem xa_M_findPair_193 : xm_at xP 79 193 = some (193, .iload 8, 0, 0, 0, 0) := by decide +kernel
theorem xa_M_findPair_195 : xm_at xP 79 195 = some (195, .iaload, 0, 0, 0, 0) := by decide +kernel
theorem xa_M_findPair_196 : xm_at xP 79 196 = some (196, .iand, 0, 0, 0, 0) := by decide +kernel
theorem xa_M_findPair_197 : xm_at xP 79 197 = some (197, .ifCond .ne 27, 224, 0, 0, 0) := by decide +kernel
theorem xa_M_findPair_200 : xm_at xP 79 200 = some (200, .aload_n 0, 0, 0, 0, 0) := by decide +kernel
theorem xa_M_findPair_201 : xm_at xP 79 201 = some (201, .getfield 54, 3, 18, 0, 0) := by decide +kernel
theorem xa_M_findPair_204 : xm_at xP 79 204 = some (204, .iload 7, 0, 0, 0, 0) := by decide +kernel
theorem xa_M_findPair_206 : xm_at xP 79 206 = some (206, .iaload, 0, 0, 0, 0) := by decide +kernel
theorem xa_M_findPair_207 : xm_at xP 79 207 = some (207, .aload_n 0, 0, 0, 0, 0) := by decide +kernel
theorem xa_M_findPair_208 : xm_at xP 79 208 = some (208, .getfield 54, 3, 18, 0, 0) := by decide +kernel
theorem xa_M_findPair_211 : xm_at xP 79 211 = some (211, .iload 8, 0, 0, 0, 0) := by decide +kernel
theorem xa_M_findPair_213 : xm_at xP 79 213 = some (213, .iaload, 0, 0, 0, 0) := by decide +kernel
theorem xa_M_findPair_214 : xm_at xP 79 214 = some (214, .ior, 0, 0, 0, 0) := by decide +kernel
theorem xa_M_findPair_215 : xm_at xP 79 215 = some (215, .iload 4, 0, 0, 0, 0) := by decide +kernel
theorem xa_M_findPair_217 : xm_at xP 79 217 = some (217, .if_icmp .ne 7, 224, 0, 0, 0) := by decide +kernel
theorem xa_M_findPair_220 : xm_at xP 79 220 = some (220, .iconst 1, 0, 0, 0, 0) := by decide +kernel
theorem xa_M_findPair_221 : xm_at xP 79 221 = some (221, .goto 4, 225, 0, 0, 0) := by decide +kernel
theorem xa_M_findPair_224 : xm_at xP 79 224 = some (224, .iconst 0, 0, 0, 0, 0) := by decide +kernel
theorem xa_M_findPair_225 : xm_at xP 79 225 = some (225, .istore 9, 0, 0, 0, 0) := by decide +kernel
theorem xa_M_findPair_227 : xm_at xP 79 227 = some (227, .aload_n 0, 0, 0, 0, 0) := by decide +kernel
theorem xa_M_findPair_228 : xm_at xP 79 228 = some (228, .getfield 57, 3, 19, 0, 0) := by decide +kernel
theorem xa_M_findPair_231 : xm_at xP 79 231 = some (231, .iload 7, 0, 0, 0, 0) := by decide +kernel
theorem xa_M_findPair_233 : xm_at xP 79 233 = some (233, .iaload, 0, 0, 0, 0) := by decide +kernel
theorem xa_M_findPair_234 : xm_at xP 79 234 = some (234, .aload_n 0, 0, 0, 0, 0) := by decide +kernel
theorem xa_M_findPair_235 : xm_at xP 79 235 = some (235, .getfield 57, 3, 19, 0, 0) := by decide +kernel
theorem xa_M_findPair_238 : xm_at xP 79 238 = some (238, .iload 8, 0, 0, 0, 0) := by decide +kernel
theorem xa_M_findPair_240 : xm_at xP 79 240 = some (240, .iaload, 0, 0, 0, 0) := by decide +kernel
theorem xa_M_findPair_241 : xm_at xP 79 241 = some (241, .if_icmp .lt 40, 281, 0, 0, 0) := by decide +kernel
theorem xa_M_findPair_244 : xm_at xP 79 244 = some (244, .aload_n 0, 0, 0, 0, 0) := by decide +kernel
theorem xa_M_findPair_245 : xm_at xP 79 245 = some (245, .getfield 57, 3, 19, 0, 0) := by decide +kernel
theorem xa_M_findPair_248 : xm_at xP 79 248 = some (248, .iload 7, 0, 0, 0, 0) := by decide +kernel
theorem xa_M_findPair_250 : xm_at xP 79 250 = some (250, .iaload, 0, 0, 0, 0) := by decide +kernel
theorem xa_M_findPair_251 : xm_at xP 79 251 = some (251, .aload_n 0, 0, 0, 0, 0) := by decide +kernel
theorem xa_M_findPair_252 : xm_at xP 79 252 = some (252, .getfield 57, 3, 19, 0, 0) := by decide +kernel
theorem xa_M_findPair_255 : xm_at xP 79 255 = some (255, .iload 8, 0, 0, 0, 0) := by decide +kernel
theorem xa_M_findPair_257 : xm_at xP 79 257 = some (257, .iaload, 0, 0, 0, 0) := by decide +kernel
theorem xa_M_findPair_258 : xm_at xP 79 258 = some (258, .if_icmp .ne 27, 285, 0, 0, 0) := by decide +kernel
theorem xa_M_findPair_261 : xm_at xP 79 261 = some (261, .aload_n 0, 0, 0, 0, 0) := by decide +kernel
theorem xa_M_findPair_262 : xm_at xP 79 262 = some (262, .getfield 54, 3, 18, 0, 0) := by decide +kernel
theorem xa_M_findPair_265 : xm_at xP 79 265 = some (265, .iload 7, 0, 0, 0, 0) := by decide +kernel
theorem xa_M_findPair_267 : xm_at xP 79 267 = some (267, .iaload, 0, 0, 0, 0) := by decide +kernel
theorem xa_M_findPair_268 : xm_at xP 79 268 = some (268, .aload_n 0, 0, 0, 0, 0) := by decide +kernel
theorem xa_M_findPair_269 : xm_at xP 79 269 = some (269, .getfield 54, 3, 18, 0, 0) := by decide +kernel
theorem xa_M_findPair_272 : xm_at xP 79 272 = some (272, .iload 8, 0, 0, 0, 0) := by decide +kernel
theorem xa_M_findPair_274 : xm_at xP 79 274 = some (274, .iaload, 0, 0, 0, 0) := by decide +kernel
theorem xa_M_findPair_275 : xm_at xP 79 275 = some (275, .invokestatic 101, 83, 2, 0, 0) := by decide +kernel
theorem xa_M_findPair_278 : xm_at xP 79 278 = some (278, .ifCond .eq 7, 285, 0, 0, 0) := by decide +kernel
theorem xa_M_findPair_281 : xm_at xP 79 281 = some (281, .iconst 1, 0, 0, 0, 0) := by decide +kernel
theorem xa_M_findPair_282 : xm_at xP 79 282 = some (282, .goto 4, 286, 0, 0, 0) := by decide +kernel
theorem xa_M_findPair_285 : xm_at xP 79 285 = some (285, .iconst 0, 0, 0, 0, 0) := by decide +kernel
theorem xa_M_findPair_286 : xm_at xP 79 286 = some (286, .istore 10, 0, 0, 0, 0) := by decide +kernel
theorem xa_M_findPair_288 : xm_at xP 79 288 = some (288, .iload 9, 0, 0, 0, 0) := by decide +kernel
theorem xa_M_findPair_290 : xm_at xP 79 290 = some (290, .ifCond .eq 71, 361, 0, 0, 0) := by decide +kernel
theorem xa_M_findPair_293 : xm_at xP 79 293 = some (293, .iload 10, 0, 0, 0, 0) := by decide +kernel
theorem xa_M_findPair_295 : xm_at xP 79 295 = some (295, .ifCond .eq 66, 361, 0, 0, 0) := by decide +kernel
theorem xa_M_findPair_298 : xm_at xP 79 298 = some (298, .iload 6, 0, 0, 0, 0) := by decide +kernel
theorem xa_M_findPair_300 : xm_at xP 79 300 = some (300, .ifCond .lt 57, 357, 0, 0, 0) := by decide +kernel
theorem xa_M_findPair_303 : xm_at xP 79 303 = some (303, .aload_n 0, 0, 0, 0, 0) := by decide +kernel
theorem xa_M_findPair_304 : xm_at xP 79 304 = some (304, .getfield 57, 3, 19, 0, 0) := by decide +kernel
theorem xa_M_findPair_307 : xm_at xP 79 307 = some (307, .iload 7, 0, 0, 0, 0) := by decide +kernel
theorem xa_M_findPair_309 : xm_at xP 79 309 = some (309, .iaload, 0, 0, 0, 0) := by decide +kernel
theorem xa_M_findPair_310 : xm_at xP 79 310 = some (310, .aload_n 0, 0, 0, 0, 0) := by decide +kernel
theorem xa_M_findPair_311 : xm_at xP 79 311 = some (311, .getfield 57, 3, 19, 0, 0) := by decide +kernel
theorem xa_M_findPair_314 : xm_at xP 79 314 = some (314, .iload 6, 0, 0, 0, 0) := by decide +kernel
theorem xa_M_findPair_316 : xm_at xP 79 316 = some (316, .iaload, 0, 0, 0, 0) := by decide +kernel
theorem xa_M_findPair_317 : xm_at xP 79 317 = some (317, .if_icmp .lt 40, 357, 0, 0, 0) := by decide +kernel
theorem xa_M_findPair_320 : xm_at xP 79 320 = some (320, .aload_n 0, 0, 0, 0, 0) := by decide +kernel
theorem xa_M_findPair_321 : xm_at xP 79 321 = some (321, .getfield 57, 3, 19, 0, 0) := by decide +kernel
theorem xa_M_findPair_324 : xm_at xP 79 324 = some (324, .iload 7, 0, 0, 0, 0) := by decide +kernel
theorem xa_M_findPair_326 : xm_at xP 79 326 = some (326, .iaload, 0, 0, 0, 0) := by decide +kernel
theorem xa_M_findPair_327 : xm_at xP 79 327 = some (327, .aload_n 0, 0, 0, 0, 0) := by decide +kernel
theorem xa_M_findPair_328 : xm_at xP 79 328 = some (328, .getfield 57, 3, 19, 0, 0) := by decide +kernel
theorem xa_M_findPair_331 : xm_at xP 79 331 = some (331, .iload 6, 0, 0, 0, 0) := by decide +kernel
theorem xa_M_findPair_333 : xm_at xP 79 333 = some (333, .iaload, 0, 0, 0, 0) := by decide +kernel
theorem xa_M_findPair_334 : xm_at xP 79 334 = some (334, .if_icmp .ne 27, 361, 0, 0, 0) := by decide +kernel
theorem xa_M_findPair_337 : xm_at xP 79 337 = some (337, .aload_n 0, 0, 0, 0, 0) := by decide +kernel
theorem xa_M_findPair_338 : xm_at xP 79 338 = some (338, .getfield 54, 3, 18, 0, 0) := by decide +kernel
theorem xa_M_findPair_341 : xm_at xP 79 341 = some (341, .iload 7, 0, 0, 0, 0) := by decide +kernel
theorem xa_M_findPair_343 : xm_at xP 79 343 = some (343, .iaload, 0, 0, 0, 0) := by decide +kernel
theorem xa_M_findPair_344 : xm_at xP 79 344 = some (344, .aload_n 0, 0, 0, 0, 0) := by decide +kernel
theorem xa_M_findPair_345 : xm_at xP 79 345 = some (345, .getfield 54, 3, 18, 0, 0) := by decide +kernel
theorem xa_M_findPair_348 : xm_at xP 79 348 = some (348, .iload 6, 0, 0, 0, 0) := by decide +kernel
theorem xa_M_findPair_350 : xm_at xP 79 350 = some (350, .iaload, 0, 0, 0, 0) := by decide +kernel
theorem xa_M_findPair_351 : xm_at xP 79 351 = some (351, .invokestatic 101, 83, 2, 0, 0) := by decide +kernel
theorem xa_M_findPair_354 : xm_at xP 79 354 = some (354, .ifCond .eq 7, 361, 0, 0, 0) := by decide +kernel
theorem xa_M_findPair_357 : xm_at xP 79 357 = some (357, .iload 7, 0, 0, 0, 0) := by decide +kernel
theorem xa_M_findPair_359 : xm_at xP 79 359 = some (359, .istore 6, 0, 0, 0, 0) := by decide +kernel
theorem xa_M_findPair_361 : xm_at xP 79 361 = some (361, .iinc 8 1, 0, 0, 0, 0) := by decide +kernel
theorem xa_M_findPair_364 : xm_at xP 79 364 = some (364, .goto (-198), 166, 0, 0, 0) := by decide +kernel
theorem xa_M_findPair_367 : xm_at xP 79 367 = some (367, .iinc 7 1, 0, 0, 0, 0) := by decide +kernel
theorem xa_M_findPair_370 : xm_at xP 79 370 = some (370, .goto (-216), 154, 0, 0, 0) := by decide +kernel
theorem xa_M_findPair_373 : xm_at xP 79 373 = some (373, .aload_n 0, 0, 0, 0, 0) := by decide +kernel
theorem xa_M_findPair_374 : xm_at xP 79 374 = some (374, .aload_n 0, 0, 0, 0, 0) := by decide +kernel
theorem xa_M_findPair_375 : xm_at xP 79 375 = some (375, .getfield 54, 3, 18, 0, 0) := by decide +kernel
theorem xa_M_findPair_378 : xm_at xP 79 378 = some (378, .iload 6, 0, 0, 0, 0) := by decide +kernel
theorem xa_M_findPair_380 : xm_at xP 79 380 = some (380, .iaload, 0, 0, 0, 0) := by decide +kernel
theorem xa_M_findPair_381 : xm_at xP 79 381 = some (381, .putfield 105, 3, 22, 0, 0) := by decide +kernel
theorem xa_M_findPair_384 : xm_at xP 79 384 = some (384, .aload_n 0, 0, 0, 0, 0) := by decide +kernel
theorem xa_M_findPair_385 : xm_at xP 79 385 = some (385, .iload 4, 0, 0, 0, 0) := by decide +kernel
theorem xa_M_findPair_387 : xm_at xP 79 387 = some (387, .aload_n 0, 0, 0, 0, 0) := by decide +kernel
theorem xa_M_findPair_388 : xm_at xP 79 388 = some (388, .getfield 54, 3, 18, 0, 0) := by decide +kernel
theorem xa_M_findPair_391 : xm_at xP 79 391 = some (391, .iload 6, 0, 0, 0, 0) := by decide +kernel
theorem xa_M_findPair_393 : xm_at xP 79 393 = some (393, .iaload, 0, 0, 0, 0) := by decide +kernel
theorem xa_M_findPair_394 : xm_at xP 79 394 = some (394, .iconst (-1), 0, 0, 0, 0) := by decide +kernel
theorem xa_M_findPair_395 : xm_at xP 79 395 = some (395, .ixor, 0, 0, 0, 0) := by decide +kernel
theorem xa_M_findPair_396 : xm_at xP 79 396 = some (396, .iand, 0, 0, 0, 0) := by decide +kernel
theorem xa_M_findPair_397 : xm_at xP 79 397 = some (397, .putfield 108, 3, 23, 0, 0) := by decide +kernel
theorem xa_M_findPair_400 : xm_at xP 79 400 = some (400, .iconst 1, 0, 0, 0, 0) := by decide +kernel
theorem xa_M_findPair_401 : xm_at xP 79 401 = some (401, .ireturn, 0, 0, 0, 1) := by decide +kernel
theorem xa_M_find_0 : xm_at xP 75 0 = some (0, .iload 4, 0, 0, 0, 0) := by decide +kernel
theorem xa_M_find_2 : xm_at xP 75 2 = some (2, .ifCond .eq 17, 19, 0, 0, 0) := by decide +kernel
theorem xa_M_find_5 : xm_at xP 75 5 = some (5, .aload_n 0, 0, 0, 0, 0) := by decide +kernel
theorem xa_M_find_6 : xm_at xP 75 6 = some (6, .aload_n 0, 0, 0, 0, 0) := by decide +kernel
theorem xa_M_find_7 : xm_at xP 75 7 = some (7, .iload_n 1, 0, 0, 0, 0) := by decide +kernel
theorem xa_M_find_8 : xm_at xP 75 8 = some (8, .invokevirtual 112, 76, 2, 3, 0) := by decide +kernel
theorem xa_M_find_11 : xm_at xP 75 11 = some (11, .iload_n 2, 0, 0, 0, 0) := by decide +kernel
theorem xa_M_find_12 : xm_at xP 75 12 = some (12, .iload_n 3, 0, 0, 0, 0) := by decide +kernel
theorem xa_M_find_13 : xm_at xP 75 13 = some (13, .invokevirtual 115, 79, 4, 3, 0) := by decide +kernel
theorem xa_M_find_16 : xm_at xP 75 16 = some (16, .goto 14, 30, 0, 0, 0) := by decide +kernel
theorem xa_M_find_19 : xm_at xP 75 19 = some (19, .aload_n 0, 0, 0, 0, 0) := by decide +kernel
theorem xa_M_find_20 : xm_at xP 75 20 = some (20, .aload_n 0, 0, 0, 0, 0) := by decide +kernel
theorem xa_M_find_21 : xm_at xP 75 21 = some (21, .iload_n 1, 0, 0, 0, 0) := by decide +kernel
theorem xa_M_find_22 : xm_at xP 75 22 = some (22, .invokevirtual 112, 76, 2, 3, 0) := by decide +kernel
theorem xa_M_find_25 : xm_at xP 75 25 = some (25, .iload_n 2, 0, 0, 0, 0) := by decide +kernel
theorem xa_M_find_26 : xm_at xP 75 26 = some (26, .iload_n 3, 0, 0, 0, 0) := by decide +kernel
theorem xa_M_find_27 : xm_at xP 75 27 = some (27, .invokevirtual 119, 84, 4, 3, 0) := by decide +kernel
theorem xa_M_find_30 : xm_at xP 75 30 = some (30, .ireturn, 0, 0, 0, 1) := by decide +kernel
section XM6
variable {xs : Nat → Int32} {LS d : Nat} {ks : Nat} {fl : Bool} {h : List va_E} {Q : (Option Value ⊕ Nat) → xm_S → Prop}
variable {Mc : Int32} {Mn : Nat} {Mm : Nat} {Mh : Int32} {Mp : Nat} {Mfw : Int32} {Mfs : Int32} {Me : Nat → Nat} {Ml : Nat → Nat} {Mbr : Nat → Bool} {Mlk : Nat → Bool} {Mt : Nat → Bool} {Mg : Nat → Bool} {Ma : Nat → Nat} {Mb : Nat → Nat} {Mw : Nat → Nat} {Mwk : Nat → Int32} {Msp : Nat → Int32} {Mon : Nat → Int32} {Mct : Nat → Int32} {MS : Nat → Int32} {MZ : Nat → Int32} {MA : Nat → Nat} {MN : Nat → Nat}
/-- the sets of all paths from a to b among the fibres s, as the model lists them -/
def xPL (e : Nat → Nat) (m : Nat) (s : Int32) (a b : Nat) : List Int32 := xdl e m s b 6 (fun _ => a) 0 0
/-- S and Z hold the list and its lengths -/
def xSZ (l : Nat → Nat) (m : Nat) (L : List Int32) (S Z : Nat → Int32) : Prop := ∀ i x, L[i]? = some x → S i = x ∧ Z i = xlen (fun j => nI (l j)) x m
theorem c_M_list {s : Int32} {a b : Nat} (hm : Mm ≤ 14) (hE : ∀ j, Me j < 7) (ha : a < 7) (hb : b < 7) (hA : ∀ j, MA j < 7) (hN : ∀ j, MN j < 100) (hlen : (xPL Me Mm s a b).length ≤ 4000) (hM : xMd h Mc Mn Mm Mh Mp Mfw Mfs Me Ml Mbr Mlk Mt Mg Ma Mb Mw Mwk Msp Mon Mct MS MZ MA MN)
    (k : ∀ h' fl' S Z A N, xMd h' Mc Mn Mm Mh (xPL Me Mm s a b).length Mfw Mfs Me Ml Mbr Mlk Mt Mg Ma Mb Mw Mwk Msp Mon Mct S Z A N → xS h h' 22 40 → xSZ Ml Mm (xPL Me Mm s a b) S Z → (∀ j, A j < 7) → (∀ j, N j < 100) → Q (.inl none) (h', ks, fl')) :
    xG xs LS (d + 2) 80 (0, xm_entry xP 80 [.ref 22, .int s, .int (nI a), .int (nI b)], []) (h, ks, fl) Q := by
  show xG xs LS (d + 2) 80 (0, [some (.ref 22), some (.int s), some (.int (nI a)), some (.int (nI b)), none, none, none, none], []) (h, ks, fl) Q
  obtain ⟨g22, g23, g24, g25, g26, g27, g28, g29, g30, g31, g32, g33, g34, g35, g36, g37, g38, g39⟩ := id hM
  refine xg_aload_n xa_M_list_0 rfl ?_
  refine xg_iconst (v := 0) xa_M_list_1 (by decide) ?_
  refine xg_putf (fs' := [_, _, _, _, _, _, _, _, _, _, _, _, _, _, _, _, _, _, _, _, _, _, _, _]) xa_M_list_2 (by assumption) (Nat.le_of_ble_eq_true rfl) rfl rfl (fun hq2 u2 => ?_)
  have hM1 := xMd_o (Mp' := 0) hM u2
  obtain ⟨g22, g23, g24, g25, g26, g27, g28, g29, g30, g31, g32, g33, g34, g35, g36, g37, g38, g39⟩ := id hM1
  refine xg_iconst (v := 0) xa_M_list_5 (by decide) ?_
  refine xg_istore (L' := [_, _, _, _, _, _, _, _]) xa_M_list_6 (Nat.le_of_ble_eq_true rfl) rfl ?_
  refine xg_iconst (v := 0) xa_M_list_8 (by decide) ?_
  refine xg_istore (L' := [_, _, _, _, _, _, _, _]) xa_M_list_9 (Nat.le_of_ble_eq_true rfl) rfl ?_
  refine xg_aload_n xa_M_list_11 rfl ?_
  refine xg_getfield xa_M_list_12 (by assumption) rfl ?_
  refine xg_iconst (v := 0) xa_M_list_15 (by decide) ?_
  refine xg_iload_n xa_M_list_16 rfl ?_
  refine xg_iastf_n (i := 0) xa_M_list_17 (by assumption) rfl (by decide) (by decide) (fun h17 u17 => ?_)
  have hM2 := xMd_MA hM1 u17
  obtain ⟨g22, g23, g24, g25, g26, g27, g28, g29, g30, g31, g32, g33, g34, g35, g36, g37, g38, g39⟩ := id hM2
  refine xg_aload_n xa_M_list_18 rfl ?_
  refine xg_getfield xa_M_list_19 (by assumption) rfl ?_
  refine xg_iconst (v := 0) xa_M_list_22 (by decide) ?_
  refine xg_iconst (v := 0) xa_M_list_23 (by decide) ?_
  refine xg_iastf_n (i := 0) xa_M_list_24 (by assumption) rfl (by decide) (by decide) (fun h24 u24 => ?_)
  have hM3 := xMd_MN (x := 0) hM2 u24
  have eL : xPL Me Mm s a b = if xup MA 0 a 0 = b then [(0 : Int32)] else xdk Me Mm s b 6 (xup MA 0 a) 0 0 0 Mm := by
    rw [← xdl_k]
    exact xdl_congr 6 _ _ 0 0 (fun j hj => by rw [show j = 0 by omega, xup_s])
  refine xl_node (a := a) hm hE hb 7 6 (by omega) Mm 0 0 0 0 MS MZ (xup MA 0 a) (xup MN 0 0) h24 _ none none (xPL Me Mm s a b) Q rfl (by omega) (xup_s _ _ _) eL hM3 ?_ ?_ (fun i j hi hj _ => by omega) (fun g _ hg => by rw [xb_0] at hg; cases hg) (by omega) ?_
  · intro j
    by_cases c : j = 0
    · rw [c, xup_s]; exact ha
    · rw [xup_n _ _ c]; exact hA j
  · intro j
    by_cases c : j = 0
    · rw [c, xup_s]; omega
    · rw [xup_n _ _ c]; exact hN j
  · intro h' fl' S Z A N j6 j7 v p' q1 q2 q3 q4 q5 q6 q7 q8 q9 q10
    rw [Nat.zero_add] at q1
    rw [q9 rfl]
    refine xg_iload xa_M_list_25 rfl ?_
    refine xg_if_lt xa_M_list_27 (fun _ => ?_) (fun c => absurd (show (-1 : Int32) < 0 from by decide) c)
    refine xg_return xa_M_list_194 (k h' _ S Z A N q1 ((((u2.toS (by decide) (by decide)).tr (u17.toS (by decide) (by decide))).tr (u24.toS (by decide) (by decide))).tr q2) (fun i x hx => ?_) q7 q8)
    have := q4 i x hx
    rw [Nat.zero_add] at this
    exact this
/-- path p is less than path q -/
def xls (S Z : Nat → Int32) (p q : Nat) : Bool := decide (Z p < Z q) || (decide (Z p = Z q) && xbef (S p) (S q))
/-- the least of the first paths -/
def xfp (S Z : Nat → Int32) : Nat → Option Nat
  | 0 => none
  | p + 1 => match xfp S Z p with
    | none => some p
    | some b => if xls S Z p b = true then some p else some b
theorem xfp_lt (S Z : Nat → Int32) : ∀ p b, xfp S Z p = some b → b < p := by
  intro p
  induction p with
  | zero => intro b hb; cases hb
  | succ p ih =>
    intro b hb
    unfold xfp at hb
    cases hx : xfp S Z p with
    | none => rw [hx] at hb; cases hb; omega
    | some c =>
      rw [hx] at hb
      simp only at hb
      have := ih c hx
      by_cases q : xls S Z p c = true
      · rw [if_pos q] at hb; cases hb; omega
      · rw [if_neg q] at hb; cases hb; omega
theorem c_M_findPath {s : Int32} {a b : Nat} (hm : Mm ≤ 14) (hE : ∀ j, Me j < 7) (ha : a < 7) (hb : b < 7) (hA : ∀ j, MA j < 7) (hN : ∀ j, MN j < 100) (hlen : (xPL Me Mm s a b).length ≤ 4000) (hM : xMd h Mc Mn Mm Mh Mp Mfw Mfs Me Ml Mbr Mlk Mt Mg Ma Mb Mw Mwk Msp Mon Mct MS MZ MA MN)
    (k0 : ∀ h' fl' S Z A N, xMd h' Mc Mn Mm Mh (xPL Me Mm s a b).length Mfw Mfs Me Ml Mbr Mlk Mt Mg Ma Mb Mw Mwk Msp Mon Mct S Z A N → xS h h' 22 40 → xSZ Ml Mm (xPL Me Mm s a b) S Z → (∀ j, A j < 7) → (∀ j, N j < 100) → xfp S Z (xPL Me Mm s a b).length = none → Q (.inl (some (.int 0))) (h', ks, fl'))
    (k1 : ∀ h' fl' S Z A N i, xMd h' Mc Mn Mm Mh (xPL Me Mm s a b).length (S i) 0 Me Ml Mbr Mlk Mt Mg Ma Mb Mw Mwk Msp Mon Mct S Z A N → xS h h' 22 40 → xSZ Ml Mm (xPL Me Mm s a b) S Z → (∀ j, A j < 7) → (∀ j, N j < 100) → xfp S Z (xPL Me Mm s a b).length = some i → Q (.inl (some (.int 1))) (h', ks, fl')) :
    xG xs LS (d + 3) 84 (0, xm_entry xP 84 [.ref 22, .int s, .int (nI a), .int (nI b)], []) (h, ks, fl) Q := by
  show xG xs LS (d + 3) 84 (0, [some (.ref 22), some (.int s), some (.int (nI a)), some (.int (nI b)), none, none], []) (h, ks, fl) Q
  obtain ⟨g22, g23, g24, g25, g26, g27, g28, g29, g30, g31, g32, g33, g34, g35, g36, g37, g38, g39⟩ := id hM
  refine xg_aload_n xa_M_findPath_0 rfl ?_
  refine xg_iload_n xa_M_findPath_1 rfl ?_
  refine xg_iload_n xa_M_findPath_2 rfl ?_
  refine xg_iload_n xa_M_findPath_3 rfl ?_
  refine xg_callV0 xa_M_findPath_4 ⟨Nat.le_of_ble_eq_true rfl, Nat.le_of_ble_eq_true rfl, rfl⟩ rfl rfl (by assumption) ?_
  refine c_M_list hm hE ha hb hA hN hlen hM (fun h' fl' S Z A N hM' hS' hSZ hA' hN' => xK0_d ?_)
  clear g22 g23 g24 g25 g26 g27 g28 g29 g30 g31 g32 g33 g34 g35 g36 g37 g38 g39
  obtain ⟨g22, g23, g24, g25, g26, g27, g28, g29, g30, g31, g32, g33, g34, g35, g36, g37, g38, g39⟩ := id hM'
  have k0 := fun fl' => k0 h' fl' S Z A N hM' hS' hSZ hA' hN'
  have k1 := fun h2 fl' i => k1 h2 fl' S Z A N i
  generalize (xPL Me Mm s a b).length = P at *
  have loop : ∀ n p fl', p + n = P → xG xs LS (d + 3) 84 (13, [some (.ref 22), some (.int s), some (.int (nI a)), some (.int (nI b)), some (.int (xo (xfp S Z p))), some (.int (nI p))], []) (h', ks, fl') Q := by
    intro n
    induction n with
    | zero =>
      intro p fl' hp
      have e : p = P := by omega
      subst e
      refine xg_iload xa_M_findPath_13 rfl ?_
      refine xg_aload_n xa_M_findPath_15 rfl ?_
      refine xg_getfield xa_M_findPath_16 (by assumption) rfl ?_
      refine xg_icmp_ge xa_M_findPath_19 (fun _ => ?_) (fun c => absurd (nI_le (by omega) (by omega)) c)
      cases hx : xfp S Z p with
      | none =>
        refine xg_iload xa_M_findPath_91 rfl ?_
        refine xg_if_ge xa_M_findPath_93 (fun c => absurd c (show ¬ (0 : Int32) ≤ -1 from by decide)) (fun _ => ?_)
        refine xg_iconst (v := 0) xa_M_findPath_96 (by decide) ?_
        refine xg_zreturn xa_M_findPath_97 (Or.inl rfl) ?_
        exact k0 _ hx
      | some i =>
        have hi := xfp_lt S Z p i hx
        have hi4 : i < 4000 := by omega
        show xG xs LS (d + 3) 84 (91, [some (.ref 22), some (.int s), some (.int (nI a)), some (.int (nI b)), some (.int (nI i)), some (.int (nI p))], []) (h', ks, fl') Q
        refine xg_iload xa_M_findPath_91 rfl ?_
        refine xg_if_ge xa_M_findPath_93 (fun _ => ?_) (fun c => absurd (nI_pos' (by omega)) c)
        refine xg_aload_n xa_M_findPath_98 rfl ?_
        refine xg_aload_n xa_M_findPath_99 rfl ?_
        refine xg_getfield xa_M_findPath_100 (by assumption) rfl ?_
        refine xg_iload xa_M_findPath_103 rfl ?_
        refine xg_iald_n xa_M_findPath_105 (by assumption) rfl (by assumption) (by decide) ?_
        refine xg_putf (fs' := [_, _, _, _, _, _, _, _, _, _, _, _, _, _, _, _, _, _, _, _, _, _, _, _]) xa_M_findPath_106 (by assumption) (Nat.le_of_ble_eq_true rfl) rfl rfl (fun h106 u106 => ?_)
        have hM2 := xMd_o (Mfw' := S i) hM' u106
        obtain ⟨g22, g23, g24, g25, g26, g27, g28, g29, g30, g31, g32, g33, g34, g35, g36, g37, g38, g39⟩ := id hM2
        refine xg_aload_n xa_M_findPath_109 rfl ?_
        refine xg_iconst (v := 0) xa_M_findPath_110 (by decide) ?_
        refine xg_putf (fs' := [_, _, _, _, _, _, _, _, _, _, _, _, _, _, _, _, _, _, _, _, _, _, _, _]) xa_M_findPath_111 (by assumption) (Nat.le_of_ble_eq_true rfl) rfl rfl (fun h111 u111 => ?_)
        refine xg_iconst (v := 1) xa_M_findPath_114 (by decide) ?_
        have hM3 := xMd_o (Mfs' := 0) hM2 u111
        refine xg_zreturn xa_M_findPath_115 (Or.inr rfl) (k1 h111 _ i hM3 ((hS'.tr (u106.toS (by decide) (by decide))).tr (u111.toS (by decide) (by decide))) hSZ hA' hN' hx)
    | succ n ih =>
      intro p fl' hp
      have hp4 : p < 4000 := by omega
      have next : ∀ v fl', v = xfp S Z (p + 1) → xG xs LS (d + 3) 84 (85, [some (.ref 22), some (.int s), some (.int (nI a)), some (.int (nI b)), some (.int (xo v)), some (.int (nI p))], []) (h', ks, fl') Q := by
        intro v fl' e
        subst e
        refine xg_iinc (L' := [_, _, _, _, _, _]) xa_M_findPath_85 rfl (xi_inc _) rfl ?_
        refine xg_goto xa_M_findPath_88 ?_
        exact ih (p + 1) _ (by omega)
      have take : ∀ v fl', some p = xfp S Z (p + 1) → xG xs LS (d + 3) 84 (81, [some (.ref 22), some (.int s), some (.int (nI a)), some (.int (nI b)), some (.int v), some (.int (nI p))], []) (h', ks, fl') Q := by
        intro v fl' e
        refine xg_iload xa_M_findPath_81 rfl ?_
        refine xg_istore (L' := [_, _, _, _, _, _]) xa_M_findPath_83 (Nat.le_of_ble_eq_true rfl) rfl ?_
        exact next _ _ e
      refine xg_iload xa_M_findPath_13 rfl ?_
      refine xg_aload_n xa_M_findPath_15 rfl ?_
      refine xg_getfield xa_M_findPath_16 (by assumption) rfl ?_
      refine xg_icmp_ge xa_M_findPath_19 (fun c => absurd c (nI_ge (by omega) (by omega))) (fun _ => ?_)
      have e1 : xfp S Z (p + 1) = match xfp S Z p with
        | none => some p
        | some b => if xls S Z p b = true then some p else some b := rfl
      cases hx : xfp S Z p with
      | none =>
        rw [hx] at e1
        refine xg_iload xa_M_findPath_22 rfl ?_
        refine xg_if_lt xa_M_findPath_24 (fun _ => take _ _ e1.symm) (fun c => absurd (show (-1 : Int32) < 0 from by decide) c)
      | some i =>
        rw [hx] at e1
        simp only at e1
        have hi := xfp_lt S Z p i hx
        have hi4 : i < 4000 := by omega
        have yes : xls S Z p i = true → some p = xfp S Z (p + 1) := fun q => by rw [e1, if_pos q]
        have no : ¬ xls S Z p i = true → some i = xfp S Z (p + 1) := fun q => by rw [e1, if_neg q]
        unfold xls at yes no
        show xG xs LS (d + 3) 84 (22, [some (.ref 22), some (.int s), some (.int (nI a)), some (.int (nI b)), some (.int (nI i)), some (.int (nI p))], []) (h', ks, fl') Q
        refine xg_iload xa_M_findPath_22 rfl ?_
        refine xg_if_lt xa_M_findPath_24 (fun c => absurd c (nI_pos (by omega))) (fun _ => ?_)
        refine xg_aload_n xa_M_findPath_27 rfl ?_
        refine xg_getfield xa_M_findPath_28 (by assumption) rfl ?_
        refine xg_iload xa_M_findPath_31 rfl ?_
        refine xg_iald_n xa_M_findPath_33 (by assumption) rfl (by assumption) (by decide) ?_
        refine xg_aload_n xa_M_findPath_34 rfl ?_
        refine xg_getfield xa_M_findPath_35 (by assumption) rfl ?_
        refine xg_iload xa_M_findPath_38 rfl ?_
        refine xg_iald_n xa_M_findPath_40 (by assumption) rfl (by assumption) (by decide) ?_
        refine xg_icmp_lt xa_M_findPath_41 (fun c => take _ _ (yes (by rw [decide_eq_true c]; rfl))) (fun c41 => ?_)
        refine xg_aload_n xa_M_findPath_44 rfl ?_
        refine xg_getfield xa_M_findPath_45 (by assumption) rfl ?_
        refine xg_iload xa_M_findPath_48 rfl ?_
        refine xg_iald_n xa_M_findPath_50 (by assumption) rfl (by assumption) (by decide) ?_
        refine xg_aload_n xa_M_findPath_51 rfl ?_
        refine xg_getfield xa_M_findPath_52 (by assumption) rfl ?_
        refine xg_iload xa_M_findPath_55 rfl ?_
        refine xg_iald_n xa_M_findPath_57 (by assumption) rfl (by assumption) (by decide) ?_
        refine xg_icmp_ne xa_M_findPath_58 (fun c => next (some i) _ (no (by rw [decide_eq_false c41, decide_eq_false c]; simp))) (fun c58 => ?_)
        refine xg_aload_n xa_M_findPath_61 rfl ?_
        refine xg_getfield xa_M_findPath_62 (by assumption) rfl ?_
        refine xg_iload xa_M_findPath_65 rfl ?_
        refine xg_iald_n xa_M_findPath_67 (by assumption) rfl (by assumption) (by decide) ?_
        refine xg_aload_n xa_M_findPath_68 rfl ?_
        refine xg_getfield xa_M_findPath_69 (by assumption) rfl ?_
        refine xg_iload xa_M_findPath_72 rfl ?_
        refine xg_iald_n xa_M_findPath_74 (by assumption) rfl (by assumption) (by decide) ?_
        refine xg_callS1 xa_M_findPath_75 ⟨Nat.le_of_ble_eq_true rfl, Nat.le_of_ble_eq_true rfl, rfl⟩ rfl rfl ?_
        refine c_M_before ?_
        refine xK1_c ?_
        refine xg_if_eq xa_M_findPath_78 (fun c => next (some i) _ (no (by rw [(xz0 _).mp c, Bool.and_false, Bool.or_false, decide_eq_false c41]; decide))) (fun c78 => take _ _ (yes (by rw [decide_eq_true c58, xz1 c78]; simp)))
  refine xg_iconst (v := (-1)) xa_M_findPath_7 (by decide) ?_
  refine xg_istore (L' := [_, _, _, _, _, _]) xa_M_findPath_8 (Nat.le_of_ble_eq_true rfl) rfl ?_
  refine xg_iconst (v := 0) xa_M_findPath_10 (by decide) ?_
  refine xg_istore (L' := [_, _, _, _, _, _]) xa_M_findPath_11 (Nat.le_of_ble_eq_true rfl) rfl ?_
  exact loop P 0 _ (by omega)
end XM6
end
section
/-! 37.pair: the model's findPair. -/
section XM7
variable {xs : Nat → Int32} {LS d : Nat} {ks : Nat} {fl : Bool} {h : List va_E} {Q : (Option Value ⊕ Nat) → xm_S → Prop}
variable {Mc : Int32} {Mn : Nat} {Mm : Nat} {Mh : Int32} {Mp : Nat} {Mfw : Int32} {Mfs : Int32} {Me : Nat → Nat} {Ml : Nat → Nat} {Mbr : Nat → Bool} {Mlk : Nat → Bool} {Mt : Nat → Bool} {Mg : Nat → Bool} {Ma : Nat → Nat} {Mb : Nat → Nat} {Mw : Nat → Nat} {Mwk : Nat → Int32} {Msp : Nat → Int32} {Mon : Nat → Int32} {Mct : Nat → Int32} {MS : Nat → Int32} {MZ : Nat → Int32} {MA : Nat → Nat} {MN : Nat → Nat}
/-- the best pair so far, its length: p with the paths before it -/
def xq1 (S Z : Nat → Int32) (p : Nat) : Nat → Int32 × Int32 → Int32 × Int32
  | 0, z => z
  | q + 1, z => if S p &&& S q = 0 ∧ (Z p + Z q < (xq1 S Z p q z).2 ∨ (Z p + Z q = (xq1 S Z p q z).2 ∧ xbef (S p ||| S q) (xq1 S Z p q z).1 = true)) then (S p ||| S q, Z p + Z q) else xq1 S Z p q z
def xq2 (S Z : Nat → Int32) : Nat → Int32 × Int32
  | 0 => (0, 100000)
  | p + 1 => xq1 S Z p p (xq2 S Z p)
/-- p and q part the set, and p is the lesser -/
def xpt (S Z : Nat → Int32) (both : Int32) (p q : Nat) : Prop := (¬ p = q ∧ S p &&& S q = 0 ∧ S p ||| S q = both) ∧ xls S Z p q = true
def xq3 (S Z : Nat → Int32) (both : Int32) (p : Nat) : Nat → Option Nat → Option Nat
  | 0, z => z
  | q + 1, z => match xq3 S Z both p q z with
    | none => if ((¬ p = q ∧ S p &&& S q = 0 ∧ S p ||| S q = both) ∧ xls S Z p q = true) then some p else none
    | some b => if ((¬ p = q ∧ S p &&& S q = 0 ∧ S p ||| S q = both) ∧ xls S Z p q = true) ∧ xls S Z p b = true then some p else some b
def xq4 (S Z : Nat → Int32) (both : Int32) (P : Nat) : Nat → Option Nat
  | 0 => none
  | p + 1 => xq3 S Z both p P (xq4 S Z both P p)
theorem xq3_lt (S Z : Nat → Int32) (both : Int32) (p : Nat) {B : Nat} (hp : p < B) {z : Option Nat} (hz : ∀ i, z = some i → i < B) : ∀ q i, xq3 S Z both p q z = some i → i < B := by
  intro q
  induction q with
  | zero => intro i hi; exact hz i hi
  | succ q ih =>
    intro i hi
    unfold xq3 at hi
    cases hx : xq3 S Z both p q z with
    | none =>
      rw [hx] at hi
      simp only at hi
      by_cases c : (¬ p = q ∧ S p &&& S q = 0 ∧ S p ||| S q = both) ∧ xls S Z p q = true
      · rw [if_pos c] at hi; cases hi; exact hp
      · rw [if_neg c] at hi; cases hi
    | some b =>
      rw [hx] at hi
      simp only at hi
      by_cases c : ((¬ p = q ∧ S p &&& S q = 0 ∧ S p ||| S q = both) ∧ xls S Z p q = true) ∧ xls S Z p b = true
      · rw [if_pos c] at hi; cases hi; exact hp
      · rw [if_neg c] at hi; cases hi; exact ih _ hx
theorem xq4_lt (S Z : Nat → Int32) (both : Int32) (P : Nat) : ∀ p i, xq4 S Z both P p = some i → i < p := by
  intro p
  induction p with
  | zero => intro i hi; cases hi
  | succ p ih =>
    intro i hi
    exact xq3_lt S Z both p (B := p + 1) (by omega) (fun j hj => by have := ih j hj; omega) P i hi
theorem c_M_findPair {s : Int32} {a b : Nat} (hm : Mm ≤ 14) (hE : ∀ j, Me j < 7) (ha : a < 7) (hb : b < 7) (hA : ∀ j, MA j < 7) (hN : ∀ j, MN j < 100) (hlen : (xPL Me Mm s a b).length ≤ 4000) (hM : xMd h Mc Mn Mm Mh Mp Mfw Mfs Me Ml Mbr Mlk Mt Mg Ma Mb Mw Mwk Msp Mon Mct MS MZ MA MN)
    (hbest : ∀ S Z, xSZ Ml Mm (xPL Me Mm s a b) S Z → ¬ (xq2 S Z (xPL Me Mm s a b).length).1 = 0 → ∃ i, xq4 S Z (xq2 S Z (xPL Me Mm s a b).length).1 (xPL Me Mm s a b).length (xPL Me Mm s a b).length = some i)
    (k0 : ∀ h' fl' S Z A N, xMd h' Mc Mn Mm Mh (xPL Me Mm s a b).length Mfw Mfs Me Ml Mbr Mlk Mt Mg Ma Mb Mw Mwk Msp Mon Mct S Z A N → xS h h' 22 40 → xSZ Ml Mm (xPL Me Mm s a b) S Z → (∀ j, A j < 7) → (∀ j, N j < 100) → (xq2 S Z (xPL Me Mm s a b).length).1 = 0 → Q (.inl (some (.int 0))) (h', ks, fl'))
    (k1 : ∀ h' fl' S Z A N i, xMd h' Mc Mn Mm Mh (xPL Me Mm s a b).length (S i) ((xq2 S Z (xPL Me Mm s a b).length).1 &&& (S i ^^^ (-1))) Me Ml Mbr Mlk Mt Mg Ma Mb Mw Mwk Msp Mon Mct S Z A N → xS h h' 22 40 → xSZ Ml Mm (xPL Me Mm s a b) S Z → (∀ j, A j < 7) → (∀ j, N j < 100) → ¬ (xq2 S Z (xPL Me Mm s a b).length).1 = 0 → xq4 S Z (xq2 S Z (xPL Me Mm s a b).length).1 (xPL Me Mm s a b).length (xPL Me Mm s a b).length = some i → Q (.inl (some (.int 1))) (h', ks, fl')) :
    xG xs LS (d + 3) 79 (0, xm_entry xP 79 [.ref 22, .int s, .int (nI a), .int (nI b)], []) (h, ks, fl) Q := by
  show xG xs LS (d + 3) 79 (0, [some (.ref 22), some (.int s), some (.int (nI a)), some (.int (nI b)), none, none, none, none, none, none, none], []) (h, ks, fl) Q
  obtain ⟨g22, g23, g24, g25, g26, g27, g28, g29, g30, g31, g32, g33, g34, g35, g36, g37, g38, g39⟩ := id hM
  refine xg_aload_n xa_M_findPair_0 rfl ?_
  refine xg_iload_n xa_M_findPair_1 rfl ?_
  refine xg_iload_n xa_M_findPair_2 rfl ?_
  refine xg_iload_n xa_M_findPair_3 rfl ?_
  refine xg_callV0 xa_M_findPair_4 ⟨Nat.le_of_ble_eq_true rfl, Nat.le_of_ble_eq_true rfl, rfl⟩ rfl rfl (by assumption) ?_
  refine c_M_list hm hE ha hb hA hN hlen hM (fun h' fl' S Z A N hM' hS' hSZ hA' hN' => xK0_d ?_)
  clear g22 g23 g24 g25 g26 g27 g28 g29 g30 g31 g32 g33 g34 g35 g36 g37 g38 g39
  obtain ⟨g22, g23, g24, g25, g26, g27, g28, g29, g30, g31, g32, g33, g34, g35, g36, g37, g38, g39⟩ := id hM'
  have k0 := fun fl' => k0 h' fl' S Z A N hM' hS' hSZ hA' hN'
  have k1 := fun h2 fl' i => k1 h2 fl' S Z A N i
  have hbest := hbest S Z hSZ
  generalize (xPL Me Mm s a b).length = P at *
  clear hM
  -- the second search
  have second : ∀ both fl' j5 j6 j7 j8, both = (xq2 S Z P).1 → ¬ both = 0 → xG xs LS (d + 3) 79 (148, [some (.ref 22), some (.int s), some (.int (nI a)), some (.int (nI b)), some (.int both), j5, j6, j7, j8, none, none], []) (h', ks, fl') Q := by
    intro both fl' j5 j6 j7 j8 hbo hbn
    rw [← hbo] at k1 hbest
    have fin : ∀ fl' j8 j9 j10 p, p = P → xG xs LS (d + 3) 79 (373, [some (.ref 22), some (.int s), some (.int (nI a)), some (.int (nI b)), some (.int both), j5, some (.int (xo (xq4 S Z both P p))), some (.int (nI p)), j8, j9, j10], []) (h', ks, fl') Q := by
      intro fl' j8 j9 j10 p hp
      subst hp
      obtain ⟨i, hi⟩ := hbest hbn
      have hil := xq4_lt S Z both p p i hi
      have hi4 : i < 4000 := by omega
      rw [hi]
      show xG xs LS (d + 3) 79 (373, [some (.ref 22), some (.int s), some (.int (nI a)), some (.int (nI b)), some (.int both), j5, some (.int (nI i)), some (.int (nI p)), j8, j9, j10], []) (h', ks, fl') Q
      refine xg_aload_n xa_M_findPair_373 rfl ?_
      refine xg_aload_n xa_M_findPair_374 rfl ?_
      refine xg_getfield xa_M_findPair_375 (by assumption) rfl ?_
      refine xg_iload xa_M_findPair_378 rfl ?_
      refine xg_iald_n xa_M_findPair_380 (by assumption) rfl (by assumption) (by decide) ?_
      refine xg_putf (fs' := [_, _, _, _, _, _, _, _, _, _, _, _, _, _, _, _, _, _, _, _, _, _, _, _]) xa_M_findPair_381 (by assumption) (Nat.le_of_ble_eq_true rfl) rfl rfl (fun h381 u381 => ?_)
      have hM2 := xMd_o (Mfw' := S i) hM' u381
      obtain ⟨g22, g23, g24, g25, g26, g27, g28, g29, g30, g31, g32, g33, g34, g35, g36, g37, g38, g39⟩ := id hM2
      refine xg_aload_n xa_M_findPair_384 rfl ?_
      refine xg_iload xa_M_findPair_385 rfl ?_
      refine xg_aload_n xa_M_findPair_387 rfl ?_
      refine xg_getfield xa_M_findPair_388 (by assumption) rfl ?_
      refine xg_iload xa_M_findPair_391 rfl ?_
      refine xg_iald_n xa_M_findPair_393 (by assumption) rfl (by assumption) (by decide) ?_
      refine xg_iconst (v := (-1)) xa_M_findPair_394 (by decide) ?_
      refine xg_ixor xa_M_findPair_395 rfl ?_
      refine xg_iand xa_M_findPair_396 rfl ?_
      refine xg_putf (fs' := [_, _, _, _, _, _, _, _, _, _, _, _, _, _, _, _, _, _, _, _, _, _, _, _]) xa_M_findPair_397 (by assumption) (Nat.le_of_ble_eq_true rfl) rfl rfl (fun h397 u397 => ?_)
      have hM3 := xMd_o (Mfs' := both &&& (S i ^^^ (-1))) hM2 u397
      refine xg_iconst (v := 1) xa_M_findPair_400 (by decide) ?_
      exact xg_zreturn xa_M_findPair_401 (Or.inr rfl) (k1 h397 _ i hM3 ((hS'.tr (u381.toS (by decide) (by decide))).tr (u397.toS (by decide) (by decide))) hSZ hA' hN' hbn hi)
    have inner : ∀ n p q fl' j9 j10 (Q' : (Option Value ⊕ Nat) → xm_S → Prop) z, p < P → q + n = P → (∀ i, z = some i → i < p) →
        (∀ fl' j9 j10, xG xs LS (d + 3) 79 (367, [some (.ref 22), some (.int s), some (.int (nI a)), some (.int (nI b)), some (.int both), j5, some (.int (xo (xq3 S Z both p P z))), some (.int (nI p)), some (.int (nI P)), j9, j10], []) (h', ks, fl') Q') →
        xG xs LS (d + 3) 79 (166, [some (.ref 22), some (.int s), some (.int (nI a)), some (.int (nI b)), some (.int both), j5, some (.int (xo (xq3 S Z both p q z))), some (.int (nI p)), some (.int (nI q)), j9, j10], []) (h', ks, fl') Q' := by
      intro n
      induction n with
      | zero =>
        intro p q fl' j9 j10 Q' z hp hq hz kk
        have e : q = P := by omega
        subst e
        refine xg_iload xa_M_findPair_166 rfl ?_
        refine xg_aload_n xa_M_findPair_168 rfl ?_
        refine xg_getfield xa_M_findPair_169 (by assumption) rfl ?_
        refine xg_icmp_ge xa_M_findPair_172 (fun _ => kk _ _ _) (fun c => absurd (nI_le (by omega) (by omega)) c)
      | succ n ih =>
        intro p q fl' j9 j10 Q' z hp hq hz kk
        have hp4 : p < 4000 := by omega
        have hq4 : q < 4000 := by omega
        have ex : xq3 S Z both p (q + 1) z = match xq3 S Z both p q z with
          | none => if ((¬ p = q ∧ S p &&& S q = 0 ∧ S p ||| S q = both) ∧ xls S Z p q = true) then some p else none
          | some b => if ((¬ p = q ∧ S p &&& S q = 0 ∧ S p ||| S q = both) ∧ xls S Z p q = true) ∧ xls S Z p b = true then some p else some b := rfl
        have hlt := xq3_lt S Z both p (B := p + 1) (by omega) (fun i hi => by have := hz i hi; omega) (z := z) q
        have next : ∀ v fl' j9 j10, v = xq3 S Z both p (q + 1) z → xG xs LS (d + 3) 79 (361, [some (.ref 22), some (.int s), some (.int (nI a)), some (.int (nI b)), some (.int both), j5, some (.int (xo v)), some (.int (nI p)), some (.int (nI q)), j9, j10], []) (h', ks, fl') Q' := by
          intro v fl' j9 j10 e
          subst e
          refine xg_iinc (L' := [_, _, _, _, _, _, _, _, _, _, _]) xa_M_findPair_361 rfl (xi_inc _) rfl ?_
          refine xg_goto xa_M_findPair_364 ?_
          exact ih p (q + 1) _ _ _ Q' z hp (by omega) hz kk
        have take : ∀ v fl' j9 j10, some p = xq3 S Z both p (q + 1) z → xG xs LS (d + 3) 79 (357, [some (.ref 22), some (.int s), some (.int (nI a)), some (.int (nI b)), some (.int both), j5, some (.int v), some (.int (nI p)), some (.int (nI q)), j9, j10], []) (h', ks, fl') Q' := by
          intro v fl' j9 j10 e
          refine xg_iload xa_M_findPair_357 rfl ?_
          refine xg_istore (L' := [_, _, _, _, _, _, _, _, _, _, _]) xa_M_findPair_359 (Nat.le_of_ble_eq_true rfl) rfl ?_
          exact next _ _ _ _ e
        have third : ∀ (b9 b10 : Bool) fl', (b9 = true ↔ (¬ p = q ∧ S p &&& S q = 0 ∧ S p ||| S q = both)) → b10 = xls S Z p q → xG xs LS (d + 3) 79 (288, [some (.ref 22), some (.int s), some (.int (nI a)), some (.int (nI b)), some (.int both), j5, some (.int (xo (xq3 S Z both p q z))), some (.int (nI p)), some (.int (nI q)), some (.int (xz b9)), some (.int (xz b10))], []) (h', ks, fl') Q' := by
          intro b9 b10 fl' h9 h10
          have keep : ∀ fl' j9 j10, ¬ (b9 = true ∧ b10 = true) → xG xs LS (d + 3) 79 (361, [some (.ref 22), some (.int s), some (.int (nI a)), some (.int (nI b)), some (.int both), j5, some (.int (xo (xq3 S Z both p q z))), some (.int (nI p)), some (.int (nI q)), j9, j10], []) (h', ks, fl') Q' := by
            intro fl' j9 j10 hno
            refine next _ _ _ _ ?_
            rw [ex]
            have hno2 : ¬ ((¬ p = q ∧ S p &&& S q = 0 ∧ S p ||| S q = both) ∧ xls S Z p q = true) := fun w => hno ⟨h9.mpr w.1, by rw [h10]; exact w.2⟩
            cases hx : xq3 S Z both p q z with
            | none => simp only; rw [if_neg hno2]
            | some i => simp only; rw [if_neg (fun w => hno2 w.1)]
          refine xg_iload xa_M_findPair_288 rfl ?_
          refine xg_if_eq xa_M_findPair_290 (fun c => keep _ _ _ (fun w => by rw [(xz0 _).mp c] at w; cases w.1)) (fun c290 => ?_)
          refine xg_iload xa_M_findPair_293 rfl ?_
          refine xg_if_eq xa_M_findPair_295 (fun c => keep _ _ _ (fun w => by rw [(xz0 _).mp c] at w; cases w.2)) (fun c295 => ?_)
          have hyes : ((¬ p = q ∧ S p &&& S q = 0 ∧ S p ||| S q = both) ∧ xls S Z p q = true) := ⟨h9.mp (xz1 c290), by rw [← h10]; exact xz1 c295⟩
          cases hx : xq3 S Z both p q z with
          | none =>
            rw [hx] at ex
            simp only at ex
            rw [if_pos hyes] at ex
            refine xg_iload xa_M_findPair_298 rfl ?_
            refine xg_if_lt xa_M_findPair_300 (fun _ => take _ _ _ _ ex.symm) (fun c => absurd (show (-1 : Int32) < 0 from by decide) c)
          | some i =>
            rw [hx] at ex
            simp only at ex
            have hi := hlt i hx
            have hi4 : i < 4000 := by omega
            have yes : xls S Z p i = true → some p = xq3 S Z both p (q + 1) z := fun w => by rw [ex, if_pos ⟨hyes, w⟩]
            have no : ¬ xls S Z p i = true → some i = xq3 S Z both p (q + 1) z := fun w => by rw [ex, if_neg (fun w' => w w'.2)]
            unfold xls at yes no
            show xG xs LS (d + 3) 79 (298, [some (.ref 22), some (.int s), some (.int (nI a)), some (.int (nI b)), some (.int both), j5, some (.int (nI i)), some (.int (nI p)), some (.int (nI q)), some (.int (xz b9)), some (.int (xz b10))], []) (h', ks, fl') Q'
            refine xg_iload xa_M_findPair_298 rfl ?_
            refine xg_if_lt xa_M_findPair_300 (fun c => absurd c (nI_pos (by omega))) (fun _ => ?_)
            refine xg_aload_n xa_M_findPair_303 rfl ?_
            refine xg_getfield xa_M_findPair_304 (by assumption) rfl ?_
            refine xg_iload xa_M_findPair_307 rfl ?_
            refine xg_iald_n xa_M_findPair_309 (by assumption) rfl (by assumption) (by decide) ?_
            refine xg_aload_n xa_M_findPair_310 rfl ?_
            refine xg_getfield xa_M_findPair_311 (by assumption) rfl ?_
            refine xg_iload xa_M_findPair_314 rfl ?_
            refine xg_iald_n xa_M_findPair_316 (by assumption) rfl (by assumption) (by decide) ?_
            refine xg_icmp_lt xa_M_findPair_317 (fun c => take _ _ _ _ (yes (by rw [decide_eq_true c]; rfl))) (fun c41 => ?_)
            refine xg_aload_n xa_M_findPair_320 rfl ?_
            refine xg_getfield xa_M_findPair_321 (by assumption) rfl ?_
            refine xg_iload xa_M_findPair_324 rfl ?_
            refine xg_iald_n xa_M_findPair_326 (by assumption) rfl (by assumption) (by decide) ?_
            refine xg_aload_n xa_M_findPair_327 rfl ?_
            refine xg_getfield xa_M_findPair_328 (by assumption) rfl ?_
            refine xg_iload xa_M_findPair_331 rfl ?_
            refine xg_iald_n xa_M_findPair_333 (by assumption) rfl (by assumption) (by decide) ?_
            refine xg_icmp_ne xa_M_findPair_334 (fun c => next (some i) _ _ _ (no (by rw [decide_eq_false c41, decide_eq_false c]; simp))) (fun c58 => ?_)
            refine xg_aload_n xa_M_findPair_337 rfl ?_
            refine xg_getfield xa_M_findPair_338 (by assumption) rfl ?_
            refine xg_iload xa_M_findPair_341 rfl ?_
            refine xg_iald_n xa_M_findPair_343 (by assumption) rfl (by assumption) (by decide) ?_
            refine xg_aload_n xa_M_findPair_344 rfl ?_
            refine xg_getfield xa_M_findPair_345 (by assumption) rfl ?_
            refine xg_iload xa_M_findPair_348 rfl ?_
            refine xg_iald_n xa_M_findPair_350 (by assumption) rfl (by assumption) (by decide) ?_
            refine xg_callS1 xa_M_findPair_351 ⟨Nat.le_of_ble_eq_true rfl, Nat.le_of_ble_eq_true rfl, rfl⟩ rfl rfl ?_
            refine c_M_before ?_
            refine xK1_c ?_
            refine xg_if_eq xa_M_findPair_354 (fun c => next (some i) _ _ _ (no (by rw [(xz0 _).mp c, Bool.and_false, Bool.or_false, decide_eq_false c41]; decide))) (fun c78 => take _ _ _ _ (yes (by rw [decide_eq_true c58, xz1 c78]; simp)))
        have lesser : ∀ (b9 : Bool) fl' j10, (b9 = true ↔ (¬ p = q ∧ S p &&& S q = 0 ∧ S p ||| S q = both)) → xG xs LS (d + 3) 79 (227, [some (.ref 22), some (.int s), some (.int (nI a)), some (.int (nI b)), some (.int both), j5, some (.int (xo (xq3 S Z both p q z))), some (.int (nI p)), some (.int (nI q)), some (.int (xz b9)), j10], []) (h', ks, fl') Q' := by
          intro b9 fl' j10 h9
          have yes : ∀ fl', xls S Z p q = true → xG xs LS (d + 3) 79 (281, [some (.ref 22), some (.int s), some (.int (nI a)), some (.int (nI b)), some (.int both), j5, some (.int (xo (xq3 S Z both p q z))), some (.int (nI p)), some (.int (nI q)), some (.int (xz b9)), j10], []) (h', ks, fl') Q' := by
            intro fl' w
            refine xg_iconst (v := 1) xa_M_findPair_281 (by decide) ?_
            refine xg_goto xa_M_findPair_282 ?_
            refine xg_istore (L' := [_, _, _, _, _, _, _, _, _, _, _]) xa_M_findPair_286 (Nat.le_of_ble_eq_true rfl) rfl ?_
            exact third b9 true _ h9 w.symm
          have no : ∀ fl', xls S Z p q = false → xG xs LS (d + 3) 79 (285, [some (.ref 22), some (.int s), some (.int (nI a)), some (.int (nI b)), some (.int both), j5, some (.int (xo (xq3 S Z both p q z))), some (.int (nI p)), some (.int (nI q)), some (.int (xz b9)), j10], []) (h', ks, fl') Q' := by
            intro fl' w
            refine xg_iconst (v := 0) xa_M_findPair_285 (by decide) ?_
            refine xg_istore (L' := [_, _, _, _, _, _, _, _, _, _, _]) xa_M_findPair_286 (Nat.le_of_ble_eq_true rfl) rfl ?_
            exact third b9 false _ h9 w.symm
          unfold xls at yes no
          refine xg_aload_n xa_M_findPair_227 rfl ?_
          refine xg_getfield xa_M_findPair_228 (by assumption) rfl ?_
          refine xg_iload xa_M_findPair_231 rfl ?_
          refine xg_iald_n xa_M_findPair_233 (by assumption) rfl (by assumption) (by decide) ?_
          refine xg_aload_n xa_M_findPair_234 rfl ?_
          refine xg_getfield xa_M_findPair_235 (by assumption) rfl ?_
          refine xg_iload xa_M_findPair_238 rfl ?_
          refine xg_iald_n xa_M_findPair_240 (by assumption) rfl (by assumption) (by decide) ?_
          refine xg_icmp_lt xa_M_findPair_241 (fun c => yes _ (by rw [decide_eq_true c]; rfl)) (fun c41 => ?_)
          refine xg_aload_n xa_M_findPair_244 rfl ?_
          refine xg_getfield xa_M_findPair_245 (by assumption) rfl ?_
          refine xg_iload xa_M_findPair_248 rfl ?_
          refine xg_iald_n xa_M_findPair_250 (by assumption) rfl (by assumption) (by decide) ?_
          refine xg_aload_n xa_M_findPair_251 rfl ?_
          refine xg_getfield xa_M_findPair_252 (by assumption) rfl ?_
          refine xg_iload xa_M_findPair_255 rfl ?_
          refine xg_iald_n xa_M_findPair_257 (by assumption) rfl (by assumption) (by decide) ?_
          refine xg_icmp_ne xa_M_findPair_258 (fun c => no _ (by rw [decide_eq_false c41, decide_eq_false c]; simp)) (fun c58 => ?_)
          refine xg_aload_n xa_M_findPair_261 rfl ?_
          refine xg_getfield xa_M_findPair_262 (by assumption) rfl ?_
          refine xg_iload xa_M_findPair_265 rfl ?_
          refine xg_iald_n xa_M_findPair_267 (by assumption) rfl (by assumption) (by decide) ?_
          refine xg_aload_n xa_M_findPair_268 rfl ?_
          refine xg_getfield xa_M_findPair_269 (by assumption) rfl ?_
          refine xg_iload xa_M_findPair_272 rfl ?_
          refine xg_iald_n xa_M_findPair_274 (by assumption) rfl (by assumption) (by decide) ?_
          refine xg_callS1 xa_M_findPair_275 ⟨Nat.le_of_ble_eq_true rfl, Nat.le_of_ble_eq_true rfl, rfl⟩ rfl rfl ?_
          refine c_M_before ?_
          refine xK1_c ?_
          refine xg_if_eq xa_M_findPair_278 (fun c => no _ (by rw [(xz0 _).mp c, Bool.and_false, Bool.or_false, decide_eq_false c41])) (fun c78 => yes _ (by rw [decide_eq_true c58, xz1 c78]; simp))
        have nopart : ∀ fl' j9 j10, ¬ (¬ p = q ∧ S p &&& S q = 0 ∧ S p ||| S q = both) → xG xs LS (d + 3) 79 (224, [some (.ref 22), some (.int s), some (.int (nI a)), some (.int (nI b)), some (.int both), j5, some (.int (xo (xq3 S Z both p q z))), some (.int (nI p)), some (.int (nI q)), j9, j10], []) (h', ks, fl') Q' := by
          intro fl' j9 j10 w
          refine xg_iconst (v := 0) xa_M_findPair_224 (by decide) ?_
          refine xg_istore (L' := [_, _, _, _, _, _, _, _, _, _, _]) xa_M_findPair_225 (Nat.le_of_ble_eq_true rfl) rfl ?_
          exact lesser false _ _ ⟨fun w' => (by cases w'), fun w' => absurd w' w⟩
        refine xg_iload xa_M_findPair_166 rfl ?_
        refine xg_aload_n xa_M_findPair_168 rfl ?_
        refine xg_getfield xa_M_findPair_169 (by assumption) rfl ?_
        refine xg_icmp_ge xa_M_findPair_172 (fun c => absurd c (nI_ge (by omega) (by omega))) (fun _ => ?_)
        refine xg_iload xa_M_findPair_175 rfl ?_
        refine xg_iload xa_M_findPair_177 rfl ?_
        refine xg_icmp_eq xa_M_findPair_179 (fun c => nopart _ _ _ (fun w => w.1 ((nI_eq (by omega) (by omega)).mp c))) (fun c179 => ?_)
        refine xg_aload_n xa_M_findPair_182 rfl ?_
        refine xg_getfield xa_M_findPair_183 (by assumption) rfl ?_
        refine xg_iload xa_M_findPair_186 rfl ?_
        refine xg_iald_n xa_M_findPair_188 (by assumption) rfl (by assumption) (by decide) ?_
        refine xg_aload_n xa_M_findPair_189 rfl ?_
        refine xg_getfield xa_M_findPair_190 (by assumption) rfl ?_
        refine xg_iload xa_M_findPair_193 rfl ?_
        refine xg_iald_n xa_M_findPair_195 (by assumption) rfl (by assumption) (by decide) ?_
        refine xg_iand xa_M_findPair_196 rfl ?_
        refine xg_if_ne xa_M_findPair_197 (fun c => nopart _ _ _ (fun w => c w.2.1)) (fun c197 => ?_)
        refine xg_aload_n xa_M_findPair_200 rfl ?_
        refine xg_getfield xa_M_findPair_201 (by assumption) rfl ?_
        refine xg_iload xa_M_findPair_204 rfl ?_
        refine xg_iald_n xa_M_findPair_206 (by assumption) rfl (by assumption) (by decide) ?_
        refine xg_aload_n xa_M_findPair_207 rfl ?_
        refine xg_getfield xa_M_findPair_208 (by assumption) rfl ?_
        refine xg_iload xa_M_findPair_211 rfl ?_
        refine xg_iald_n xa_M_findPair_213 (by assumption) rfl (by assumption) (by decide) ?_
        refine xg_ior xa_M_findPair_214 rfl ?_
        refine xg_iload xa_M_findPair_215 rfl ?_
        refine xg_icmp_ne xa_M_findPair_217 (fun c => nopart _ _ _ (fun w => c w.2.2)) (fun c217 => ?_)
        refine xg_iconst (v := 1) xa_M_findPair_220 (by decide) ?_
        refine xg_goto xa_M_findPair_221 ?_
        refine xg_istore (L' := [_, _, _, _, _, _, _, _, _, _, _]) xa_M_findPair_225 (Nat.le_of_ble_eq_true rfl) rfl ?_
        exact lesser true _ _ ⟨fun _ => ⟨fun w => c179 (by rw [w]), c197, c217⟩, fun _ => rfl⟩
    have outer : ∀ n p fl' j8 j9 j10, p + n = P → xG xs LS (d + 3) 79 (154, [some (.ref 22), some (.int s), some (.int (nI a)), some (.int (nI b)), some (.int both), j5, some (.int (xo (xq4 S Z both P p))), some (.int (nI p)), j8, j9, j10], []) (h', ks, fl') Q := by
      intro n
      induction n with
      | zero =>
        intro p fl' j8 j9 j10 hp
        refine xg_iload xa_M_findPair_154 rfl ?_
        refine xg_aload_n xa_M_findPair_156 rfl ?_
        refine xg_getfield xa_M_findPair_157 (by assumption) rfl ?_
        refine xg_icmp_ge xa_M_findPair_160 (fun _ => fin _ _ _ _ p (by omega)) (fun c => absurd (nI_le (by omega) (by omega)) c)
      | succ n ih =>
        intro p fl' j8 j9 j10 hp
        refine xg_iload xa_M_findPair_154 rfl ?_
        refine xg_aload_n xa_M_findPair_156 rfl ?_
        refine xg_getfield xa_M_findPair_157 (by assumption) rfl ?_
        refine xg_icmp_ge xa_M_findPair_160 (fun c => absurd c (nI_ge (by omega) (by omega))) (fun _ => ?_)
        refine xg_iconst (v := 0) xa_M_findPair_163 (by decide) ?_
        refine xg_istore (L' := [_, _, _, _, _, _, _, _, _, _, _]) xa_M_findPair_164 (Nat.le_of_ble_eq_true rfl) rfl ?_
        refine inner P p 0 _ _ _ Q (xq4 S Z both P p) (by omega) (by omega) (fun i hi => xq4_lt S Z both P p i hi) (fun fl' j9 j10 => ?_)
        refine xg_iinc (L' := [_, _, _, _, _, _, _, _, _, _, _]) xa_M_findPair_367 rfl (xi_inc _) rfl ?_
        refine xg_goto xa_M_findPair_370 ?_
        exact ih (p + 1) _ _ _ _ (by omega)
    refine xg_iconst (v := (-1)) xa_M_findPair_148 (by decide) ?_
    refine xg_istore (L' := [_, _, _, _, _, _, _, _, _, _, _]) xa_M_findPair_149 (Nat.le_of_ble_eq_true rfl) rfl ?_
    refine xg_iconst (v := 0) xa_M_findPair_151 (by decide) ?_
    refine xg_istore (L' := [_, _, _, _, _, _, _, _, _, _, _]) xa_M_findPair_152 (Nat.le_of_ble_eq_true rfl) rfl ?_
    exact outer P 0 _ _ _ _ (by omega)
  have inner1 : ∀ n p q fl' j8 (Q' : (Option Value ⊕ Nat) → xm_S → Prop) z, p < P → q + n = p →
      (∀ fl' j8, xG xs LS (d + 3) 79 (135, [some (.ref 22), some (.int s), some (.int (nI a)), some (.int (nI b)), some (.int (xq1 S Z p p z).1), some (.int (xq1 S Z p p z).2), some (.int (nI p)), some (.int (nI p)), j8, none, none], []) (h', ks, fl') Q') →
      xG xs LS (d + 3) 79 (29, [some (.ref 22), some (.int s), some (.int (nI a)), some (.int (nI b)), some (.int (xq1 S Z p q z).1), some (.int (xq1 S Z p q z).2), some (.int (nI p)), some (.int (nI q)), j8, none, none], []) (h', ks, fl') Q' := by
    intro n
    induction n with
    | zero =>
      intro p q fl' j8 Q' z hp hq kk
      have e : q = p := by omega
      subst e
      refine xg_iload xa_M_findPair_29 rfl ?_
      refine xg_iload xa_M_findPair_31 rfl ?_
      refine xg_icmp_ge xa_M_findPair_33 (fun _ => kk _ _) (fun c => absurd (nI_le (by omega) (by omega)) c)
    | succ n ih =>
      intro p q fl' j8 Q' z hp hq kk
      have hp4 : p < 4000 := by omega
      have hq4 : q < 4000 := by omega
      have ex : xq1 S Z p (q + 1) z = if S p &&& S q = 0 ∧ (Z p + Z q < (xq1 S Z p q z).2 ∨ (Z p + Z q = (xq1 S Z p q z).2 ∧ xbef (S p ||| S q) (xq1 S Z p q z).1 = true)) then (S p ||| S q, Z p + Z q) else xq1 S Z p q z := rfl
      have next : ∀ (y : Int32 × Int32) fl' j8, y = xq1 S Z p (q + 1) z → xG xs LS (d + 3) 79 (129, [some (.ref 22), some (.int s), some (.int (nI a)), some (.int (nI b)), some (.int y.1), some (.int y.2), some (.int (nI p)), some (.int (nI q)), j8, none, none], []) (h', ks, fl') Q' := by
        intro y fl' j8 e
        subst e
        refine xg_iinc (L' := [_, _, _, _, _, _, _, _, _, _, _]) xa_M_findPair_129 rfl (xi_inc _) rfl ?_
        refine xg_goto xa_M_findPair_132 ?_
        exact ih p (q + 1) _ _ Q' z hp (by omega) kk
      have keep : ∀ fl' j8, ¬ (S p &&& S q = 0 ∧ (Z p + Z q < (xq1 S Z p q z).2 ∨ (Z p + Z q = (xq1 S Z p q z).2 ∧ xbef (S p ||| S q) (xq1 S Z p q z).1 = true))) → xG xs LS (d + 3) 79 (129, [some (.ref 22), some (.int s), some (.int (nI a)), some (.int (nI b)), some (.int (xq1 S Z p q z).1), some (.int (xq1 S Z p q z).2), some (.int (nI p)), some (.int (nI q)), j8, none, none], []) (h', ks, fl') Q' := by
        intro fl' j8 w
        exact next _ _ _ (by rw [ex, if_neg w])
      have take : ∀ fl', (S p &&& S q = 0 ∧ (Z p + Z q < (xq1 S Z p q z).2 ∨ (Z p + Z q = (xq1 S Z p q z).2 ∧ xbef (S p ||| S q) (xq1 S Z p q z).1 = true))) → xG xs LS (d + 3) 79 (108, [some (.ref 22), some (.int s), some (.int (nI a)), some (.int (nI b)), some (.int (xq1 S Z p q z).1), some (.int (xq1 S Z p q z).2), some (.int (nI p)), some (.int (nI q)), some (.int (Z p + Z q)), none, none], []) (h', ks, fl') Q' := by
        intro fl' w
        rw [if_pos w] at ex
        refine xg_iload xa_M_findPair_108 rfl ?_
        refine xg_istore (L' := [_, _, _, _, _, _, _, _, _, _, _]) xa_M_findPair_110 (Nat.le_of_ble_eq_true rfl) rfl ?_
        refine xg_aload_n xa_M_findPair_112 rfl ?_
        refine xg_getfield xa_M_findPair_113 (by assumption) rfl ?_
        refine xg_iload xa_M_findPair_116 rfl ?_
        refine xg_iald_n xa_M_findPair_118 (by assumption) rfl (by assumption) (by decide) ?_
        refine xg_aload_n xa_M_findPair_119 rfl ?_
        refine xg_getfield xa_M_findPair_120 (by assumption) rfl ?_
        refine xg_iload xa_M_findPair_123 rfl ?_
        refine xg_iald_n xa_M_findPair_125 (by assumption) rfl (by assumption) (by decide) ?_
        refine xg_ior xa_M_findPair_126 rfl ?_
        refine xg_istore (L' := [_, _, _, _, _, _, _, _, _, _, _]) xa_M_findPair_127 (Nat.le_of_ble_eq_true rfl) rfl ?_
        exact next (S p ||| S q, Z p + Z q) _ _ ex.symm
      refine xg_iload xa_M_findPair_29 rfl ?_
      refine xg_iload xa_M_findPair_31 rfl ?_
      refine xg_icmp_ge xa_M_findPair_33 (fun c => absurd c (nI_ge (by omega) (by omega))) (fun _ => ?_)
      refine xg_aload_n xa_M_findPair_36 rfl ?_
      refine xg_getfield xa_M_findPair_37 (by assumption) rfl ?_
      refine xg_iload xa_M_findPair_40 rfl ?_
      refine xg_iald_n xa_M_findPair_42 (by assumption) rfl (by assumption) (by decide) ?_
      refine xg_aload_n xa_M_findPair_43 rfl ?_
      refine xg_getfield xa_M_findPair_44 (by assumption) rfl ?_
      refine xg_iload xa_M_findPair_47 rfl ?_
      refine xg_iald_n xa_M_findPair_49 (by assumption) rfl (by assumption) (by decide) ?_
      refine xg_iadd xa_M_findPair_50 rfl ?_
      refine xg_istore (L' := [_, _, _, _, _, _, _, _, _, _, _]) xa_M_findPair_51 (Nat.le_of_ble_eq_true rfl) rfl ?_
      refine xg_aload_n xa_M_findPair_53 rfl ?_
      refine xg_getfield xa_M_findPair_54 (by assumption) rfl ?_
      refine xg_iload xa_M_findPair_57 rfl ?_
      refine xg_iald_n xa_M_findPair_59 (by assumption) rfl (by assumption) (by decide) ?_
      refine xg_aload_n xa_M_findPair_60 rfl ?_
      refine xg_getfield xa_M_findPair_61 (by assumption) rfl ?_
      refine xg_iload xa_M_findPair_64 rfl ?_
      refine xg_iald_n xa_M_findPair_66 (by assumption) rfl (by assumption) (by decide) ?_
      refine xg_iand xa_M_findPair_67 rfl ?_
      refine xg_if_ne xa_M_findPair_68 (fun c => keep _ _ (fun w => c w.1)) (fun c68 => ?_)
      refine xg_iload xa_M_findPair_71 rfl ?_
      refine xg_iload xa_M_findPair_73 rfl ?_
      refine xg_icmp_lt xa_M_findPair_75 (fun c => take _ ⟨c68, Or.inl c⟩) (fun c75 => ?_)
      refine xg_iload xa_M_findPair_78 rfl ?_
      refine xg_iload xa_M_findPair_80 rfl ?_
      refine xg_icmp_ne xa_M_findPair_82 (fun c => keep _ _ (fun w => by
        rcases w.2 with w | w
        · exact c75 w
        · exact c w.1)) (fun c82 => ?_)
      refine xg_aload_n xa_M_findPair_85 rfl ?_
      refine xg_getfield xa_M_findPair_86 (by assumption) rfl ?_
      refine xg_iload xa_M_findPair_89 rfl ?_
      refine xg_iald_n xa_M_findPair_91 (by assumption) rfl (by assumption) (by decide) ?_
      refine xg_aload_n xa_M_findPair_92 rfl ?_
      refine xg_getfield xa_M_findPair_93 (by assumption) rfl ?_
      refine xg_iload xa_M_findPair_96 rfl ?_
      refine xg_iald_n xa_M_findPair_98 (by assumption) rfl (by assumption) (by decide) ?_
      refine xg_ior xa_M_findPair_99 rfl ?_
      refine xg_iload xa_M_findPair_100 rfl ?_
      refine xg_callS1 xa_M_findPair_102 ⟨Nat.le_of_ble_eq_true rfl, Nat.le_of_ble_eq_true rfl, rfl⟩ rfl rfl ?_
      refine c_M_before ?_
      refine xK1_c ?_
      refine xg_if_eq xa_M_findPair_105 (fun c => keep _ _ (fun w => by
        rcases w.2 with w | w
        · exact c75 w
        · rw [(xz0 _).mp c] at w; cases w.2)) (fun c105 => take _ ⟨c68, Or.inr ⟨c82, xz1 c105⟩⟩)
  have outer1 : ∀ n p fl' j7 j8, p + n = P → xG xs LS (d + 3) 79 (17, [some (.ref 22), some (.int s), some (.int (nI a)), some (.int (nI b)), some (.int (xq2 S Z p).1), some (.int (xq2 S Z p).2), some (.int (nI p)), j7, j8, none, none], []) (h', ks, fl') Q := by
    intro n
    induction n with
    | zero =>
      intro p fl' j7 j8 hp
      have e : p = P := by omega
      subst e
      refine xg_iload xa_M_findPair_17 rfl ?_
      refine xg_aload_n xa_M_findPair_19 rfl ?_
      refine xg_getfield xa_M_findPair_20 (by assumption) rfl ?_
      refine xg_icmp_ge xa_M_findPair_23 (fun _ => ?_) (fun c => absurd (nI_le (by omega) (by omega)) c)
      refine xg_iload xa_M_findPair_141 rfl ?_
      refine xg_if_ne xa_M_findPair_143 (fun c => second _ _ _ _ _ _ rfl c) (fun c => ?_)
      refine xg_iconst (v := 0) xa_M_findPair_146 (by decide) ?_
      refine xg_zreturn xa_M_findPair_147 (Or.inl rfl) ?_
      exact k0 _ c
    | succ n ih =>
      intro p fl' j7 j8 hp
      refine xg_iload xa_M_findPair_17 rfl ?_
      refine xg_aload_n xa_M_findPair_19 rfl ?_
      refine xg_getfield xa_M_findPair_20 (by assumption) rfl ?_
      refine xg_icmp_ge xa_M_findPair_23 (fun c => absurd c (nI_ge (by omega) (by omega))) (fun _ => ?_)
      refine xg_iconst (v := 0) xa_M_findPair_26 (by decide) ?_
      refine xg_istore (L' := [_, _, _, _, _, _, _, _, _, _, _]) xa_M_findPair_27 (Nat.le_of_ble_eq_true rfl) rfl ?_
      refine inner1 p p 0 _ _ Q (xq2 S Z p) (by omega) (by omega) (fun fl' j8 => ?_)
      refine xg_iinc (L' := [_, _, _, _, _, _, _, _, _, _, _]) xa_M_findPair_135 rfl (xi_inc _) rfl ?_
      refine xg_goto xa_M_findPair_138 ?_
      exact ih (p + 1) _ _ _ (by omega)
  refine xg_iconst (v := 0) xa_M_findPair_7 (by decide) ?_
  refine xg_istore (L' := [_, _, _, _, _, _, _, _, _, _, _]) xa_M_findPair_8 (Nat.le_of_ble_eq_true rfl) rfl ?_
  refine xg_ldc (v := 100000) xa_M_findPair_10 (by decide) ?_
  refine xg_istore (L' := [_, _, _, _, _, _, _, _, _, _, _]) xa_M_findPair_12 (Nat.le_of_ble_eq_true rfl) rfl ?_
  refine xg_iconst (v := 0) xa_M_findPair_14 (by decide) ?_
  refine xg_istore (L' := [_, _, _, _, _, _, _, _, _, _, _]) xa_M_findPair_15 (Nat.le_of_ble_eq_true rfl) rfl ?_
  exact outer1 P 0 _ _ _ (by omega)
end XM7
end
section
/-! 38.mods: the model's find, take, whole, settle. -/
theorem xa_M_take_0 : xm_at xP 85 0 = some (0, .aload_n 0, 0, 0, 0, 0) := by decide +kernel
theorem xa_M_take_1 : xm_at xP 85 1 = some (1, .getfield 39, 3, 12, 0, 0) := by decide +kernel
theorem xa_M_take_4 : xm_at xP 85 4 = some (4, .iload_n 1, 0, 0, 0, 0) := by decide +kernel
theorem xa_M_take_5 : xm_at xP 85 5 = some (5, .iload_n 2, 0, 0, 0, 0) := by decide +kernel
theorem xa_M_take_6 : xm_at xP 85 6 = some (6, .iastore, 0, 0, 0, 0) := by decide +kernel
theorem xa_M_take_7 : xm_at xP 85 7 = some (7, .aload_n 0, 0, 0, 0, 0) := by decide +kernel
theorem xa_M_take_8 : xm_at xP 85 8 = some (8, .getfield 42, 3, 13, 0, 0) := by decide +kernel
theorem xa_M_take_11 : xm_at xP 85 11 = some (11, .iload_n 1, 0, 0, 0, 0) := by decide +kernel
theorem xa_M_take_12 : xm_at xP 85 12 = some (12, .aload_n 0, 0, 0, 0, 0) := by decide +kernel
theorem xa_M_take_13 : xm_at xP 85 13 = some (13, .getfield 105, 3, 22, 0, 0) := by decide +kernel
theorem xa_M_take_16 : xm_at xP 85 16 = some (16, .iastore, 0, 0, 0, 0) := by decide +kernel
theorem xa_M_take_17 : xm_at xP 85 17 = some (17, .aload_n 0, 0, 0, 0, 0) := by decide +kernel
theorem xa_M_take_18 : xm_at xP 85 18 = some (18, .getfield 45, 3, 14, 0, 0) := by decide +kernel
theorem xa_M_take_21 : xm_at xP 85 21 = some (21, .iload_n 1, 0, 0, 0, 0) := by decide +kernel
theorem xa_M_take_22 : xm_at xP 85 22 = some (22, .aload_n 0, 0, 0, 0, 0) := by decide +kernel
theorem xa_M_take_23 : xm_at xP 85 23 = some (23, .getfield 108, 3, 23, 0, 0) := by decide +kernel
theorem xa_M_take_26 : xm_at xP 85 26 = some (26, .iastore, 0, 0, 0, 0) := by decide +kernel
theorem xa_M_take_27 : xm_at xP 85 27 = some (27, .aload_n 0, 0, 0, 0, 0) := by decide +kernel
theorem xa_M_take_28 : xm_at xP 85 28 = some (28, .getfield 48, 3, 15, 0, 0) := by decide +kernel
theorem xa_M_take_31 : xm_at xP 85 31 = some (31, .iload_n 1, 0, 0, 0, 0) := by decide +kernel
theorem xa_M_take_32 : xm_at xP 85 32 = some (32, .iconst 0, 0, 0, 0, 0) := by decide +kernel
theorem xa_M_take_33 : xm_at xP 85 33 = some (33, .iastore, 0, 0, 0, 0) := by decide +kernel
theorem xa_M_take_34 : xm_at xP 85 34 = some (34, .aload_n 0, 0, 0, 0, 0) := by decide +kernel
theorem xa_M_take_35 : xm_at xP 85 35 = some (35, .getfield 51, 3, 16, 0, 0) := by decide +kernel
theorem xa_M_take_38 : xm_at xP 85 38 = some (38, .iload_n 1, 0, 0, 0, 0) := by decide +kernel
theorem xa_M_take_39 : xm_at xP 85 39 = some (39, .iconst 0, 0, 0, 0, 0) := by decide +kernel
theorem xa_M_take_40 : xm_at xP 85 40 = some (40, .iastore, 0, 0, 0, 0) := by decide +kernel
theorem xa_M_take_41 : xm_at xP 85 41 = some (41, .return_, 0, 0, 0, 0) := by decide +kernel
theorem xa_M_settle_0 : xm_at xP 91 0 = some (0, .iconst 0, 0, 0, 0, 0) := by decide +kernel
theorem xa_M_settle_1 : xm_at xP 91 1 = some (1, .istore_n 1, 0, 0, 0, 0) := by decide +kernel
theorem xa_M_settle_2 : xm_at xP 91 2 = some (2, .iload_n 1, 0, 0, 0, 0) := by decide +kernel
theorem xa_M_settle_3 : xm_at xP 91 3 = some (3, .bipush 12, 0, 0, 0, 0) := by decide +kernel
theorem xa_M_settle_5 : xm_at xP 91 5 = some (5, .if_icmp .ge 129, 134, 0, 0, 0) := by decide +kernel
theorem xa_M_settle_8 : xm_at xP 91 8 = some (8, .aload_n 0, 0, 0, 0, 0) := by decide +kernel
theorem xa_M_settle_9 : xm_at xP 91 9 = some (9, .getfield 27, 3, 8, 0, 0) := by decide +kernel
theorem xa_M_settle_12 : xm_at xP 91 12 = some (12, .iload_n 1, 0, 0, 0, 0) := by decide +kernel
theorem xa_M_settle_13 : xm_at xP 91 13 = some (13, .baload, 0, 0, 0, 0) := by decide +kernel
theorem xa_M_settle_14 : xm_at xP 91 14 = some (14, .ifCond .eq 114, 128, 0, 0, 0) := by decide +kernel
theorem xa_M_settle_17 : xm_at xP 91 17 = some (17, .aload_n 0, 0, 0, 0, 0) := by decide +kernel
theorem xa_M_settle_18 : xm_at xP 91 18 = some (18, .aload_n 0, 0, 0, 0, 0) := by decide +kernel
theorem xa_M_settle_19 : xm_at xP 91 19 = some (19, .getfield 42, 3, 13, 0, 0) := by decide +kernel
theorem xa_M_settle_22 : xm_at xP 91 22 = some (22, .iload_n 1, 0, 0, 0, 0) := by decide +kernel
theorem xa_M_settle_23 : xm_at xP 91 23 = some (23, .iaload, 0, 0, 0, 0) := by decide +kernel
theorem xa_M_settle_24 : xm_at xP 91 24 = some (24, .invokevirtual 140, 92, 2, 3, 0) := by decide +kernel
theorem xa_M_settle_27 : xm_at xP 91 27 = some (27, .istore_n 2, 0, 0, 0, 0) := by decide +kernel
theorem xa_M_settle_28 : xm_at xP 91 28 = some (28, .aload_n 0, 0, 0, 0, 0) := by decide +kernel
theorem xa_M_settle_29 : xm_at xP 91 29 = some (29, .aload_n 0, 0, 0, 0, 0) := by decide +kernel
theorem xa_M_settle_30 : xm_at xP 91 30 = some (30, .getfield 45, 3, 14, 0, 0) := by decide +kernel
theorem xa_M_settle_33 : xm_at xP 91 33 = some (33, .iload_n 1, 0, 0, 0, 0) := by decide +kernel
theorem xa_M_settle_34 : xm_at xP 91 34 = some (34, .iaload, 0, 0, 0, 0) := by decide +kernel
theorem xa_M_settle_35 : xm_at xP 91 35 = some (35, .invokevirtual 140, 92, 2, 3, 0) := by decide +kernel
theorem xa_M_settle_38 : xm_at xP 91 38 = some (38, .istore_n 3, 0, 0, 0, 0) := by decide +kernel
theorem xa_M_settle_39 : xm_at xP 91 39 = some (39, .iload_n 2, 0, 0, 0, 0) := by decide +kernel
theorem xa_M_settle_40 : xm_at xP 91 40 = some (40, .ifCond .eq 33, 73, 0, 0, 0) := by decide +kernel
theorem xa_M_settle_43 : xm_at xP 91 43 = some (43, .aload_n 0, 0, 0, 0, 0) := by decide +kernel
theorem xa_M_settle_44 : xm_at xP 91 44 = some (44, .getfield 48, 3, 15, 0, 0) := by decide +kernel
theorem xa_M_settle_47 : xm_at xP 91 47 = some (47, .iload_n 1, 0, 0, 0, 0) := by decide +kernel
theorem xa_M_settle_48 : xm_at xP 91 48 = some (48, .iaload, 0, 0, 0, 0) := by decide +kernel
theorem xa_M_settle_49 : xm_at xP 91 49 = some (49, .ifCond .eq 24, 73, 0, 0, 0) := by decide +kernel
theorem xa_M_settle_52 : xm_at xP 91 52 = some (52, .aload_n 0, 0, 0, 0, 0) := by decide +kernel
theorem xa_M_settle_53 : xm_at xP 91 53 = some (53, .getfield 51, 3, 16, 0, 0) := by decide +kernel
theorem xa_M_settle_56 : xm_at xP 91 56 = some (56, .iload_n 1, 0, 0, 0, 0) := by decide +kernel
theorem xa_M_settle_57 : xm_at xP 91 57 = some (57, .iaload, 0, 0, 0, 0) := by decide +kernel
theorem xa_M_settle_58 : xm_at xP 91 58 = some (58, .aload_n 0, 0, 0, 0, 0) := by decide +kernel
theorem xa_M_settle_59 : xm_at xP 91 59 = some (59, .getfield 76, 3, 7, 0, 0) := by decide +kernel
theorem xa_M_settle_62 : xm_at xP 91 62 = some (62, .if_icmp .ge 11, 73, 0, 0, 0) := by decide +kernel
theorem xa_M_settle_65 : xm_at xP 91 65 = some (65, .iload_n 3, 0, 0, 0, 0) := by decide +kernel
theorem xa_M_settle_66 : xm_at xP 91 66 = some (66, .ifCond .eq 7, 73, 0, 0, 0) := by decide +kernel
theorem xa_M_settle_69 : xm_at xP 91 69 = some (69, .iconst 1, 0, 0, 0, 0) := by decide +kernel
theorem xa_M_settle_70 : xm_at xP 91 70 = some (70, .goto 4, 74, 0, 0, 0) := by decide +kernel
theorem xa_M_settle_73 : xm_at xP 91 73 = some (73, .iconst 0, 0, 0, 0, 0) := by decide +kernel
theorem xa_M_settle_74 : xm_at xP 91 74 = some (74, .istore 4, 0, 0, 0, 0) := by decide +kernel
theorem xa_M_settle_76 : xm_at xP 91 76 = some (76, .aload_n 0, 0, 0, 0, 0) := by decide +kernel
theorem xa_M_settle_77 : xm_at xP 91 77 = some (77, .getfield 51, 3, 16, 0, 0) := by decide +kernel
theorem xa_M_settle_80 : xm_at xP 91 80 = some (80, .iload_n 1, 0, 0, 0, 0) := by decide +kernel
theorem xa_M_settle_81 : xm_at xP 91 81 = some (81, .iload_n 2, 0, 0, 0, 0) := by decide +kernel
theorem xa_M_settle_82 : xm_at xP 91 82 = some (82, .ifCond .eq 12, 94, 0, 0, 0) := by decide +kernel
theorem xa_M_settle_85 : xm_at xP 91 85 = some (85, .aload_n 0, 0, 0, 0, 0) := by decide +kernel
theorem xa_M_settle_86 : xm_at xP 91 86 = some (86, .getfield 51, 3, 16, 0, 0) := by decide +kernel
theorem xa_M_settle_89 : xm_at xP 91 89 = some (89, .iload_n 1, 0, 0, 0, 0) := by decide +kernel
theorem xa_M_settle_90 : xm_at xP 91 90 = some (90, .iaload, 0, 0, 0, 0) := by decide +kernel
theorem xa_M_settle_91 : xm_at xP 91 91 = some (91, .goto 4, 95, 0, 0, 0) := by decide +kernel
theorem xa_M_settle_94 : xm_at xP 91 94 = some (94, .iconst 0, 0, 0, 0, 0) := by decide +kernel
theorem xa_M_settle_95 : xm_at xP 91 95 = some (95, .iastore, 0, 0, 0, 0) := by decide +kernel
theorem xa_M_settle_96 : xm_at xP 91 96 = some (96, .aload_n 0, 0, 0, 0, 0) := by decide +kernel
theorem xa_M_settle_97 : xm_at xP 91 97 = some (97, .getfield 48, 3, 15, 0, 0) := by decide +kernel
theorem xa_M_settle_100 : xm_at xP 91 100 = some (100, .iload_n 1, 0, 0, 0, 0) := by decide +kernel
theorem xa_M_settle_101 : xm_at xP 91 101 = some (101, .iload_n 2, 0, 0, 0, 0) := by decide +kernel
theorem xa_M_settle_102 : xm_at xP 91 102 = some (102, .ifCond .eq 16, 118, 0, 0, 0) := by decide +kernel
theorem xa_M_settle_105 : xm_at xP 91 105 = some (105, .iload 4, 0, 0, 0, 0) := by decide +kernel
theorem xa_M_settle_107 : xm_at xP 91 107 = some (107, .ifCond .eq 7, 114, 0, 0, 0) := by decide +kernel
theorem xa_M_settle_110 : xm_at xP 91 110 = some (110, .iconst 1, 0, 0, 0, 0) := by decide +kernel
theorem xa_M_settle_111 : xm_at xP 91 111 = some (111, .goto 16, 127, 0, 0, 0) := by decide +kernel
theorem xa_M_settle_114 : xm_at xP 91 114 = some (114, .iconst 0, 0, 0, 0, 0) := by decide +kernel
theorem xa_M_settle_115 : xm_at xP 91 115 = some (115, .goto 12, 127, 0, 0, 0) := by decide +kernel
theorem xa_M_settle_118 : xm_at xP 91 118 = some (118, .iload_n 3, 0, 0, 0, 0) := by decide +kernel
theorem xa_M_settle_119 : xm_at xP 91 119 = some (119, .ifCond .eq 7, 126, 0, 0, 0) := by decide +kernel
theorem xa_M_settle_122 : xm_at xP 91 122 = some (122, .iconst 1, 0, 0, 0, 0) := by decide +kernel
theorem xa_M_settle_123 : xm_at xP 91 123 = some (123, .goto 4, 127, 0, 0, 0) := by decide +kernel
theorem xa_M_settle_126 : xm_at xP 91 126 = some (126, .iconst 2, 0, 0, 0, 0) := by decide +kernel
theorem xa_M_settle_127 : xm_at xP 91 127 = some (127, .iastore, 0, 0, 0, 0) := by decide +kernel
theorem xa_M_settle_128 : xm_at xP 91 128 = some (128, .iinc 1 1, 0, 0, 0, 0) := by decide +kernel
theorem xa_M_settle_131 : xm_at xP 91 131 = some (131, .goto (-129), 2, 0, 0, 0) := by decide +kernel
theorem xa_M_settle_134 : xm_at xP 91 134 = some (134, .return_, 0, 0, 0, 0) := by decide +kernel
section XM8
variable {xs : Nat → Int32} {LS d : Nat} {ks : Nat} {fl : Bool} {h : List va_E} {Q : (Option Value ⊕ Nat) → xm_S → Prop}
variable {Mc : Int32} {Mn : Nat} {Mm : Nat} {Mh : Int32} {Mp : Nat} {Mfw : Int32} {Mfs : Int32} {Me : Nat → Nat} {Ml : Nat → Nat} {Mbr : Nat → Bool} {Mlk : Nat → Bool} {Mt : Nat → Bool} {Mg : Nat → Bool} {Ma : Nat → Nat} {Mb : Nat → Nat} {Mw : Nat → Nat} {Mwk : Nat → Int32} {Msp : Nat → Int32} {Mon : Nat → Int32} {Mct : Nat → Int32} {MS : Nat → Int32} {MZ : Nat → Int32} {MA : Nat → Nat} {MN : Nat → Nat}
theorem xls_congr {S Z S' Z' : Nat → Int32} {B : Nat} (hS : ∀ i, i < B → S i = S' i ∧ Z i = Z' i) {p q : Nat} (hp : p < B) (hq : q < B) : xls S Z p q = xls S' Z' p q := by
  unfold xls
  rw [(hS p hp).1, (hS p hp).2, (hS q hq).1, (hS q hq).2]
theorem xfp_congr {S Z S' Z' : Nat → Int32} {B : Nat} (hS : ∀ i, i < B → S i = S' i ∧ Z i = Z' i) : ∀ p, p ≤ B → xfp S Z p = xfp S' Z' p := by
  intro p
  induction p with
  | zero => intro _; rfl
  | succ p ih =>
    intro hp
    have e := ih (by omega)
    unfold xfp
    rw [e]
    cases hx : xfp S' Z' p with
    | none => rfl
    | some b =>
      have := xfp_lt _ _ _ _ hx
      simp only
      rw [xls_congr hS (by omega) (by omega)]
theorem xq1_congr {S Z S' Z' : Nat → Int32} {B : Nat} (hS : ∀ i, i < B → S i = S' i ∧ Z i = Z' i) {p : Nat} (hp : p < B) (z : Int32 × Int32) : ∀ q, q ≤ B → xq1 S Z p q z = xq1 S' Z' p q z := by
  intro q
  induction q with
  | zero => intro _; rfl
  | succ q ih =>
    intro hq
    unfold xq1
    rw [ih (by omega), (hS p hp).1, (hS p hp).2, (hS q (by omega)).1, (hS q (by omega)).2]
theorem xq2_congr {S Z S' Z' : Nat → Int32} {B : Nat} (hS : ∀ i, i < B → S i = S' i ∧ Z i = Z' i) : ∀ p, p ≤ B → xq2 S Z p = xq2 S' Z' p := by
  intro p
  induction p with
  | zero => intro _; rfl
  | succ p ih =>
    intro hp
    unfold xq2
    rw [ih (by omega), xq1_congr hS (by omega) _ p (by omega)]
theorem xq3_congr {S Z S' Z' : Nat → Int32} {B : Nat} (hS : ∀ i, i < B → S i = S' i ∧ Z i = Z' i) {both : Int32} {p : Nat} (hp : p < B) {z : Option Nat} (hz : ∀ i, z = some i → i < B) : ∀ q, q ≤ B → xq3 S Z both p q z = xq3 S' Z' both p q z := by
  intro q
  induction q with
  | zero => intro _; rfl
  | succ q ih =>
    intro hq
    unfold xq3
    rw [ih (by omega)]
    cases hx : xq3 S' Z' both p q z with
    | none =>
      simp only
      rw [(hS p hp).1, (hS q (by omega)).1, xls_congr hS hp (show q < B by omega)]
    | some b =>
      have := xq3_lt S' Z' both p hp hz q b hx
      simp only
      rw [(hS p hp).1, (hS q (by omega)).1, xls_congr hS hp (show q < B by omega), xls_congr hS hp this]
theorem xq4_congr {S Z S' Z' : Nat → Int32} {B : Nat} (hS : ∀ i, i < B → S i = S' i ∧ Z i = Z' i) {both : Int32} : ∀ p, p ≤ B → xq4 S Z both B p = xq4 S' Z' both B p := by
  intro p
  induction p with
  | zero => intro _; rfl
  | succ p ih =>
    intro hp
    unfold xq4
    rw [ih (by omega), xq3_congr hS (by omega) (fun i hi => by have := xq4_lt _ _ _ _ _ _ hi; omega) B (by omega)]
/-- the list as a row, and its lengths -/
def xLS (L : List Int32) (i : Nat) : Int32 := (L[i]?).getD 0
def xLZ (l : Nat → Nat) (m : Nat) (L : List Int32) (i : Nat) : Int32 := xlen (fun j => nI (l j)) (xLS L i) m
/-- what the model finds among the paths L: work, spare -/
def xfind (l : Nat → Nat) (m : Nat) (L : List Int32) (pair : Bool) : Option (Int32 × Int32) :=
  if pair = true then
    if (xq2 (xLS L) (xLZ l m L) L.length).1 = 0 then none else (xq4 (xLS L) (xLZ l m L) (xq2 (xLS L) (xLZ l m L) L.length).1 L.length L.length).map (fun i => (xLS L i, (xq2 (xLS L) (xLZ l m L) L.length).1 &&& (xLS L i ^^^ (-1))))
  else (xfp (xLS L) (xLZ l m L) L.length).map (fun i => (xLS L i, 0))
theorem xSZ_eq {l : Nat → Nat} {m : Nat} {L : List Int32} {S Z : Nat → Int32} (h : xSZ l m L S Z) : ∀ i, i < L.length → S i = xLS L i ∧ Z i = xLZ l m L i := by
  intro i hi
  have e : L[i]? = some (xLS L i) := by
    unfold xLS
    rw [List.getElem?_eq_getElem hi]
    rfl
  exact h i _ e
/-- the model's search does not leave its rows, and a pair it finds has a lesser path -/
def xFok (l : Nat → Nat) (m : Nat) (L : List Int32) : Prop := L.length ≤ 4000 ∧ (¬ (xq2 (xLS L) (xLZ l m L) L.length).1 = 0 → ∃ i, xq4 (xLS L) (xLZ l m L) (xq2 (xLS L) (xLZ l m L) L.length).1 L.length L.length = some i)
/-- the model, whatever its listing has left behind -/
def xMs (h : List va_E) (Mc : Int32) (Mn Mm : Nat) (Mh : Int32) (Me Ml : Nat → Nat) (Mbr Mlk Mt Mg : Nat → Bool) (Ma Mb Mw : Nat → Nat) (Mwk Msp Mon Mct : Nat → Int32) : Prop :=
  ∃ Mp Mfw Mfs MS MZ MA MN, xMd h Mc Mn Mm Mh Mp Mfw Mfs Me Ml Mbr Mlk Mt Mg Ma Mb Mw Mwk Msp Mon Mct MS MZ MA MN ∧ (∀ j, MA j < 7) ∧ (∀ j, MN j < 100)
theorem c_M_findPair' {s : Int32} {a b : Nat} (hm : Mm ≤ 14) (hE : ∀ j, Me j < 7) (ha : a < 7) (hb : b < 7) (hF : xFok Ml Mm (xPL Me Mm s a b)) (hM : xMs h Mc Mn Mm Mh Me Ml Mbr Mlk Mt Mg Ma Mb Mw Mwk Msp Mon Mct)
    (k0 : ∀ h' fl', xMs h' Mc Mn Mm Mh Me Ml Mbr Mlk Mt Mg Ma Mb Mw Mwk Msp Mon Mct → xS h h' 22 40 → xfind Ml Mm (xPL Me Mm s a b) true = none → Q (.inl (some (.int 0))) (h', ks, fl'))
    (k1 : ∀ h' fl' p Mp MS MZ MA MN, xMd h' Mc Mn Mm Mh Mp p.1 p.2 Me Ml Mbr Mlk Mt Mg Ma Mb Mw Mwk Msp Mon Mct MS MZ MA MN → (∀ j, MA j < 7) → (∀ j, MN j < 100) → xS h h' 22 40 → xfind Ml Mm (xPL Me Mm s a b) true = some p → Q (.inl (some (.int 1))) (h', ks, fl')) :
    xG xs LS (d + 3) 79 (0, xm_entry xP 79 [.ref 22, .int s, .int (nI a), .int (nI b)], []) (h, ks, fl) Q := by
  obtain ⟨Mp, Mfw, Mfs, MS, MZ, MA, MN, hM, hA, hN⟩ := hM
  have e2 : ∀ S Z, xSZ Ml Mm (xPL Me Mm s a b) S Z → xq2 S Z (xPL Me Mm s a b).length = xq2 (xLS (xPL Me Mm s a b)) (xLZ Ml Mm (xPL Me Mm s a b)) (xPL Me Mm s a b).length := fun S Z hSZ => xq2_congr (xSZ_eq hSZ) _ (Nat.le_refl _)
  have e4 : ∀ S Z both, xSZ Ml Mm (xPL Me Mm s a b) S Z → xq4 S Z both (xPL Me Mm s a b).length (xPL Me Mm s a b).length = xq4 (xLS (xPL Me Mm s a b)) (xLZ Ml Mm (xPL Me Mm s a b)) both (xPL Me Mm s a b).length (xPL Me Mm s a b).length := fun S Z both hSZ => xq4_congr (xSZ_eq hSZ) _ (Nat.le_refl _)
  refine c_M_findPair hm hE ha hb hA hN hF.1 hM ?_ ?_ ?_
  · intro S Z hSZ hne
    rw [e2 S Z hSZ] at hne ⊢
    rw [e4 S Z _ hSZ]
    exact hF.2 hne
  · intro h' fl' S Z A N q1 q2 q3 q4 q5 q6
    refine k0 h' fl' ⟨_, _, _, _, _, _, _, q1, q4, q5⟩ q2 ?_
    rw [e2 S Z q3] at q6
    unfold xfind
    rw [if_pos rfl, if_pos q6]
  · intro h' fl' S Z A N i q1 q2 q3 q4 q5 q6 q7
    have hi := xq4_lt _ _ _ _ _ _ q7
    rw [e2 S Z q3] at q1 q6 q7
    rw [e4 S Z _ q3] at q7
    refine k1 h' fl' (S i, _) _ S Z A N q1 q4 q5 q2 ?_
    unfold xfind
    rw [if_pos rfl, if_neg q6, q7, (xSZ_eq q3 i hi).1]
    rfl
theorem c_M_findPath' {s : Int32} {a b : Nat} (hm : Mm ≤ 14) (hE : ∀ j, Me j < 7) (ha : a < 7) (hb : b < 7) (hF : xFok Ml Mm (xPL Me Mm s a b)) (hM : xMs h Mc Mn Mm Mh Me Ml Mbr Mlk Mt Mg Ma Mb Mw Mwk Msp Mon Mct)
    (k0 : ∀ h' fl', xMs h' Mc Mn Mm Mh Me Ml Mbr Mlk Mt Mg Ma Mb Mw Mwk Msp Mon Mct → xS h h' 22 40 → xfind Ml Mm (xPL Me Mm s a b) false = none → Q (.inl (some (.int 0))) (h', ks, fl'))
    (k1 : ∀ h' fl' p Mp MS MZ MA MN, xMd h' Mc Mn Mm Mh Mp p.1 p.2 Me Ml Mbr Mlk Mt Mg Ma Mb Mw Mwk Msp Mon Mct MS MZ MA MN → (∀ j, MA j < 7) → (∀ j, MN j < 100) → xS h h' 22 40 → xfind Ml Mm (xPL Me Mm s a b) false = some p → Q (.inl (some (.int 1))) (h', ks, fl')) :
    xG xs LS (d + 3) 84 (0, xm_entry xP 84 [.ref 22, .int s, .int (nI a), .int (nI b)], []) (h, ks, fl) Q := by
  obtain ⟨Mp, Mfw, Mfs, MS, MZ, MA, MN, hM, hA, hN⟩ := hM
  have e2 : ∀ S Z, xSZ Ml Mm (xPL Me Mm s a b) S Z → xfp S Z (xPL Me Mm s a b).length = xfp (xLS (xPL Me Mm s a b)) (xLZ Ml Mm (xPL Me Mm s a b)) (xPL Me Mm s a b).length := fun S Z hSZ => xfp_congr (xSZ_eq hSZ) _ (Nat.le_refl _)
  refine c_M_findPath hm hE ha hb hA hN hF.1 hM ?_ ?_
  · intro h' fl' S Z A N q1 q2 q3 q4 q5 q6
    refine k0 h' fl' ⟨_, _, _, _, _, _, _, q1, q4, q5⟩ q2 ?_
    rw [e2 S Z q3] at q6
    unfold xfind
    rw [if_neg (by decide), q6]
    rfl
  · intro h' fl' S Z A N i q1 q2 q3 q4 q5 q7
    have hi := xfp_lt _ _ _ _ q7
    rw [e2 S Z q3] at q7
    refine k1 h' fl' (S i, 0) _ S Z A N q1 q4 q5 q2 ?_
    unfold xfind
    rw [if_neg (by decide), q7, (xSZ_eq q3 i hi).1]
    rfl
/-- what the model finds on wavelength w -/
abbrev xfw (Mm : Nat) (Me Ml : Nat → Nat) (Mbr Mlk Mt : Nat → Bool) (Mw : Nat → Nat) (Mwk Msp : Nat → Int32) (a b : Nat) (pair : Bool) (w : Nat) : Option (Int32 × Int32) := xfind Ml Mm (xPL Me Mm (xfre Mbr Mlk Mt Mw Mwk Msp w Mm) a b) pair
theorem c_M_find {w a b : Nat} {pair : Bool} (hm : Mm ≤ 14) (hE : ∀ j, Me j < 7) (ha : a < 7) (hb : b < 7) (hF : ∀ s, xFok Ml Mm (xPL Me Mm s a b)) (hM : xMs h Mc Mn Mm Mh Me Ml Mbr Mlk Mt Mg Ma Mb Mw Mwk Msp Mon Mct)
    (k0 : ∀ h' fl', xMs h' Mc Mn Mm Mh Me Ml Mbr Mlk Mt Mg Ma Mb Mw Mwk Msp Mon Mct → xS h h' 22 40 → xfw Mm Me Ml Mbr Mlk Mt Mw Mwk Msp a b pair w = none → Q (.inl (some (.int 0))) (h', ks, fl'))
    (k1 : ∀ h' fl' p Mp MS MZ MA MN, xMd h' Mc Mn Mm Mh Mp p.1 p.2 Me Ml Mbr Mlk Mt Mg Ma Mb Mw Mwk Msp Mon Mct MS MZ MA MN → (∀ j, MA j < 7) → (∀ j, MN j < 100) → xS h h' 22 40 → xfw Mm Me Ml Mbr Mlk Mt Mw Mwk Msp a b pair w = some p → Q (.inl (some (.int 1))) (h', ks, fl')) :
    xG xs LS (d + 4) 75 (0, xm_entry xP 75 [.ref 22, .int (nI w), .int (nI a), .int (nI b), .int (xz pair)], []) (h, ks, fl) Q := by
  show xG xs LS (d + 4) 75 (0, [some (.ref 22), some (.int (nI w)), some (.int (nI a)), some (.int (nI b)), some (.int (xz pair))], []) (h, ks, fl) Q
  have hMs := hM
  obtain ⟨Mp, Mfw, Mfs, MS, MZ, MA, MN, hM, hA, hN⟩ := hM
  obtain ⟨g22, g23, g24, g25, g26, g27, g28, g29, g30, g31, g32, g33, g34, g35, g36, g37, g38, g39⟩ := id hM
  refine xg_iload xa_M_find_0 rfl ?_
  refine xg_if_eq xa_M_find_2 (fun c => ?_) (fun c => ?_)
  · rw [(xz0 _).mp c] at k0 k1
    refine xg_aload_n xa_M_find_19 rfl ?_
    refine xg_aload_n xa_M_find_20 rfl ?_
    refine xg_iload_n xa_M_find_21 rfl ?_
    refine xg_callV1 xa_M_find_22 ⟨Nat.le_of_ble_eq_true rfl, Nat.le_of_ble_eq_true rfl, rfl⟩ rfl rfl (by assumption) ?_
    refine c_M_free hM hm ?_
    refine xK1_c ?_
    refine xg_iload_n xa_M_find_25 rfl ?_
    refine xg_iload_n xa_M_find_26 rfl ?_
    refine xg_callV1 xa_M_find_27 ⟨Nat.le_of_ble_eq_true rfl, Nat.le_of_ble_eq_true rfl, rfl⟩ rfl rfl (by assumption) ?_
    refine c_M_findPath' hm hE ha hb (hF _) hMs (fun h' fl' q1 q2 q3 => ?_) (fun h' fl' p Mp MS MZ MA MN q1 q2 q3 q4 q5 => ?_)
    · refine xK1_d ?_
      exact xg_zreturn xa_M_find_30 (Or.inl rfl) (k0 _ _ q1 q2 q3)
    · refine xK1_d ?_
      exact xg_zreturn xa_M_find_30 (Or.inr rfl) (k1 _ _ p Mp MS MZ MA MN q1 q2 q3 q4 q5)
  · rw [xz1 c] at k0 k1
    refine xg_aload_n xa_M_find_5 rfl ?_
    refine xg_aload_n xa_M_find_6 rfl ?_
    refine xg_iload_n xa_M_find_7 rfl ?_
    refine xg_callV1 xa_M_find_8 ⟨Nat.le_of_ble_eq_true rfl, Nat.le_of_ble_eq_true rfl, rfl⟩ rfl rfl (by assumption) ?_
    refine c_M_free hM hm ?_
    refine xK1_c ?_
    refine xg_iload_n xa_M_find_11 rfl ?_
    refine xg_iload_n xa_M_find_12 rfl ?_
    refine xg_callV1 xa_M_find_13 ⟨Nat.le_of_ble_eq_true rfl, Nat.le_of_ble_eq_true rfl, rfl⟩ rfl rfl (by assumption) ?_
    refine c_M_findPair' hm hE ha hb (hF _) hMs (fun h' fl' q1 q2 q3 => ?_) (fun h' fl' p Mp MS MZ MA MN q1 q2 q3 q4 q5 => ?_)
    · refine xK1_d ?_
      refine xg_goto xa_M_find_16 ?_
      exact xg_zreturn xa_M_find_30 (Or.inl rfl) (k0 _ _ q1 q2 q3)
    · refine xK1_d ?_
      refine xg_goto xa_M_find_16 ?_
      exact xg_zreturn xa_M_find_30 (Or.inr rfl) (k1 _ _ p Mp MS MZ MA MN q1 q2 q3 q4 q5)
theorem c_M_take {c w : Nat} (hc : c < 12) (hM : xMd h Mc Mn Mm Mh Mp Mfw Mfs Me Ml Mbr Mlk Mt Mg Ma Mb Mw Mwk Msp Mon Mct MS MZ MA MN)
    (k : ∀ h' fl', xMd h' Mc Mn Mm Mh Mp Mfw Mfs Me Ml Mbr Mlk Mt Mg Ma Mb (xup Mw c w) (xup Mwk c Mfw) (xup Msp c Mfs) (xup Mon c 0) (xup Mct c 0) MS MZ MA MN → xS h h' 22 40 → Q (.inl none) (h', ks, fl')) :
    xG xs LS d 85 (0, xm_entry xP 85 [.ref 22, .int (nI c), .int (nI w)], []) (h, ks, fl) Q := by
  show xG xs LS d 85 (0, [some (.ref 22), some (.int (nI c)), some (.int (nI w))], []) (h, ks, fl) Q
  obtain ⟨g22, g23, g24, g25, g26, g27, g28, g29, g30, g31, g32, g33, g34, g35, g36, g37, g38, g39⟩ := id hM
  refine xg_aload_n xa_M_take_0 rfl ?_
  refine xg_getfield xa_M_take_1 (by assumption) rfl ?_
  refine xg_iload_n xa_M_take_4 rfl ?_
  refine xg_iload_n xa_M_take_5 rfl ?_
  refine xg_iastf_n xa_M_take_6 (by assumption) rfl (by assumption) (by decide) (fun hq6 u6 => ?_)
  have hM1 := xMd_Mw hM u6
  obtain ⟨g22, g23, g24, g25, g26, g27, g28, g29, g30, g31, g32, g33, g34, g35, g36, g37, g38, g39⟩ := id hM1
  refine xg_aload_n xa_M_take_7 rfl ?_
  refine xg_getfield xa_M_take_8 (by assumption) rfl ?_
  refine xg_iload_n xa_M_take_11 rfl ?_
  refine xg_aload_n xa_M_take_12 rfl ?_
  refine xg_getfield xa_M_take_13 (by assumption) rfl ?_
  refine xg_iastf_n xa_M_take_16 (by assumption) rfl (by assumption) (by decide) (fun h16 u16 => ?_)
  have hM2 := xMd_Mwk hM1 u16
  obtain ⟨g22, g23, g24, g25, g26, g27, g28, g29, g30, g31, g32, g33, g34, g35, g36, g37, g38, g39⟩ := id hM2
  refine xg_aload_n xa_M_take_17 rfl ?_
  refine xg_getfield xa_M_take_18 (by assumption) rfl ?_
  refine xg_iload_n xa_M_take_21 rfl ?_
  refine xg_aload_n xa_M_take_22 rfl ?_
  refine xg_getfield xa_M_take_23 (by assumption) rfl ?_
  refine xg_iastf_n xa_M_take_26 (by assumption) rfl (by assumption) (by decide) (fun h26 u26 => ?_)
  have hM3 := xMd_Msp hM2 u26
  obtain ⟨g22, g23, g24, g25, g26, g27, g28, g29, g30, g31, g32, g33, g34, g35, g36, g37, g38, g39⟩ := id hM3
  refine xg_aload_n xa_M_take_27 rfl ?_
  refine xg_getfield xa_M_take_28 (by assumption) rfl ?_
  refine xg_iload_n xa_M_take_31 rfl ?_
  refine xg_iconst (v := 0) xa_M_take_32 (by decide) ?_
  refine xg_iastf_n xa_M_take_33 (by assumption) rfl (by assumption) (by decide) (fun h33 u33 => ?_)
  have hM4 := xMd_Mon hM3 u33
  obtain ⟨g22, g23, g24, g25, g26, g27, g28, g29, g30, g31, g32, g33, g34, g35, g36, g37, g38, g39⟩ := id hM4
  refine xg_aload_n xa_M_take_34 rfl ?_
  refine xg_getfield xa_M_take_35 (by assumption) rfl ?_
  refine xg_iload_n xa_M_take_38 rfl ?_
  refine xg_iconst (v := 0) xa_M_take_39 (by decide) ?_
  refine xg_iastf_n xa_M_take_40 (by assumption) rfl (by assumption) (by decide) (fun h40 u40 => ?_)
  have hM5 := xMd_Mct hM4 u40
  exact xg_return xa_M_take_41 (k _ _ hM5 (((((u6.toS (by decide) (by decide)).tr (u16.toS (by decide) (by decide))).tr (u26.toS (by decide) (by decide))).tr (u33.toS (by decide) (by decide))).tr (u40.toS (by decide) (by decide))))
/-- a set that is there, with none of its first fibres broken -/
def xwo (br : Nat → Bool) (s : Int32) : Nat → Bool
  | 0 => decide (¬ s = 0)
  | f + 1 => xwo br s f && !(xb s f && br f)
theorem c_M_whole {s : Int32} (hm : Mm ≤ 14) (hM : xMd h Mc Mn Mm Mh Mp Mfw Mfs Me Ml Mbr Mlk Mt Mg Ma Mb Mw Mwk Msp Mon Mct MS MZ MA MN) (k : Q (.inl (some (.int (xz (xwo Mbr s Mm))))) (h, ks, fl)) : xG xs LS (d + 1) 92 (0, xm_entry xP 92 [.ref 22, .int s], []) (h, ks, fl) Q := by
  show xG xs LS (d + 1) 92 (0, [some (.ref 22), some (.int s), none, none], []) (h, ks, fl) Q
  obtain ⟨g22, g23, g24, g25, g26, g27, g28, g29, g30, g31, g32, g33, g34, g35, g36, g37, g38, g39⟩ := id hM
  have loop : ∀ n i, i + n = Mm → xG xs LS (d + 1) 92 (12, [some (.ref 22), some (.int s), some (.int (xz (xwo Mbr s i))), some (.int (nI i))], []) (h, ks, fl) Q := by
    intro n
    induction n with
    | zero =>
      intro i hi
      have e : i = Mm := by omega
      subst e
      refine xg_iload_n xa_M_whole_12 rfl ?_
      refine xg_aload_n xa_M_whole_13 rfl ?_
      refine xg_getfield xa_M_whole_14 (by assumption) rfl ?_
      refine xg_icmp_ge xa_M_whole_17 (fun c17 => ?_) (fun c17 => absurd (nI_le (by omega) (by omega)) c17)
      refine xg_iload_n xa_M_whole_54 rfl ?_
      refine xg_zreturn xa_M_whole_55 (xz01 _) ?_
      exact k
    | succ n ih =>
      intro i hi
      have hi14 : i < 14 := by omega
      have next : ∀ v, v = xwo Mbr s (i + 1) → xG xs LS (d + 1) 92 (47, [some (.ref 22), some (.int s), some (.int (xz (xwo Mbr s i))), some (.int (nI i))], [.int (xz v)]) (h, ks, fl) Q := by
        intro v e
        subst e
        refine xg_istore_n (L' := [_, _, _, _]) xa_M_whole_47 (Nat.le_of_ble_eq_true rfl) rfl ?_
        refine xg_iinc (L' := [_, _, _, _]) xa_M_whole_48 rfl (xi_inc _) rfl ?_
        refine xg_goto xa_M_whole_51 ?_
        exact ih (i + 1) (by omega)
      have no : xwo Mbr s (i + 1) = false → xG xs LS (d + 1) 92 (46, [some (.ref 22), some (.int s), some (.int (xz (xwo Mbr s i))), some (.int (nI i))], []) (h, ks, fl) Q := by
        intro e
        refine xg_iconst (v := 0) xa_M_whole_46 (by decide) ?_
        exact next false e.symm
      have yes : xwo Mbr s (i + 1) = true → xG xs LS (d + 1) 92 (42, [some (.ref 22), some (.int s), some (.int (xz (xwo Mbr s i))), some (.int (nI i))], []) (h, ks, fl) Q := by
        intro e
        refine xg_iconst (v := 1) xa_M_whole_42 (by decide) ?_
        refine xg_goto xa_M_whole_43 ?_
        exact next true e.symm
      have ex : xwo Mbr s (i + 1) = (xwo Mbr s i && !(xb s i && Mbr i)) := rfl
      rw [ex] at no yes
      refine xg_iload_n xa_M_whole_12 rfl ?_
      refine xg_aload_n xa_M_whole_13 rfl ?_
      refine xg_getfield xa_M_whole_14 (by assumption) rfl ?_
      refine xg_icmp_ge xa_M_whole_17 (fun c => absurd c (nI_ge (by omega) (by omega))) (fun _ => ?_)
      refine xg_iload_n xa_M_whole_20 rfl ?_
      refine xg_if_eq xa_M_whole_21 (fun c => no (by rw [(xz0 _).mp c]; rfl)) (fun c21 => ?_)
      refine xg_iload_n xa_M_whole_24 rfl ?_
      refine xg_iload_n xa_M_whole_25 rfl ?_
      refine xg_callS1 xa_M_whole_26 ⟨Nat.le_of_ble_eq_true rfl, Nat.le_of_ble_eq_true rfl, rfl⟩ rfl rfl ?_
      refine c_M_bit (by omega) ?_
      refine xK1_c ?_
      refine xg_iconst (v := 1) xa_M_whole_29 (by decide) ?_
      refine xg_icmp_ne xa_M_whole_30 (fun c => yes ?_) (fun c30 => ?_)
      · cases hb : xb s i with
        | false => rw [xz1 c21]; rfl
        | true => rw [hb] at c; exact absurd rfl c
      · have hb : xb s i = true := xz_inj.mp c30
        refine xg_aload_n xa_M_whole_33 rfl ?_
        refine xg_getfield xa_M_whole_34 (by assumption) rfl ?_
        refine xg_iload_n xa_M_whole_37 rfl ?_
        refine xg_zald_n xa_M_whole_38 (by assumption) rfl (by assumption) (by decide) ?_
        refine xg_if_ne xa_M_whole_39 (fun c => no (by rw [hb, xz1 c]; simp)) (fun c => yes (by rw [hb, (xz0 _).mp c, xz1 c21]; rfl))
  refine xg_iload_n xa_M_whole_0 rfl ?_
  refine xg_if_eq xa_M_whole_1 (fun c => ?_) (fun c => ?_)
  · have e : xwo Mbr s 0 = false := decide_eq_false (fun q => q c)
    have l0 := loop Mm 0 (by omega)
    rw [e] at l0
    refine xg_iconst (v := 0) xa_M_whole_8 (by decide) ?_
    refine xg_istore_n (L' := [_, _, _, _]) xa_M_whole_9 (Nat.le_of_ble_eq_true rfl) rfl ?_
    refine xg_iconst (v := 0) xa_M_whole_10 (by decide) ?_
    refine xg_istore_n (L' := [_, _, _, _]) xa_M_whole_11 (Nat.le_of_ble_eq_true rfl) rfl ?_
    exact l0
  · have e : xwo Mbr s 0 = true := decide_eq_true c
    have l0 := loop Mm 0 (by omega)
    rw [e] at l0
    refine xg_iconst (v := 1) xa_M_whole_4 (by decide) ?_
    refine xg_goto xa_M_whole_5 ?_
    refine xg_istore_n (L' := [_, _, _, _]) xa_M_whole_9 (Nat.le_of_ble_eq_true rfl) rfl ?_
    refine xg_iconst (v := 0) xa_M_whole_10 (by decide) ?_
    refine xg_istore_n (L' := [_, _, _, _]) xa_M_whole_11 (Nat.le_of_ble_eq_true rfl) rfl ?_
    exact l0
/-- where a connection is carried, and its count: behind a change -/
def xse (work spare : Bool) (on ct wait : Int32) : Int32 × Int32 :=
  (if work = true then (if ¬ on = 0 ∧ ¬ wait ≤ ct ∧ spare = true then 1 else 0) else (if spare = true then 1 else 2), if work = true then ct else 0)
/-- the first n places of those that are there, changed -/
def xmix (t : Nat → Bool) (G F : Nat → Int32) (n : Nat) : Nat → Int32 := fun c => if c < n ∧ t c = true then G c else F c
theorem xmix_0 (t : Nat → Bool) (G F : Nat → Int32) : xmix t G F 0 = F := by
  funext c
  exact if_neg (fun q => by omega)
theorem xmix_n {t : Nat → Bool} {G F : Nat → Int32} {n : Nat} (h : t n = false) : xmix t G F (n + 1) = xmix t G F n := by
  funext c
  unfold xmix
  by_cases e : c = n
  · subst e
    rw [if_neg (fun q => by rw [h] at q; cases q.2), if_neg (fun q => by omega)]
  · by_cases e2 : c < n ∧ t c = true
    · rw [if_pos ⟨by omega, e2.2⟩, if_pos e2]
    · rw [if_neg (fun q => e2 ⟨by omega, q.2⟩), if_neg e2]
theorem xmix_s {t : Nat → Bool} {G F : Nat → Int32} {n : Nat} (h : t n = true) : xup (xmix t G F n) n (G n) = xmix t G F (n + 1) := by
  funext c
  unfold xmix xup
  by_cases e : c = n
  · subst e
    rw [if_pos rfl, if_pos ⟨by omega, h⟩]
  · rw [if_neg e]
    show (if c < n ∧ t c = true then G c else F c) = _
    by_cases e2 : c < n ∧ t c = true
    · rw [if_pos e2, if_pos ⟨by omega, e2.2⟩]
    · rw [if_neg e2, if_neg (fun q => e2 ⟨by omega, q.2⟩)]
theorem xmix_at {t : Nat → Bool} {G F : Nat → Int32} {n : Nat} : xmix t G F n n = F n := if_neg (fun q => by omega)
abbrev xseF (Mm : Nat) (Mh : Int32) (Mbr : Nat → Bool) (Mwk Msp Mon Mct : Nat → Int32) (c : Nat) : Int32 × Int32 := xse (xwo Mbr (Mwk c) Mm) (xwo Mbr (Msp c) Mm) (Mon c) (Mct c) Mh
theorem c_M_settle (hm : Mm ≤ 14) (hM : xMd h Mc Mn Mm Mh Mp Mfw Mfs Me Ml Mbr Mlk Mt Mg Ma Mb Mw Mwk Msp Mon Mct MS MZ MA MN)
    (k : ∀ h' fl', xMd h' Mc Mn Mm Mh Mp Mfw Mfs Me Ml Mbr Mlk Mt Mg Ma Mb Mw Mwk Msp (xmix Mt (fun c => (xseF Mm Mh Mbr Mwk Msp Mon Mct c).1) Mon 12) (xmix Mt (fun c => (xseF Mm Mh Mbr Mwk Msp Mon Mct c).2) Mct 12) MS MZ MA MN → xS h h' 22 40 → Q (.inl none) (h', ks, fl')) :
    xG xs LS (d + 2) 91 (0, xm_entry xP 91 [.ref 22], []) (h, ks, fl) Q := by
  show xG xs LS (d + 2) 91 (0, [some (.ref 22), none, none, none, none], []) (h, ks, fl) Q
  have loop : ∀ n i h1 fl' j2 j3 j4, i + n = 12 → xMd h1 Mc Mn Mm Mh Mp Mfw Mfs Me Ml Mbr Mlk Mt Mg Ma Mb Mw Mwk Msp (xmix Mt (fun c => (xseF Mm Mh Mbr Mwk Msp Mon Mct c).1) Mon i) (xmix Mt (fun c => (xseF Mm Mh Mbr Mwk Msp Mon Mct c).2) Mct i) MS MZ MA MN → xS h h1 22 40 → xG xs LS (d + 2) 91 (2, [some (.ref 22), some (.int (nI i)), j2, j3, j4], []) (h1, ks, fl') Q := by
    intro n
    induction n with
    | zero =>
      intro i h1 fl' j2 j3 j4 hi hM hS
      have e : i = 12 := by omega
      subst e
      refine xg_iload_n xa_M_settle_2 rfl ?_
      refine xg_bipush (v := 12) xa_M_settle_3 (by decide) ?_
      refine xg_icmp_ge xa_M_settle_5 (fun c5 => ?_) (fun c5 => absurd (by decide) c5)
      refine xg_return xa_M_settle_134 ?_
      exact k _ _ hM hS
    | succ n ih =>
      intro i h1 fl' j2 j3 j4 hi hM hS
      have hi12 : i < 12 := by omega
      obtain ⟨g22, g23, g24, g25, g26, g27, g28, g29, g30, g31, g32, g33, g34, g35, g36, g37, g38, g39⟩ := id hM
      refine xg_iload_n xa_M_settle_2 rfl ?_
      refine xg_bipush (v := 12) xa_M_settle_3 (by decide) ?_
      refine xg_icmp_ge xa_M_settle_5 (fun c => absurd c (show ¬ nI 12 ≤ nI i from nI_ge (by omega) (by omega))) (fun _ => ?_)
      refine xg_aload_n xa_M_settle_8 rfl ?_
      refine xg_getfield xa_M_settle_9 (by assumption) rfl ?_
      refine xg_iload_n xa_M_settle_12 rfl ?_
      refine xg_zald_n xa_M_settle_13 (by assumption) rfl (by assumption) (by decide) ?_
      refine xg_if_eq xa_M_settle_14 (fun c => ?_) (fun c => ?_)
      · have ht := (xz0 _).mp c
        refine xg_iinc (L' := [_, _, _, _, _]) xa_M_settle_128 rfl (xi_inc _) rfl ?_
        refine xg_goto xa_M_settle_131 ?_
        refine ih (i + 1) h1 _ _ _ _ (by omega) ?_ hS
        rw [xmix_n ht, xmix_n ht]
        exact hM
      · have ht := xz1 c
        have tail : ∀ fl' (wt : Bool), (wt = true ↔ (xwo Mbr (Mwk i) Mm = true ∧ ¬ Mon i = 0 ∧ ¬ Mh ≤ Mct i ∧ xwo Mbr (Msp i) Mm = true)) → xG xs LS (d + 2) 91 (76, [some (.ref 22), some (.int (nI i)), some (.int (xz (xwo Mbr (Mwk i) Mm))), some (.int (xz (xwo Mbr (Msp i) Mm))), some (.int (xz wt))], []) (h1, ks, fl') Q := by
          intro fl' wt hwt
          have last : ∀ h2 fl', xMd h2 Mc Mn Mm Mh Mp Mfw Mfs Me Ml Mbr Mlk Mt Mg Ma Mb Mw Mwk Msp (xmix Mt (fun c => (xseF Mm Mh Mbr Mwk Msp Mon Mct c).1) Mon i) (xmix Mt (fun c => (xseF Mm Mh Mbr Mwk Msp Mon Mct c).2) Mct (i + 1)) MS MZ MA MN → xS h h2 22 40 → xG xs LS (d + 2) 91 (96, [some (.ref 22), some (.int (nI i)), some (.int (xz (xwo Mbr (Mwk i) Mm))), some (.int (xz (xwo Mbr (Msp i) Mm))), some (.int (xz wt))], []) (h2, ks, fl') Q := by
            intro h2 fl' hM2 hS2
            obtain ⟨g22, g23, g24, g25, g26, g27, g28, g29, g30, g31, g32, g33, g34, g35, g36, g37, g38, g39⟩ := id hM2
            have fin : ∀ v fl', v = (xseF Mm Mh Mbr Mwk Msp Mon Mct i).1 → xG xs LS (d + 2) 91 (127, [some (.ref 22), some (.int (nI i)), some (.int (xz (xwo Mbr (Mwk i) Mm))), some (.int (xz (xwo Mbr (Msp i) Mm))), some (.int (xz wt))], [.int v, .int (nI i), .ref 34]) (h2, ks, fl') Q := by
              intro v fl' e
              subst e
              refine xg_iastf_n xa_M_settle_127 (by assumption) rfl (by assumption) (by decide) (fun h127 u127 => ?_)
              have hM3 := xMd_Mon hM2 u127
              rw [xmix_s (G := fun c => (xseF Mm Mh Mbr Mwk Msp Mon Mct c).1) ht] at hM3
              refine xg_iinc (L' := [_, _, _, _, _]) xa_M_settle_128 rfl (xi_inc _) rfl ?_
              refine xg_goto xa_M_settle_131 ?_
              exact ih (i + 1) h127 _ _ _ _ (by omega) hM3 (hS2.tr (u127.toS (by decide) (by decide)))
            unfold xseF xse at fin
            refine xg_aload_n xa_M_settle_96 rfl ?_
            refine xg_getfield xa_M_settle_97 (by assumption) rfl ?_
            refine xg_iload_n xa_M_settle_100 rfl ?_
            refine xg_iload_n xa_M_settle_101 rfl ?_
            refine xg_if_eq xa_M_settle_102 (fun c => ?_) (fun c => ?_)
            · have hw := (xz0 _).mp c
              refine xg_iload_n xa_M_settle_118 rfl ?_
              refine xg_if_eq xa_M_settle_119 (fun c2 => ?_) (fun c2 => ?_)
              · refine xg_iconst (v := 2) xa_M_settle_126 (by decide) ?_
                exact fin _ _ (by simp only; rw [hw, (xz0 _).mp c2]; rfl)
              · refine xg_iconst (v := 1) xa_M_settle_122 (by decide) ?_
                refine xg_goto xa_M_settle_123 ?_
                exact fin _ _ (by simp only; rw [hw, xz1 c2]; rfl)
            · have hw := xz1 c
              refine xg_iload xa_M_settle_105 rfl ?_
              refine xg_if_eq xa_M_settle_107 (fun c2 => ?_) (fun c2 => ?_)
              · have hn : ¬ (¬ Mon i = 0 ∧ ¬ Mh ≤ Mct i ∧ xwo Mbr (Msp i) Mm = true) := fun q => by
                  have := hwt.mpr ⟨hw, q⟩
                  rw [(xz0 _).mp c2] at this
                  cases this
                refine xg_iconst (v := 0) xa_M_settle_114 (by decide) ?_
                refine xg_goto xa_M_settle_115 ?_
                exact fin _ _ (by simp only; rw [if_pos hw, if_neg hn])
              · have hy := (hwt.mp (xz1 c2)).2
                refine xg_iconst (v := 1) xa_M_settle_110 (by decide) ?_
                refine xg_goto xa_M_settle_111 ?_
                exact fin _ _ (by simp only; rw [if_pos hw, if_pos hy])
          have cnt : ∀ v fl', v = (xseF Mm Mh Mbr Mwk Msp Mon Mct i).2 → xG xs LS (d + 2) 91 (95, [some (.ref 22), some (.int (nI i)), some (.int (xz (xwo Mbr (Mwk i) Mm))), some (.int (xz (xwo Mbr (Msp i) Mm))), some (.int (xz wt))], [.int v, .int (nI i), .ref 35]) (h1, ks, fl') Q := by
            intro v fl' e
            subst e
            refine xg_iastf_n xa_M_settle_95 (by assumption) rfl (by assumption) (by decide) (fun h95 u95 => ?_)
            have hM3 := xMd_Mct hM u95
            rw [xmix_s (G := fun c => (xseF Mm Mh Mbr Mwk Msp Mon Mct c).2) ht] at hM3
            exact last h95 _ hM3 (hS.tr (u95.toS (by decide) (by decide)))
          unfold xseF xse at cnt
          refine xg_aload_n xa_M_settle_76 rfl ?_
          refine xg_getfield xa_M_settle_77 (by assumption) rfl ?_
          refine xg_iload_n xa_M_settle_80 rfl ?_
          refine xg_iload_n xa_M_settle_81 rfl ?_
          refine xg_if_eq xa_M_settle_82 (fun c => ?_) (fun c => ?_)
          · refine xg_iconst (v := 0) xa_M_settle_94 (by decide) ?_
            exact cnt _ _ (by simp only; rw [(xz0 _).mp c]; rfl)
          · refine xg_aload_n xa_M_settle_85 rfl ?_
            refine xg_getfield xa_M_settle_86 (by assumption) rfl ?_
            refine xg_iload_n xa_M_settle_89 rfl ?_
            refine xg_iald_n xa_M_settle_90 (by assumption) rfl (by assumption) (by decide) ?_
            refine xg_goto xa_M_settle_91 ?_
            rw [xmix_at]
            exact cnt _ _ (by simp only; rw [if_pos (xz1 c)])
        have no : ∀ fl' j4, ¬ (xwo Mbr (Mwk i) Mm = true ∧ ¬ Mon i = 0 ∧ ¬ Mh ≤ Mct i ∧ xwo Mbr (Msp i) Mm = true) → xG xs LS (d + 2) 91 (73, [some (.ref 22), some (.int (nI i)), some (.int (xz (xwo Mbr (Mwk i) Mm))), some (.int (xz (xwo Mbr (Msp i) Mm))), j4], []) (h1, ks, fl') Q := by
          intro fl' j4 q
          refine xg_iconst (v := 0) xa_M_settle_73 (by decide) ?_
          refine xg_istore (L' := [_, _, _, _, _]) xa_M_settle_74 (Nat.le_of_ble_eq_true rfl) rfl ?_
          exact tail _ false ⟨fun q' => (by cases q'), fun q' => absurd q' q⟩
        refine xg_aload_n xa_M_settle_17 rfl ?_
        refine xg_aload_n xa_M_settle_18 rfl ?_
        refine xg_getfield xa_M_settle_19 (by assumption) rfl ?_
        refine xg_iload_n xa_M_settle_22 rfl ?_
        refine xg_iald_n xa_M_settle_23 (by assumption) rfl (by assumption) (by decide) ?_
        refine xg_callV1 xa_M_settle_24 ⟨Nat.le_of_ble_eq_true rfl, Nat.le_of_ble_eq_true rfl, rfl⟩ rfl rfl (by assumption) ?_
        refine c_M_whole hm hM ?_
        refine xK1_c ?_
        refine xg_istore_n (L' := [_, _, _, _, _]) xa_M_settle_27 (Nat.le_of_ble_eq_true rfl) rfl ?_
        refine xg_aload_n xa_M_settle_28 rfl ?_
        refine xg_aload_n xa_M_settle_29 rfl ?_
        refine xg_getfield xa_M_settle_30 (by assumption) rfl ?_
        refine xg_iload_n xa_M_settle_33 rfl ?_
        refine xg_iald_n xa_M_settle_34 (by assumption) rfl (by assumption) (by decide) ?_
        refine xg_callV1 xa_M_settle_35 ⟨Nat.le_of_ble_eq_true rfl, Nat.le_of_ble_eq_true rfl, rfl⟩ rfl rfl (by assumption) ?_
        refine c_M_whole hm hM ?_
        refine xK1_c ?_
        refine xg_istore_n (L' := [_, _, _, _, _]) xa_M_settle_38 (Nat.le_of_ble_eq_true rfl) rfl ?_
        refine xg_iload_n xa_M_settle_39 rfl ?_
        refine xg_if_eq xa_M_settle_40 (fun c => no _ _ (fun q => by rw [(xz0 _).mp c] at q; cases q.1)) (fun c40 => ?_)
        refine xg_aload_n xa_M_settle_43 rfl ?_
        refine xg_getfield xa_M_settle_44 (by assumption) rfl ?_
        refine xg_iload_n xa_M_settle_47 rfl ?_
        refine xg_iald_n xa_M_settle_48 (by assumption) rfl (by assumption) (by decide) ?_
        rw [xmix_at]
        refine xg_if_eq xa_M_settle_49 (fun c => no _ _ (fun q => q.2.1 c)) (fun c49 => ?_)
        refine xg_aload_n xa_M_settle_52 rfl ?_
        refine xg_getfield xa_M_settle_53 (by assumption) rfl ?_
        refine xg_iload_n xa_M_settle_56 rfl ?_
        refine xg_iald_n xa_M_settle_57 (by assumption) rfl (by assumption) (by decide) ?_
        refine xg_aload_n xa_M_settle_58 rfl ?_
        refine xg_getfield xa_M_settle_59 (by assumption) rfl ?_
        rw [xmix_at]
        refine xg_icmp_ge xa_M_settle_62 (fun c => no _ _ (fun q => q.2.2.1 c)) (fun c62 => ?_)
        refine xg_iload_n xa_M_settle_65 rfl ?_
        refine xg_if_eq xa_M_settle_66 (fun c => no _ _ (fun q => by rw [(xz0 _).mp c] at q; cases q.2.2.2)) (fun c66 => ?_)
        refine xg_iconst (v := 1) xa_M_settle_69 (by decide) ?_
        refine xg_goto xa_M_settle_70 ?_
        refine xg_istore (L' := [_, _, _, _, _]) xa_M_settle_74 (Nat.le_of_ble_eq_true rfl) rfl ?_
        exact tail _ true ⟨fun _ => ⟨xz1 c40, c49, c62, xz1 c66⟩, fun _ => rfl⟩
  refine xg_iconst (v := 0) xa_M_settle_0 (by decide) ?_
  refine xg_istore_n (L' := [_, _, _, _, _]) xa_M_settle_1 (Nat.le_of_ble_eq_true rfl) rfl ?_
  exact loop 12 0 h _ _ _ _ (by omega) (by rw [xmix_0, xmix_0]; exact hM) xS.rf
end XM8
end
section
/-! 39.pub: the model's calls: clear, fibre, request, release, lock. -/
theorem xa_M_clear_0 : xm_at xP 70 0 = some (0, .aload_n 0, 0, 0, 0, 0) := by decide +kernel
theorem xa_M_clear_1 : xm_at xP 70 1 = some (1, .iload_n 1, 0, 0, 0, 0) := by decide +kernel
theorem xa_M_clear_2 : xm_at xP 70 2 = some (2, .iconst 2, 0, 0, 0, 0) := by decide +kernel
theorem xa_M_clear_3 : xm_at xP 70 3 = some (3, .if_icmp .lt 9, 12, 0, 0, 0) := by decide +kernel
theorem xa_M_clear_6 : xm_at xP 70 6 = some (6, .iload_n 1, 0, 0, 0, 0) := by decide +kernel
theorem xa_M_clear_7 : xm_at xP 70 7 = some (7, .bipush 7, 0, 0, 0, 0) := by decide +kernel
theorem xa_M_clear_9 : xm_at xP 70 9 = some (9, .if_icmp .le 7, 16, 0, 0, 0) := by decide +kernel
theorem xa_M_clear_12 : xm_at xP 70 12 = some (12, .iconst 1, 0, 0, 0, 0) := by decide +kernel
theorem xa_M_clear_13 : xm_at xP 70 13 = some (13, .goto 4, 17, 0, 0, 0) := by decide +kernel
theorem xa_M_clear_16 : xm_at xP 70 16 = some (16, .iconst 0, 0, 0, 0, 0) := by decide +kernel
theorem xa_M_clear_17 : xm_at xP 70 17 = some (17, .putfield 66, 3, 0, 0, 0) := by decide +kernel
theorem xa_M_clear_20 : xm_at xP 70 20 = some (20, .aload_n 0, 0, 0, 0, 0) := by decide +kernel
theorem xa_M_clear_21 : xm_at xP 70 21 = some (21, .getfield 66, 3, 0, 0, 0) := by decide +kernel
theorem xa_M_clear_24 : xm_at xP 70 24 = some (24, .ifCond .le 4, 28, 0, 0, 0) := by decide +kernel
theorem xa_M_clear_27 : xm_at xP 70 27 = some (27, .return_, 0, 0, 0, 0) := by decide +kernel
theorem xa_M_clear_28 : xm_at xP 70 28 = some (28, .aload_n 0, 0, 0, 0, 0) := by decide +kernel
theorem xa_M_clear_29 : xm_at xP 70 29 = some (29, .iload_n 1, 0, 0, 0, 0) := by decide +kernel
theorem xa_M_clear_30 : xm_at xP 70 30 = some (30, .putfield 7, 3, 1, 0, 0) := by decide +kernel
theorem xa_M_clear_33 : xm_at xP 70 33 = some (33, .aload_n 0, 0, 0, 0, 0) := by decide +kernel
theorem xa_M_clear_34 : xm_at xP 70 34 = some (34, .iconst 0, 0, 0, 0, 0) := by decide +kernel
theorem xa_M_clear_35 : xm_at xP 70 35 = some (35, .putfield 69, 3, 2, 0, 0) := by decide +kernel
theorem xa_M_clear_38 : xm_at xP 70 38 = some (38, .aload_n 0, 0, 0, 0, 0) := by decide +kernel
theorem xa_M_clear_39 : xm_at xP 70 39 = some (39, .iconst 0, 0, 0, 0, 0) := by decide +kernel
theorem xa_M_clear_40 : xm_at xP 70 40 = some (40, .putfield 76, 3, 7, 0, 0) := by decide +kernel
theorem xa_M_clear_43 : xm_at xP 70 43 = some (43, .iconst 0, 0, 0, 0, 0) := by decide +kernel
theorem xa_M_clear_44 : xm_at xP 70 44 = some (44, .istore_n 2, 0, 0, 0, 0) := by decide +kernel
theorem xa_M_clear_45 : xm_at xP 70 45 = some (45, .iload_n 2, 0, 0, 0, 0) := by decide +kernel
theorem xa_M_clear_46 : xm_at xP 70 46 = some (46, .bipush 12, 0, 0, 0, 0) := by decide +kernel
theorem xa_M_clear_48 : xm_at xP 70 48 = some (48, .if_icmp .ge 16, 64, 0, 0, 0) := by decide +kernel
theorem xa_M_clear_51 : xm_at xP 70 51 = some (51, .aload_n 0, 0, 0, 0, 0) := by decide +kernel
theorem xa_M_clear_52 : xm_at xP 70 52 = some (52, .getfield 27, 3, 8, 0, 0) := by decide +kernel
theorem xa_M_clear_55 : xm_at xP 70 55 = some (55, .iload_n 2, 0, 0, 0, 0) := by decide +kernel
theorem xa_M_clear_56 : xm_at xP 70 56 = some (56, .iconst 0, 0, 0, 0, 0) := by decide +kernel
theorem xa_M_clear_57 : xm_at xP 70 57 = some (57, .bastore, 0, 0, 0, 0) := by decide +kernel
theorem xa_M_clear_58 : xm_at xP 70 58 = some (58, .iinc 2 1, 0, 0, 0, 0) := by decide +kernel
theorem xa_M_clear_61 : xm_at xP 70 61 = some (61, .goto (-16), 45, 0, 0, 0) := by decide +kernel
theorem xa_M_clear_64 : xm_at xP 70 64 = some (64, .return_, 0, 0, 0, 0) := by decide +kernel
theorem xa_M_fibre_0 : xm_at xP 71 0 = some (0, .aload_n 0, 0, 0, 0, 0) := by decide +kernel
theorem xa_M_fibre_1 : xm_at xP 71 1 = some (1, .aload_n 0, 0, 0, 0, 0) := by decide +kernel
theorem xa_M_fibre_2 : xm_at xP 71 2 = some (2, .iload_n 1, 0, 0, 0, 0) := by decide +kernel
theorem xa_M_fibre_3 : xm_at xP 71 3 = some (3, .invokevirtual 79, 72, 2, 3, 0) := by decide +kernel
theorem xa_M_fibre_6 : xm_at xP 71 6 = some (6, .ifCond .ne 11, 17, 0, 0, 0) := by decide +kernel
theorem xa_M_fibre_9 : xm_at xP 71 9 = some (9, .aload_n 0, 0, 0, 0, 0) := by decide +kernel
theorem xa_M_fibre_10 : xm_at xP 71 10 = some (10, .iload_n 2, 0, 0, 0, 0) := by decide +kernel
theorem xa_M_fibre_11 : xm_at xP 71 11 = some (11, .invokevirtual 79, 72, 2, 3, 0) := by decide +kernel
theorem xa_M_fibre_14 : xm_at xP 71 14 = some (14, .ifCond .eq 7, 21, 0, 0, 0) := by decide +kernel
theorem xa_M_fibre_17 : xm_at xP 71 17 = some (17, .iconst 1, 0, 0, 0, 0) := by decide +kernel
theorem xa_M_fibre_18 : xm_at xP 71 18 = some (18, .goto 37, 55, 0, 0, 0) := by decide +kernel
theorem xa_M_fibre_21 : xm_at xP 71 21 = some (21, .iload_n 1, 0, 0, 0, 0) := by decide +kernel
theorem xa_M_fibre_22 : xm_at xP 71 22 = some (22, .iload_n 2, 0, 0, 0, 0) := by decide +kernel
theorem xa_M_fibre_23 : xm_at xP 71 23 = some (23, .if_icmp .eq 14, 37, 0, 0, 0) := by decide +kernel
theorem xa_M_fibre_26 : xm_at xP 71 26 = some (26, .iload_n 3, 0, 0, 0, 0) := by decide +kernel
theorem xa_M_fibre_27 : xm_at xP 71 27 = some (27, .iconst 1, 0, 0, 0, 0) := by decide +kernel
theorem xa_M_fibre_28 : xm_at xP 71 28 = some (28, .if_icmp .lt 9, 37, 0, 0, 0) := by decide +kernel
theorem xa_M_fibre_31 : xm_at xP 71 31 = some (31, .iload_n 3, 0, 0, 0, 0) := by decide +kernel
theorem xa_M_fibre_32 : xm_at xP 71 32 = some (32, .bipush 100, 0, 0, 0, 0) := by decide +kernel
theorem xa_M_fibre_34 : xm_at xP 71 34 = some (34, .if_icmp .le 7, 41, 0, 0, 0) := by decide +kernel
theorem xa_M_fibre_37 : xm_at xP 71 37 = some (37, .iconst 2, 0, 0, 0, 0) := by decide +kernel
theorem xa_M_fibre_38 : xm_at xP 71 38 = some (38, .goto 17, 55, 0, 0, 0) := by decide +kernel
theorem xa_M_fibre_41 : xm_at xP 71 41 = some (41, .aload_n 0, 0, 0, 0, 0) := by decide +kernel
theorem xa_M_fibre_42 : xm_at xP 71 42 = some (42, .getfield 69, 3, 2, 0, 0) := by decide +kernel
theorem xa_M_fibre_45 : xm_at xP 71 45 = some (45, .bipush 14, 0, 0, 0, 0) := by decide +kernel
theorem xa_M_fibre_47 : xm_at xP 71 47 = some (47, .if_icmp .ne 7, 54, 0, 0, 0) := by decide +kernel
theorem xa_M_fibre_50 : xm_at xP 71 50 = some (50, .iconst 3, 0, 0, 0, 0) := by decide +kernel
theorem xa_M_fibre_51 : xm_at xP 71 51 = some (51, .goto 4, 55, 0, 0, 0) := by decide +kernel
theorem xa_M_fibre_54 : xm_at xP 71 54 = some (54, .iconst 0, 0, 0, 0, 0) := by decide +kernel
theorem xa_M_fibre_55 : xm_at xP 71 55 = some (55, .putfield 66, 3, 0, 0, 0) := by decide +kernel
theorem xa_M_fibre_58 : xm_at xP 71 58 = some (58, .aload_n 0, 0, 0, 0, 0) := by decide +kernel
theorem xa_M_fibre_59 : xm_at xP 71 59 = some (59, .getfield 66, 3, 0, 0, 0) := by decide +kernel
theorem xa_M_fibre_62 : xm_at xP 71 62 = some (62, .ifCond .le 5, 67, 0, 0, 0) := by decide +kernel
theorem xa_M_fibre_65 : xm_at xP 71 65 = some (65, .iconst 0, 0, 0, 0, 0) := by decide +kernel
theorem xa_M_fibre_66 : xm_at xP 71 66 = some (66, .ireturn, 0, 0, 0, 0) := by decide +kernel
theorem xa_M_fibre_67 : xm_at xP 71 67 = some (67, .aload_n 0, 0, 0, 0, 0) := by decide +kernel
theorem xa_M_fibre_68 : xm_at xP 71 68 = some (68, .getfield 13, 3, 3, 0, 0) := by decide +kernel
theorem xa_M_fibre_71 : xm_at xP 71 71 = some (71, .iconst 2, 0, 0, 0, 0) := by decide +kernel
theorem xa_M_fibre_72 : xm_at xP 71 72 = some (72, .aload_n 0, 0, 0, 0, 0) := by decide +kernel
theorem xa_M_fibre_73 : xm_at xP 71 73 = some (73, .getfield 69, 3, 2, 0, 0) := by decide +kernel
theorem xa_M_fibre_76 : xm_at xP 71 76 = some (76, .imul, 0, 0, 0, 0) := by decide +kernel
theorem xa_M_fibre_77 : xm_at xP 71 77 = some (77, .iload_n 1, 0, 0, 0, 0) := by decide +kernel
theorem xa_M_fibre_78 : xm_at xP 71 78 = some (78, .iastore, 0, 0, 0, 0) := by decide +kernel
theorem xa_M_fibre_79 : xm_at xP 71 79 = some (79, .aload_n 0, 0, 0, 0, 0) := by decide +kernel
theorem xa_M_fibre_80 : xm_at xP 71 80 = some (80, .getfield 13, 3, 3, 0, 0) := by decide +kernel
theorem xa_M_fibre_83 : xm_at xP 71 83 = some (83, .iconst 2, 0, 0, 0, 0) := by decide +kernel
theorem xa_M_fibre_84 : xm_at xP 71 84 = some (84, .aload_n 0, 0, 0, 0, 0) := by decide +kernel
theorem xa_M_fibre_85 : xm_at xP 71 85 = some (85, .getfield 69, 3, 2, 0, 0) := by decide +kernel
theorem xa_M_fibre_88 : xm_at xP 71 88 = some (88, .imul, 0, 0, 0, 0) := by decide +kernel
theorem xa_M_fibre_89 : xm_at xP 71 89 = some (89, .iconst 1, 0, 0, 0, 0) := by decide +kernel
theorem xa_M_fibre_90 : xm_at xP 71 90 = some (90, .iadd, 0, 0, 0, 0) := by decide +kernel
theorem xa_M_fibre_91 : xm_at xP 71 91 = some (91, .iload_n 2, 0, 0, 0, 0) := by decide +kernel
theorem xa_M_fibre_92 : xm_at xP 71 92 = some (92, .iastore, 0, 0, 0, 0) := by decide +kernel
theorem xa_M_fibre_93 : xm_at xP 71 93 = some (93, .aload_n 0, 0, 0, 0, 0) := by decide +kernel
theorem xa_M_fibre_94 : xm_at xP 71 94 = some (94, .getfield 17, 3, 4, 0, 0) := by decide +kernel
theorem xa_M_fibre_97 : xm_at xP 71 97 = some (97, .aload_n 0, 0, 0, 0, 0) := by decide +kernel
theorem xa_M_fibre_98 : xm_at xP 71 98 = some (98, .getfield 69, 3, 2, 0, 0) := by decide +kernel
theorem xa_M_fibre_101 : xm_at xP 71 101 = some (101, .iload_n 3, 0, 0, 0, 0) := by decide +kernel
theorem xa_M_fibre_102 : xm_at xP 71 102 = some (102, .iastore, 0, 0, 0, 0) := by decide +kernel
theorem xa_M_fibre_103 : xm_at xP 71 103 = some (103, .aload_n 0, 0, 0, 0, 0) := by decide +kernel
theorem xa_M_fibre_104 : xm_at xP 71 104 = some (104, .getfield 20, 3, 5, 0, 0) := by decide +kernel
theorem xa_M_fibre_107 : xm_at xP 71 107 = some (107, .aload_n 0, 0, 0, 0, 0) := by decide +kernel
theorem xa_M_fibre_108 : xm_at xP 71 108 = some (108, .getfield 69, 3, 2, 0, 0) := by decide +kernel
theorem xa_M_fibre_111 : xm_at xP 71 111 = some (111, .iconst 0, 0, 0, 0, 0) := by decide +kernel
theorem xa_M_fibre_112 : xm_at xP 71 112 = some (112, .bastore, 0, 0, 0, 0) := by decide +kernel
theorem xa_M_fibre_113 : xm_at xP 71 113 = some (113, .aload_n 0, 0, 0, 0, 0) := by decide +kernel
theorem xa_M_fibre_114 : xm_at xP 71 114 = some (114, .getfield 24, 3, 6, 0, 0) := by decide +kernel
theorem xa_M_fibre_117 : xm_at xP 71 117 = some (117, .aload_n 0, 0, 0, 0, 0) := by decide +kernel
theorem xa_M_fibre_118 : xm_at xP 71 118 = some (118, .getfield 69, 3, 2, 0, 0) := by decide +kernel
theorem xa_M_fibre_121 : xm_at xP 71 121 = some (121, .iconst 0, 0, 0, 0, 0) := by decide +kernel
theorem xa_M_fibre_122 : xm_at xP 71 122 = some (122, .bastore, 0, 0, 0, 0) := by decide +kernel
theorem xa_M_fibre_123 : xm_at xP 71 123 = some (123, .aload_n 0, 0, 0, 0, 0) := by decide +kernel
theorem xa_M_fibre_124 : xm_at xP 71 124 = some (124, .dup, 0, 0, 0, 0) := by decide +kernel
theorem xa_M_fibre_125 : xm_at xP 71 125 = some (125, .getfield 69, 3, 2, 0, 0) := by decide +kernel
theorem xa_M_fibre_128 : xm_at xP 71 128 = some (128, .iconst 1, 0, 0, 0, 0) := by decide +kernel
theorem xa_M_fibre_129 : xm_at xP 71 129 = some (129, .iadd, 0, 0, 0, 0) := by decide +kernel
theorem xa_M_fibre_130 : xm_at xP 71 130 = some (130, .putfield 69, 3, 2, 0, 0) := by decide +kernel
theorem xa_M_fibre_133 : xm_at xP 71 133 = some (133, .aload_n 0, 0, 0, 0, 0) := by decide +kernel
theorem xa_M_fibre_134 : xm_at xP 71 134 = some (134, .getfield 69, 3, 2, 0, 0) := by decide +kernel
theorem xa_M_fibre_137 : xm_at xP 71 137 = some (137, .iconst 1, 0, 0, 0, 0) := by decide +kernel
theorem xa_M_fibre_138 : xm_at xP 71 138 = some (138, .isub, 0, 0, 0, 0) := by decide +kernel
theorem xa_M_fibre_139 : xm_at xP 71 139 = some (139, .ireturn, 0, 0, 0, 0) := by decide +kernel
theorem xa_M_request_0 : xm_at xP 73 0 = some (0, .aload_n 0, 0, 0, 0, 0) := by decide +kernel
theorem xa_M_request_1 : xm_at xP 73 1 = some (1, .invokevirtual 122, 74, 1, 3, 0) := by decide +kernel
theorem xa_M_request_4 : xm_at xP 73 4 = some (4, .istore 4, 0, 0, 0, 0) := by decide +kernel
theorem xa_M_request_6 : xm_at xP 73 6 = some (6, .aload_n 0, 0, 0, 0, 0) := by decide +kernel
theorem xa_M_request_7 : xm_at xP 73 7 = some (7, .aload_n 0, 0, 0, 0, 0) := by decide +kernel
theorem xa_M_request_8 : xm_at xP 73 8 = some (8, .iload_n 1, 0, 0, 0, 0) := by decide +kernel
theorem xa_M_request_9 : xm_at xP 73 9 = some (9, .invokevirtual 79, 72, 2, 3, 0) := by decide +kernel
theorem xa_M_request_12 : xm_at xP 73 12 = some (12, .ifCond .ne 11, 23, 0, 0, 0) := by decide +kernel
theorem xa_M_request_15 : xm_at xP 73 15 = some (15, .aload_n 0, 0, 0, 0, 0) := by decide +kernel
theorem xa_M_request_16 : xm_at xP 73 16 = some (16, .iload_n 2, 0, 0, 0, 0) := by decide +kernel
theorem xa_M_request_17 : xm_at xP 73 17 = some (17, .invokevirtual 79, 72, 2, 3, 0) := by decide +kernel
theorem xa_M_request_20 : xm_at xP 73 20 = some (20, .ifCond .eq 7, 27, 0, 0, 0) := by decide +kernel
theorem xa_M_request_23 : xm_at xP 73 23 = some (23, .iconst 1, 0, 0, 0, 0) := by decide +kernel
theorem xa_M_request_24 : xm_at xP 73 24 = some (24, .goto 24, 48, 0, 0, 0) := by decide +kernel
theorem xa_M_request_27 : xm_at xP 73 27 = some (27, .iload_n 1, 0, 0, 0, 0) := by decide +kernel
theorem xa_M_request_28 : xm_at xP 73 28 = some (28, .iload_n 2, 0, 0, 0, 0) := by decide +kernel
theorem xa_M_request_29 : xm_at xP 73 29 = some (29, .if_icmp .ne 7, 36, 0, 0, 0) := by decide +kernel
theorem xa_M_request_32 : xm_at xP 73 32 = some (32, .iconst 2, 0, 0, 0, 0) := by decide +kernel
theorem xa_M_request_33 : xm_at xP 73 33 = some (33, .goto 15, 48, 0, 0, 0) := by decide +kernel
theorem xa_M_request_36 : xm_at xP 73 36 = some (36, .iload 4, 0, 0, 0, 0) := by decide +kernel
theorem xa_M_request_38 : xm_at xP 73 38 = some (38, .bipush 12, 0, 0, 0, 0) := by decide +kernel
theorem xa_M_request_40 : xm_at xP 73 40 = some (40, .if_icmp .ne 7, 47, 0, 0, 0) := by decide +kernel
theorem xa_M_request_43 : xm_at xP 73 43 = some (43, .iconst 3, 0, 0, 0, 0) := by decide +kernel
theorem xa_M_request_44 : xm_at xP 73 44 = some (44, .goto 4, 48, 0, 0, 0) := by decide +kernel
theorem xa_M_request_47 : xm_at xP 73 47 = some (47, .iconst 0, 0, 0, 0, 0) := by decide +kernel
theorem xa_M_request_48 : xm_at xP 73 48 = some (48, .putfield 66, 3, 0, 0, 0) := by decide +kernel
theorem xa_M_request_51 : xm_at xP 73 51 = some (51, .aload_n 0, 0, 0, 0, 0) := by decide +kernel
theorem xa_M_request_52 : xm_at xP 73 52 = some (52, .getfield 66, 3, 0, 0, 0) := by decide +kernel
theorem xa_M_request_55 : xm_at xP 73 55 = some (55, .ifCond .le 5, 60, 0, 0, 0) := by decide +kernel
theorem xa_M_request_58 : xm_at xP 73 58 = some (58, .iconst 0, 0, 0, 0, 0) := by decide +kernel
theorem xa_M_request_59 : xm_at xP 73 59 = some (59, .ireturn, 0, 0, 0, 0) := by decide +kernel
theorem xa_M_request_60 : xm_at xP 73 60 = some (60, .iconst 0, 0, 0, 0, 0) := by decide +kernel
theorem xa_M_request_61 : xm_at xP 73 61 = some (61, .istore 5, 0, 0, 0, 0) := by decide +kernel
theorem xa_M_request_63 : xm_at xP 73 63 = some (63, .iload 5, 0, 0, 0, 0) := by decide +kernel
theorem xa_M_request_65 : xm_at xP 73 65 = some (65, .iconst 4, 0, 0, 0, 0) := by decide +kernel
theorem xa_M_request_66 : xm_at xP 73 66 = some (66, .if_icmp .ge 64, 130, 0, 0, 0) := by decide +kernel
theorem xa_M_request_69 : xm_at xP 73 69 = some (69, .aload_n 0, 0, 0, 0, 0) := by decide +kernel
theorem xa_M_request_70 : xm_at xP 73 70 = some (70, .iload 5, 0, 0, 0, 0) := by decide +kernel
theorem xa_M_request_72 : xm_at xP 73 72 = some (72, .iload_n 1, 0, 0, 0, 0) := by decide +kernel
theorem xa_M_request_73 : xm_at xP 73 73 = some (73, .iload_n 2, 0, 0, 0, 0) := by decide +kernel
theorem xa_M_request_74 : xm_at xP 73 74 = some (74, .iload_n 3, 0, 0, 0, 0) := by decide +kernel
theorem xa_M_request_75 : xm_at xP 73 75 = some (75, .invokevirtual 126, 75, 5, 3, 0) := by decide +kernel
theorem xa_M_request_78 : xm_at xP 73 78 = some (78, .ifCond .eq 46, 124, 0, 0, 0) := by decide +kernel
theorem xa_M_request_81 : xm_at xP 73 81 = some (81, .aload_n 0, 0, 0, 0, 0) := by decide +kernel
theorem xa_M_request_82 : xm_at xP 73 82 = some (82, .getfield 27, 3, 8, 0, 0) := by decide +kernel
theorem xa_M_request_85 : xm_at xP 73 85 = some (85, .iload 4, 0, 0, 0, 0) := by decide +kernel
theorem xa_M_request_87 : xm_at xP 73 87 = some (87, .iconst 1, 0, 0, 0, 0) := by decide +kernel
theorem xa_M_request_88 : xm_at xP 73 88 = some (88, .bastore, 0, 0, 0, 0) := by decide +kernel
theorem xa_M_request_89 : xm_at xP 73 89 = some (89, .aload_n 0, 0, 0, 0, 0) := by decide +kernel
theorem xa_M_request_90 : xm_at xP 73 90 = some (90, .getfield 30, 3, 9, 0, 0) := by decide +kernel
theorem xa_M_request_93 : xm_at xP 73 93 = some (93, .iload 4, 0, 0, 0, 0) := by decide +kernel
theorem xa_M_request_95 : xm_at xP 73 95 = some (95, .iload_n 3, 0, 0, 0, 0) := by decide +kernel
theorem xa_M_request_96 : xm_at xP 73 96 = some (96, .bastore, 0, 0, 0, 0) := by decide +kernel
theorem xa_M_request_97 : xm_at xP 73 97 = some (97, .aload_n 0, 0, 0, 0, 0) := by decide +kernel
theorem xa_M_request_98 : xm_at xP 73 98 = some (98, .getfield 33, 3, 10, 0, 0) := by decide +kernel
theorem xa_M_request_101 : xm_at xP 73 101 = some (101, .iload 4, 0, 0, 0, 0) := by decide +kernel
theorem xa_M_request_103 : xm_at xP 73 103 = some (103, .iload_n 1, 0, 0, 0, 0) := by decide +kernel
theorem xa_M_request_104 : xm_at xP 73 104 = some (104, .iastore, 0, 0, 0, 0) := by decide +kernel
theorem xa_M_request_105 : xm_at xP 73 105 = some (105, .aload_n 0, 0, 0, 0, 0) := by decide +kernel
theorem xa_M_request_106 : xm_at xP 73 106 = some (106, .getfield 36, 3, 11, 0, 0) := by decide +kernel
theorem xa_M_request_109 : xm_at xP 73 109 = some (109, .iload 4, 0, 0, 0, 0) := by decide +kernel
theorem xa_M_request_111 : xm_at xP 73 111 = some (111, .iload_n 2, 0, 0, 0, 0) := by decide +kernel
theorem xa_M_request_112 : xm_at xP 73 112 = some (112, .iastore, 0, 0, 0, 0) := by decide +kernel
theorem xa_M_request_113 : xm_at xP 73 113 = some (113, .aload_n 0, 0, 0, 0, 0) := by decide +kernel
theorem xa_M_request_114 : xm_at xP 73 114 = some (114, .iload 4, 0, 0, 0, 0) := by decide +kernel
theorem xa_M_request_116 : xm_at xP 73 116 = some (116, .iload 5, 0, 0, 0, 0) := by decide +kernel
theorem xa_M_request_118 : xm_at xP 73 118 = some (118, .invokevirtual 130, 85, 3, 3, 0) := by decide +kernel
theorem xa_M_request_121 : xm_at xP 73 121 = some (121, .iload 4, 0, 0, 0, 0) := by decide +kernel
theorem xa_M_request_123 : xm_at xP 73 123 = some (123, .ireturn, 0, 0, 0, 0) := by decide +kernel
theorem xa_M_request_124 : xm_at xP 73 124 = some (124, .iinc 5 1, 0, 0, 0, 0) := by decide +kernel
theorem xa_M_request_127 : xm_at xP 73 127 = some (127, .goto (-64), 63, 0, 0, 0) := by decide +kernel
theorem xa_M_request_130 : xm_at xP 73 130 = some (130, .iconst (-1), 0, 0, 0, 0) := by decide +kernel
theorem xa_M_request_131 : xm_at xP 73 131 = some (131, .ireturn, 0, 0, 0, 0) := by decide +kernel
theorem xa_M_release_0 : xm_at xP 86 0 = some (0, .aload_n 0, 0, 0, 0, 0) := by decide +kernel
theorem xa_M_release_1 : xm_at xP 86 1 = some (1, .aload_n 0, 0, 0, 0, 0) := by decide +kernel
theorem xa_M_release_2 : xm_at xP 86 2 = some (2, .iload_n 1, 0, 0, 0, 0) := by decide +kernel
theorem xa_M_release_3 : xm_at xP 86 3 = some (3, .invokevirtual 134, 87, 2, 3, 0) := by decide +kernel
theorem xa_M_release_6 : xm_at xP 86 6 = some (6, .ifCond .eq 7, 13, 0, 0, 0) := by decide +kernel
theorem xa_M_release_9 : xm_at xP 86 9 = some (9, .iconst 1, 0, 0, 0, 0) := by decide +kernel
theorem xa_M_release_10 : xm_at xP 86 10 = some (10, .goto 4, 14, 0, 0, 0) := by decide +kernel
theorem xa_M_release_13 : xm_at xP 86 13 = some (13, .iconst 0, 0, 0, 0, 0) := by decide +kernel
theorem xa_M_release_14 : xm_at xP 86 14 = some (14, .putfield 66, 3, 0, 0, 0) := by decide +kernel
theorem xa_M_release_17 : xm_at xP 86 17 = some (17, .aload_n 0, 0, 0, 0, 0) := by decide +kernel
theorem xa_M_release_18 : xm_at xP 86 18 = some (18, .getfield 66, 3, 0, 0, 0) := by decide +kernel
theorem xa_M_release_21 : xm_at xP 86 21 = some (21, .ifCond .ne 10, 31, 0, 0, 0) := by decide +kernel
theorem xa_M_release_24 : xm_at xP 86 24 = some (24, .aload_n 0, 0, 0, 0, 0) := by decide +kernel
theorem xa_M_release_25 : xm_at xP 86 25 = some (25, .getfield 27, 3, 8, 0, 0) := by decide +kernel
theorem xa_M_release_28 : xm_at xP 86 28 = some (28, .iload_n 1, 0, 0, 0, 0) := by decide +kernel
theorem xa_M_release_29 : xm_at xP 86 29 = some (29, .iconst 0, 0, 0, 0, 0) := by decide +kernel
theorem xa_M_release_30 : xm_at xP 86 30 = some (30, .bastore, 0, 0, 0, 0) := by decide +kernel
theorem xa_M_release_31 : xm_at xP 86 31 = some (31, .return_, 0, 0, 0, 0) := by decide +kernel
theorem xa_M_lock_0 : xm_at xP 88 0 = some (0, .aload_n 0, 0, 0, 0, 0) := by decide +kernel
theorem xa_M_lock_1 : xm_at xP 88 1 = some (1, .aload_n 0, 0, 0, 0, 0) := by decide +kernel
theorem xa_M_lock_2 : xm_at xP 88 2 = some (2, .iload_n 1, 0, 0, 0, 0) := by decide +kernel
theorem xa_M_lock_3 : xm_at xP 88 3 = some (3, .invokevirtual 137, 89, 2, 3, 0) := by decide +kernel
theorem xa_M_lock_6 : xm_at xP 88 6 = some (6, .ifCond .eq 7, 13, 0, 0, 0) := by decide +kernel
theorem xa_M_lock_9 : xm_at xP 88 9 = some (9, .iconst 1, 0, 0, 0, 0) := by decide +kernel
theorem xa_M_lock_10 : xm_at xP 88 10 = some (10, .goto 18, 28, 0, 0, 0) := by decide +kernel
theorem xa_M_lock_13 : xm_at xP 88 13 = some (13, .aload_n 0, 0, 0, 0, 0) := by decide +kernel
theorem xa_M_lock_14 : xm_at xP 88 14 = some (14, .getfield 24, 3, 6, 0, 0) := by decide +kernel
theorem xa_M_lock_17 : xm_at xP 88 17 = some (17, .iload_n 1, 0, 0, 0, 0) := by decide +kernel
theorem xa_M_lock_18 : xm_at xP 88 18 = some (18, .baload, 0, 0, 0, 0) := by decide +kernel
theorem xa_M_lock_19 : xm_at xP 88 19 = some (19, .iload_n 2, 0, 0, 0, 0) := by decide +kernel
theorem xa_M_lock_20 : xm_at xP 88 20 = some (20, .if_icmp .ne 7, 27, 0, 0, 0) := by decide +kernel
theorem xa_M_lock_23 : xm_at xP 88 23 = some (23, .iconst 2, 0, 0, 0, 0) := by decide +kernel
theorem xa_M_lock_24 : xm_at xP 88 24 = some (24, .goto 4, 28, 0, 0, 0) := by decide +kernel
theorem xa_M_lock_27 : xm_at xP 88 27 = some (27, .iconst 0, 0, 0, 0, 0) := by decide +kernel
theorem xa_M_lock_28 : xm_at xP 88 28 = some (28, .putfield 66, 3, 0, 0, 0) := by decide +kernel
theorem xa_M_lock_31 : xm_at xP 88 31 = some (31, .aload_n 0, 0, 0, 0, 0) := by decide +kernel
theorem xa_M_lock_32 : xm_at xP 88 32 = some (32, .getfield 66, 3, 0, 0, 0) := by decide +kernel
theorem xa_M_lock_35 : xm_at xP 88 35 = some (35, .ifCond .ne 10, 45, 0, 0, 0) := by decide +kernel
theorem xa_M_lock_38 : xm_at xP 88 38 = some (38, .aload_n 0, 0, 0, 0, 0) := by decide +kernel
theorem xa_M_lock_39 : xm_at xP 88 39 = some (39, .getfield 24, 3, 6, 0, 0) := by decide +kernel
theorem xa_M_lock_42 : xm_at xP 88 42 = some (42, .iload_n 1, 0, 0, 0, 0) := by decide +kernel
theorem xa_M_lock_43 : xm_at xP 88 43 = some (43, .iload_n 2, 0, 0, 0, 0) := by decide +kernel
theorem xa_M_lock_44 : xm_at xP 88 44 = some (44, .bastore, 0, 0, 0, 0) := by decide +kernel
theorem xa_M_lock_45 : xm_at xP 88 45 = some (45, .return_, 0, 0, 0, 0) := by decide +kernel
section XM9
variable {xs : Nat → Int32} {LS d : Nat} {ks : Nat} {fl : Bool} {h : List va_E} {Q : (Option Value ⊕ Nat) → xm_S → Prop}
variable {Mc : Int32} {Mn : Nat} {Mm : Nat} {Mh : Int32} {Mp : Nat} {Mfw : Int32} {Mfs : Int32} {Me : Nat → Nat} {Ml : Nat → Nat} {Mbr : Nat → Bool} {Mlk : Nat → Bool} {Mt : Nat → Bool} {Mg : Nat → Bool} {Ma : Nat → Nat} {Mb : Nat → Nat} {Mw : Nat → Nat} {Mwk : Nat → Int32} {Msp : Nat → Int32} {Mon : Nat → Int32} {Mct : Nat → Int32} {MS : Nat → Int32} {MZ : Nat → Int32} {MA : Nat → Nat} {MN : Nat → Nat}
theorem xMs_c {h h' : List va_E} {x : Int32} {Mp : Nat} {Mfw Mfs : Int32} {MS MZ : Nat → Int32} {MA MN : Nat → Nat} (hM : xMd h Mc Mn Mm Mh Mp Mfw Mfs Me Ml Mbr Mlk Mt Mg Ma Mb Mw Mwk Msp Mon Mct MS MZ MA MN) (hA : ∀ j, MA j < 7) (hN : ∀ j, MN j < 100) (u : xU h h' 22 (.inr (3, [.int x, .int (nI Mn), .int (nI Mm), .ref 23, .ref 24, .ref 25, .ref 26, .int Mh, .ref 27, .ref 28, .ref 29, .ref 30, .ref 31, .ref 32, .ref 33, .ref 34, .ref 35, .int (nI Mp), .ref 36, .ref 37, .ref 38, .ref 39, .int Mfw, .int Mfs]))) : xMs h' x Mn Mm Mh Me Ml Mbr Mlk Mt Mg Ma Mb Mw Mwk Msp Mon Mct :=
  ⟨_, _, _, _, _, _, _, xMd_o (Mc' := x) hM u, hA, hN⟩
def cd_clear (x : Int32) : Int32 := if x < 2 ∨ ¬ x ≤ 7 then 1 else 0
theorem xi_7 {x : Int32} (h1 : ¬ x < 2) (h2 : x ≤ 7) : ∃ n, 2 ≤ n ∧ n ≤ 7 ∧ x = nI n := by
  obtain ⟨j, hj, e⟩ := nI_of2 (M := 7) (n := 7) (by decide) (fun q => h1 (Int32.lt_trans q (by decide))) h2
  refine ⟨j, ?_, hj, e⟩
  apply Classical.byContradiction
  intro q
  rw [e] at h1
  exact h1 (show nI j < nI 2 from nI_lt (by omega) (by omega))
/-- the first n places false -/
def xclr (t : Nat → Bool) (n : Nat) : Nat → Bool := fun c => if c < n then false else t c
theorem xclr_s (t : Nat → Bool) (n : Nat) : xup (xclr t n) n false = xclr t (n + 1) := by
  funext c
  unfold xup xclr
  by_cases e : c = n
  · rw [if_pos e, if_pos (by omega)]
  · rw [if_neg e]
    show (if c < n then false else t c) = if c < n + 1 then false else t c
    by_cases e2 : c < n
    · rw [if_pos e2, if_pos (by omega)]
    · rw [if_neg e2, if_neg (by omega)]
theorem xclr_0 (t : Nat → Bool) : xclr t 0 = t := by
  funext c
  exact if_neg (by omega)
theorem c_M_clear {x : Int32} (hM : xMs h Mc Mn Mm Mh Me Ml Mbr Mlk Mt Mg Ma Mb Mw Mwk Msp Mon Mct)
    (k1 : cd_clear x = 1 → ∀ h' fl', xMs h' 1 Mn Mm Mh Me Ml Mbr Mlk Mt Mg Ma Mb Mw Mwk Msp Mon Mct → xS h h' 22 40 → Q (.inl none) (h', ks, fl'))
    (k0 : cd_clear x = 0 → ∀ n h' fl', 2 ≤ n → n ≤ 7 → x = nI n → xMs h' 0 n 0 0 Me Ml Mbr Mlk (xclr Mt 12) Mg Ma Mb Mw Mwk Msp Mon Mct → xS h h' 22 40 → Q (.inl none) (h', ks, fl')) :
    xG xs LS d 70 (0, xm_entry xP 70 [.ref 22, .int x], []) (h, ks, fl) Q := by
  show xG xs LS d 70 (0, [some (.ref 22), some (.int x), none], []) (h, ks, fl) Q
  obtain ⟨Mp, Mfw, Mfs, MS, MZ, MA, MN, hM, hA, hN⟩ := hM
  obtain ⟨g22, g23, g24, g25, g26, g27, g28, g29, g30, g31, g32, g33, g34, g35, g36, g37, g38, g39⟩ := id hM
  unfold cd_clear at k1 k0
  have bad : (x < 2 ∨ ¬ x ≤ 7) → xG xs LS d 70 (12, [some (.ref 22), some (.int x), none], [.ref 22]) (h, ks, fl) Q := by
    intro hc
    rw [if_pos hc] at k1
    refine xg_iconst (v := 1) xa_M_clear_12 (by decide) ?_
    refine xg_goto xa_M_clear_13 ?_
    refine xg_putf (fs' := [_, _, _, _, _, _, _, _, _, _, _, _, _, _, _, _, _, _, _, _, _, _, _, _]) xa_M_clear_17 (by assumption) (Nat.le_of_ble_eq_true rfl) rfl rfl (fun h17 u17 => ?_)
    have hM1 := xMd_o (Mc' := 1) hM u17
    obtain ⟨g22, g23, g24, g25, g26, g27, g28, g29, g30, g31, g32, g33, g34, g35, g36, g37, g38, g39⟩ := id hM1
    refine xg_aload_n xa_M_clear_20 rfl ?_
    refine xg_getfield xa_M_clear_21 (by assumption) rfl ?_
    refine xg_if_le xa_M_clear_24 (fun c => absurd c (by decide)) (fun _ => ?_)
    exact xg_return xa_M_clear_27 (k1 rfl _ _ ⟨_, _, _, _, _, _, _, hM1, hA, hN⟩ (u17.toS (by decide) (by decide)))
  refine xg_aload_n xa_M_clear_0 rfl ?_
  refine xg_iload_n xa_M_clear_1 rfl ?_
  refine xg_iconst (v := 2) xa_M_clear_2 (by decide) ?_
  refine xg_icmp_lt xa_M_clear_3 (fun c => bad (Or.inl c)) (fun c3 => ?_)
  refine xg_iload_n xa_M_clear_6 rfl ?_
  refine xg_bipush (v := 7) xa_M_clear_7 (by decide) ?_
  refine xg_icmp_le xa_M_clear_9 (fun c9 => ?_) (fun c => bad (Or.inr c))
  rw [if_neg (fun q => by
    rcases q with q | q
    · exact c3 q
    · exact q c9)] at k0
  obtain ⟨n, hn1, hn2, rfl⟩ := xi_7 c3 c9
  refine xg_iconst (v := 0) xa_M_clear_16 (by decide) ?_
  refine xg_putf (fs' := [_, _, _, _, _, _, _, _, _, _, _, _, _, _, _, _, _, _, _, _, _, _, _, _]) xa_M_clear_17 (by assumption) (Nat.le_of_ble_eq_true rfl) rfl rfl (fun h17 u17 => ?_)
  have hM1 := xMd_o (Mc' := 0) hM u17
  obtain ⟨g22, g23, g24, g25, g26, g27, g28, g29, g30, g31, g32, g33, g34, g35, g36, g37, g38, g39⟩ := id hM1
  refine xg_aload_n xa_M_clear_20 rfl ?_
  refine xg_getfield xa_M_clear_21 (by assumption) rfl ?_
  refine xg_if_le xa_M_clear_24 (fun _ => ?_) (fun c => absurd (by decide) c)
  refine xg_aload_n xa_M_clear_28 rfl ?_
  refine xg_iload_n xa_M_clear_29 rfl ?_
  refine xg_putf (fs' := [_, _, _, _, _, _, _, _, _, _, _, _, _, _, _, _, _, _, _, _, _, _, _, _]) xa_M_clear_30 (by assumption) (Nat.le_of_ble_eq_true rfl) rfl rfl (fun h30 u30 => ?_)
  have hM2 := xMd_o (Mn' := n) hM1 u30
  obtain ⟨g22, g23, g24, g25, g26, g27, g28, g29, g30, g31, g32, g33, g34, g35, g36, g37, g38, g39⟩ := id hM2
  refine xg_aload_n xa_M_clear_33 rfl ?_
  refine xg_iconst (v := 0) xa_M_clear_34 (by decide) ?_
  refine xg_putf (fs' := [_, _, _, _, _, _, _, _, _, _, _, _, _, _, _, _, _, _, _, _, _, _, _, _]) xa_M_clear_35 (by assumption) (Nat.le_of_ble_eq_true rfl) rfl rfl (fun h35 u35 => ?_)
  have hM3 := xMd_o (Mm' := 0) hM2 u35
  obtain ⟨g22, g23, g24, g25, g26, g27, g28, g29, g30, g31, g32, g33, g34, g35, g36, g37, g38, g39⟩ := id hM3
  refine xg_aload_n xa_M_clear_38 rfl ?_
  refine xg_iconst (v := 0) xa_M_clear_39 (by decide) ?_
  refine xg_putf (fs' := [_, _, _, _, _, _, _, _, _, _, _, _, _, _, _, _, _, _, _, _, _, _, _, _]) xa_M_clear_40 (by assumption) (Nat.le_of_ble_eq_true rfl) rfl rfl (fun h40 u40 => ?_)
  have hM4 := xMd_o (Mh' := 0) hM3 u40
  have loop : ∀ j i h1 fl', i + j = 12 → xMd h1 0 n 0 0 Mp Mfw Mfs Me Ml Mbr Mlk (xclr Mt i) Mg Ma Mb Mw Mwk Msp Mon Mct MS MZ MA MN → xS h h1 22 40 → xG xs LS d 70 (45, [some (.ref 22), some (.int (nI n)), some (.int (nI i))], []) (h1, ks, fl') Q := by
    intro j
    induction j with
    | zero =>
      intro i h1 fl' hi hM hS
      have e : i = 12 := by omega
      subst e
      refine xg_iload_n xa_M_clear_45 rfl ?_
      refine xg_bipush (v := 12) xa_M_clear_46 (by decide) ?_
      refine xg_icmp_ge xa_M_clear_48 (fun c48 => ?_) (fun c48 => absurd (by decide) c48)
      refine xg_return xa_M_clear_64 ?_
      exact k0 rfl n _ _ hn1 hn2 rfl ⟨_, _, _, _, _, _, _, hM, hA, hN⟩ hS
    | succ j ih =>
      intro i h1 fl' hi hM hS
      have hi12 : i < 12 := by omega
      have hx : (0 : Int32) = 0 ∨ (0 : Int32) = 1 := Or.inl rfl
      obtain ⟨g22, g23, g24, g25, g26, g27, g28, g29, g30, g31, g32, g33, g34, g35, g36, g37, g38, g39⟩ := id hM
      refine xg_iload_n xa_M_clear_45 rfl ?_
      refine xg_bipush (v := 12) xa_M_clear_46 (by decide) ?_
      refine xg_icmp_ge xa_M_clear_48 (fun c => absurd c (show ¬ nI 12 ≤ nI i from nI_ge (by omega) (by omega))) (fun _ => ?_)
      refine xg_aload_n xa_M_clear_51 rfl ?_
      refine xg_getfield xa_M_clear_52 (by assumption) rfl ?_
      refine xg_iload_n xa_M_clear_55 rfl ?_
      refine xg_iconst (v := 0) xa_M_clear_56 (by decide) ?_
      refine xg_zastf_n xa_M_clear_57 (by assumption) rfl (by assumption) (by decide) (by assumption) (fun h57 u57 => ?_)
      have hM1 := xMd_Mt (x := false) hM u57
      rw [xclr_s] at hM1
      refine xg_iinc (L' := [_, _, _]) xa_M_clear_58 rfl (xi_inc _) rfl ?_
      refine xg_goto xa_M_clear_61 ?_
      exact ih (i + 1) h57 _ (by omega) hM1 (hS.tr (u57.toS (by decide) (by decide)))
  refine xg_iconst (v := 0) xa_M_clear_43 (by decide) ?_
  refine xg_istore_n (L' := [_, _, _]) xa_M_clear_44 (Nat.le_of_ble_eq_true rfl) rfl ?_
  exact loop 12 0 _ _ (by omega) (by rw [xclr_0]; exact hM4) ((((u17.toS (by decide) (by decide)).tr (u30.toS (by decide) (by decide))).tr (u35.toS (by decide) (by decide))).tr (u40.toS (by decide) (by decide)))
theorem xi_s {n : Nat} {x : Int32} (hn : n < 2 ^ 31) (h : xnS n x = false) : ∃ j, j < n ∧ x = nI j := by
  unfold xnS at h
  rw [Bool.or_eq_false_iff, decide_eq_false_iff_not, decide_eq_false_iff_not] at h
  obtain ⟨j, hj, e⟩ := nI_of h.1
  refine ⟨j, ?_, e⟩
  apply Classical.byContradiction
  intro q
  rw [e] at h
  exact h.2 (nI_le (by omega) hj)
theorem xnS_n {n j : Nat} (hj : j < n) (hn : n < 2 ^ 31) : xnS n (nI j) = false := by
  unfold xnS
  rw [decide_eq_false (nI_pos (by omega)), decide_eq_false (nI_ge hj hn)]
  rfl
def cd_fibre (n m : Nat) (a b len : Int32) : Int32 := if xnS n a = true ∨ xnS n b = true then 1 else if a = b ∨ len < 1 ∨ ¬ len ≤ 100 then 2 else if m = 14 then 3 else 0
theorem xi_100 {x : Int32} (h1 : ¬ x < 1) (h2 : x ≤ 100) : ∃ n, 1 ≤ n ∧ n ≤ 100 ∧ x = nI n := by
  obtain ⟨j, hj, e⟩ := nI_of2 (M := 100) (n := 100) (by decide) (fun q => h1 (Int32.lt_trans q (by decide))) h2
  refine ⟨j, ?_, hj, e⟩
  apply Classical.byContradiction
  intro q
  rw [e] at h1
  exact h1 (show nI j < nI 1 from nI_lt (by omega) (by omega))
theorem c_M_fibre {a b len : Int32} (hn : Mn ≤ 7) (hm : Mm ≤ 14) (hM : xMs h Mc Mn Mm Mh Me Ml Mbr Mlk Mt Mg Ma Mb Mw Mwk Msp Mon Mct)
    (k1 : ∀ v, ¬ v = 0 → cd_fibre Mn Mm a b len = v → ∀ h' fl', xMs h' v Mn Mm Mh Me Ml Mbr Mlk Mt Mg Ma Mb Mw Mwk Msp Mon Mct → xS h h' 22 40 → Q (.inl (some (.int 0))) (h', ks, fl'))
    (k0 : cd_fibre Mn Mm a b len = 0 → ∀ x y z h' fl', x < Mn → y < Mn → ¬ x = y → 1 ≤ z → z ≤ 100 → Mm < 14 → a = nI x → b = nI y → len = nI z → xMs h' 0 Mn (Mm + 1) Mh (xup (xup Me (2 * Mm) x) (2 * Mm + 1) y) (xup Ml Mm z) (xup Mbr Mm false) (xup Mlk Mm false) Mt Mg Ma Mb Mw Mwk Msp Mon Mct → xS h h' 22 40 → Q (.inl (some (.int (nI Mm)))) (h', ks, fl')) :
    xG xs LS (d + 1) 71 (0, xm_entry xP 71 [.ref 22, .int a, .int b, .int len], []) (h, ks, fl) Q := by
  show xG xs LS (d + 1) 71 (0, [some (.ref 22), some (.int a), some (.int b), some (.int len)], []) (h, ks, fl) Q
  obtain ⟨Mp, Mfw, Mfs, MS, MZ, MA, MN, hM, hA, hN⟩ := hM
  obtain ⟨g22, g23, g24, g25, g26, g27, g28, g29, g30, g31, g32, g33, g34, g35, g36, g37, g38, g39⟩ := id hM
  have bad : ∀ v, 0 < v → cd_fibre Mn Mm a b len = v → xG xs LS (d + 1) 71 (55, [some (.ref 22), some (.int a), some (.int b), some (.int len)], [.int v, .ref 22]) (h, ks, fl) Q := by
    intro v hv hc
    have hv0 : ¬ v = 0 := fun q => by rw [q] at hv; exact absurd hv (by decide)
    refine xg_putf (fs' := [_, _, _, _, _, _, _, _, _, _, _, _, _, _, _, _, _, _, _, _, _, _, _, _]) xa_M_fibre_55 (by assumption) (Nat.le_of_ble_eq_true rfl) rfl rfl (fun h55 u55 => ?_)
    have hM1 := xMd_o (Mc' := v) hM u55
    obtain ⟨g22, g23, g24, g25, g26, g27, g28, g29, g30, g31, g32, g33, g34, g35, g36, g37, g38, g39⟩ := id hM1
    refine xg_aload_n xa_M_fibre_58 rfl ?_
    refine xg_getfield xa_M_fibre_59 (by assumption) rfl ?_
    refine xg_if_le xa_M_fibre_62 (fun c => absurd hv (Int32.not_lt.mpr c)) (fun _ => ?_)
    refine xg_iconst (v := 0) xa_M_fibre_65 (by decide) ?_
    refine xg_ireturn xa_M_fibre_66  ?_
    exact k1 v hv0 hc _ _ ⟨_, _, _, _, _, _, _, hM1, hA, hN⟩ (u55.toS (by decide) (by decide))
  have bad1 : (xnS Mn a = true ∨ xnS Mn b = true) → xG xs LS (d + 1) 71 (17, [some (.ref 22), some (.int a), some (.int b), some (.int len)], [.ref 22]) (h, ks, fl) Q := by
    intro hc
    refine xg_iconst (v := 1) xa_M_fibre_17 (by decide) ?_
    refine xg_goto xa_M_fibre_18 ?_
    exact bad 1 (by decide) (by unfold cd_fibre; rw [if_pos hc])
  refine xg_aload_n xa_M_fibre_0 rfl ?_
  refine xg_aload_n xa_M_fibre_1 rfl ?_
  refine xg_iload_n xa_M_fibre_2 rfl ?_
  refine xg_callV1 xa_M_fibre_3 ⟨Nat.le_of_ble_eq_true rfl, Nat.le_of_ble_eq_true rfl, rfl⟩ rfl rfl (by assumption) ?_
  refine c_M_noSite hM ?_
  refine xK1_c ?_
  refine xg_if_ne xa_M_fibre_6 (fun c => bad1 (Or.inl (xz1 c))) (fun c6 => ?_)
  refine xg_aload_n xa_M_fibre_9 rfl ?_
  refine xg_iload_n xa_M_fibre_10 rfl ?_
  refine xg_callV1 xa_M_fibre_11 ⟨Nat.le_of_ble_eq_true rfl, Nat.le_of_ble_eq_true rfl, rfl⟩ rfl rfl (by assumption) ?_
  refine c_M_noSite hM ?_
  refine xK1_c ?_
  refine xg_if_eq xa_M_fibre_14 (fun c14 => ?_) (fun c => bad1 (Or.inr (xz1 c)))
  have n1 : ¬ (xnS Mn a = true ∨ xnS Mn b = true) := fun q => by
    rw [(xz0 _).mp c6, (xz0 _).mp c14] at q
    rcases q with q | q <;> cases q
  have bad2 : (a = b ∨ len < 1 ∨ ¬ len ≤ 100) → xG xs LS (d + 1) 71 (37, [some (.ref 22), some (.int a), some (.int b), some (.int len)], [.ref 22]) (h, ks, fl) Q := by
    intro hc
    refine xg_iconst (v := 2) xa_M_fibre_37 (by decide) ?_
    refine xg_goto xa_M_fibre_38 ?_
    exact bad 2 (by decide) (by unfold cd_fibre; rw [if_neg n1, if_pos hc])
  refine xg_iload_n xa_M_fibre_21 rfl ?_
  refine xg_iload_n xa_M_fibre_22 rfl ?_
  refine xg_icmp_eq xa_M_fibre_23 (fun c => bad2 (Or.inl c)) (fun c23 => ?_)
  refine xg_iload_n xa_M_fibre_26 rfl ?_
  refine xg_iconst (v := 1) xa_M_fibre_27 (by decide) ?_
  refine xg_icmp_lt xa_M_fibre_28 (fun c => bad2 (Or.inr (Or.inl c))) (fun c28 => ?_)
  refine xg_iload_n xa_M_fibre_31 rfl ?_
  refine xg_bipush (v := 100) xa_M_fibre_32 (by decide) ?_
  refine xg_icmp_le xa_M_fibre_34 (fun c34 => ?_) (fun c => bad2 (Or.inr (Or.inr c)))
  have n2 : ¬ (a = b ∨ len < 1 ∨ ¬ len ≤ 100) := fun q => by
    rcases q with q | q | q
    · exact c23 q
    · exact c28 q
    · exact q c34
  refine xg_aload_n xa_M_fibre_41 rfl ?_
  refine xg_getfield xa_M_fibre_42 (by assumption) rfl ?_
  refine xg_bipush (v := 14) xa_M_fibre_45 (by decide) ?_
  refine xg_icmp_ne xa_M_fibre_47 (fun c47 => ?_) (fun c => ?_)
  · have hm14 : Mm < 14 := by
      apply Classical.byContradiction
      intro q
      exact c47 (by rw [show Mm = 14 by omega]; rfl)
    have e0 : cd_fibre Mn Mm a b len = 0 := by unfold cd_fibre; rw [if_neg n1, if_neg n2, if_neg (by omega)]
    obtain ⟨x, hx, rfl⟩ := xi_s (by omega) ((xz0 _).mp c6)
    obtain ⟨y, hy, rfl⟩ := xi_s (by omega) ((xz0 _).mp c14)
    obtain ⟨z, hz1, hz2, rfl⟩ := xi_100 c28 c34
    have i1 : 2 * Mm < 28 := by omega
    have i2 : 2 * Mm + 1 < 28 := by omega
    have hxx : (0 : Int32) = 0 ∨ (0 : Int32) = 1 := Or.inl rfl
    refine xg_iconst (v := 0) xa_M_fibre_54 (by decide) ?_
    refine xg_putf (fs' := [_, _, _, _, _, _, _, _, _, _, _, _, _, _, _, _, _, _, _, _, _, _, _, _]) xa_M_fibre_55 (by assumption) (Nat.le_of_ble_eq_true rfl) rfl rfl (fun h55 u55 => ?_)
    have hM1 := xMd_o (Mc' := 0) hM u55
    obtain ⟨g22, g23, g24, g25, g26, g27, g28, g29, g30, g31, g32, g33, g34, g35, g36, g37, g38, g39⟩ := id hM1
    refine xg_aload_n xa_M_fibre_58 rfl ?_
    refine xg_getfield xa_M_fibre_59 (by assumption) rfl ?_
    refine xg_if_le xa_M_fibre_62 (fun _ => ?_) (fun c => absurd (by decide) c)
    refine xg_aload_n xa_M_fibre_67 rfl ?_
    refine xg_getfield xa_M_fibre_68 (by assumption) rfl ?_
    refine xg_iconst (v := 2) xa_M_fibre_71 (by decide) ?_
    refine xg_aload_n xa_M_fibre_72 rfl ?_
    refine xg_getfield xa_M_fibre_73 (by assumption) rfl ?_
    refine xg_imul xa_M_fibre_76 (xi_2f _) ?_
    refine xg_iload_n xa_M_fibre_77 rfl ?_
    refine xg_iastf_n xa_M_fibre_78 (by assumption) rfl (by assumption) (by decide) (fun h78 u78 => ?_)
    have hM2 := xMd_Me hM1 u78
    obtain ⟨g22, g23, g24, g25, g26, g27, g28, g29, g30, g31, g32, g33, g34, g35, g36, g37, g38, g39⟩ := id hM2
    refine xg_aload_n xa_M_fibre_79 rfl ?_
    refine xg_getfield xa_M_fibre_80 (by assumption) rfl ?_
    refine xg_iconst (v := 2) xa_M_fibre_83 (by decide) ?_
    refine xg_aload_n xa_M_fibre_84 rfl ?_
    refine xg_getfield xa_M_fibre_85 (by assumption) rfl ?_
    refine xg_imul xa_M_fibre_88 (xi_2f _) ?_
    refine xg_iconst (v := 1) xa_M_fibre_89 (by decide) ?_
    refine xg_iadd xa_M_fibre_90 (nI_1 _) ?_
    refine xg_iload_n xa_M_fibre_91 rfl ?_
    refine xg_iastf_n xa_M_fibre_92 (by assumption) rfl (by assumption) (by decide) (fun h92 u92 => ?_)
    have hM3 := xMd_Me hM2 u92
    obtain ⟨g22, g23, g24, g25, g26, g27, g28, g29, g30, g31, g32, g33, g34, g35, g36, g37, g38, g39⟩ := id hM3
    refine xg_aload_n xa_M_fibre_93 rfl ?_
    refine xg_getfield xa_M_fibre_94 (by assumption) rfl ?_
    refine xg_aload_n xa_M_fibre_97 rfl ?_
    refine xg_getfield xa_M_fibre_98 (by assumption) rfl ?_
    refine xg_iload_n xa_M_fibre_101 rfl ?_
    refine xg_iastf_n xa_M_fibre_102 (by assumption) rfl (by assumption) (by decide) (fun h102 u102 => ?_)
    have hM4 := xMd_Ml hM3 u102
    obtain ⟨g22, g23, g24, g25, g26, g27, g28, g29, g30, g31, g32, g33, g34, g35, g36, g37, g38, g39⟩ := id hM4
    refine xg_aload_n xa_M_fibre_103 rfl ?_
    refine xg_getfield xa_M_fibre_104 (by assumption) rfl ?_
    refine xg_aload_n xa_M_fibre_107 rfl ?_
    refine xg_getfield xa_M_fibre_108 (by assumption) rfl ?_
    refine xg_iconst (v := 0) xa_M_fibre_111 (by decide) ?_
    refine xg_zastf_n xa_M_fibre_112 (by assumption) rfl (by assumption) (by decide) (by assumption) (fun h112 u112 => ?_)
    have hM5 := xMd_Mbr (x := false) hM4 u112
    obtain ⟨g22, g23, g24, g25, g26, g27, g28, g29, g30, g31, g32, g33, g34, g35, g36, g37, g38, g39⟩ := id hM5
    refine xg_aload_n xa_M_fibre_113 rfl ?_
    refine xg_getfield xa_M_fibre_114 (by assumption) rfl ?_
    refine xg_aload_n xa_M_fibre_117 rfl ?_
    refine xg_getfield xa_M_fibre_118 (by assumption) rfl ?_
    refine xg_iconst (v := 0) xa_M_fibre_121 (by decide) ?_
    refine xg_zastf_n xa_M_fibre_122 (by assumption) rfl (by assumption) (by decide) (by assumption) (fun h122 u122 => ?_)
    have hM6 := xMd_Mlk (x := false) hM5 u122
    obtain ⟨g22, g23, g24, g25, g26, g27, g28, g29, g30, g31, g32, g33, g34, g35, g36, g37, g38, g39⟩ := id hM6
    refine xg_aload_n xa_M_fibre_123 rfl ?_
    refine xg_dup_r xa_M_fibre_124 ?_
    refine xg_getfield xa_M_fibre_125 (by assumption) rfl ?_
    refine xg_iconst (v := 1) xa_M_fibre_128 (by decide) ?_
    refine xg_iadd xa_M_fibre_129 (nI_1 _) ?_
    refine xg_putf (fs' := [_, _, _, _, _, _, _, _, _, _, _, _, _, _, _, _, _, _, _, _, _, _, _, _]) xa_M_fibre_130 (by assumption) (Nat.le_of_ble_eq_true rfl) rfl rfl (fun h130 u130 => ?_)
    have hM7 := xMd_o (Mm' := Mm + 1) hM6 u130
    obtain ⟨g22, g23, g24, g25, g26, g27, g28, g29, g30, g31, g32, g33, g34, g35, g36, g37, g38, g39⟩ := id hM7
    refine xg_aload_n xa_M_fibre_133 rfl ?_
    refine xg_getfield xa_M_fibre_134 (by assumption) rfl ?_
    refine xg_iconst (v := 1) xa_M_fibre_137 (by decide) ?_
    refine xg_isub xa_M_fibre_138 (nI_pred _) ?_
    refine xg_ireturn xa_M_fibre_139 (k0 e0 x y z _ _ hx hy (fun q => c23 (by rw [q])) hz1 hz2 hm14 rfl rfl rfl ⟨_, _, _, _, _, _, _, hM7, hA, hN⟩ ?_)
    exact ((((((u55.toS (by decide) (by decide)).tr (u78.toS (by decide) (by decide))).tr (u92.toS (by decide) (by decide))).tr (u102.toS (by decide) (by decide))).tr (u112.toS (by decide) (by decide))).tr (u122.toS (by decide) (by decide))).tr (u130.toS (by decide) (by decide))
  · have hm14 : Mm = 14 := (nI_eq (by omega) (by omega)).mp (show nI Mm = nI 14 from c)
    refine xg_iconst (v := 3) xa_M_fibre_50 (by decide) ?_
    refine xg_goto xa_M_fibre_51 ?_
    exact bad 3 (by decide) (by unfold cd_fibre; rw [if_neg n1, if_neg n2, if_pos hm14])
/-- the first wavelength on which something is found -/
def xlay (F : Nat → Option (Int32 × Int32)) : Nat → Nat → Option (Nat × Int32 × Int32)
  | 0, _ => none
  | n + 1, w => match F w with
    | none => xlay F n (w + 1)
    | some p => some (w, p.1, p.2)
def cd_request (n : Nat) (t : Nat → Bool) (a b : Int32) : Int32 := if xnS n a = true ∨ xnS n b = true then 1 else if a = b then 2 else if xunu t 12 0 = 12 then 3 else 0
theorem xunu_le (t : Nat → Bool) : ∀ n i, xunu t n i ≤ i + n := by
  intro n
  induction n with
  | zero => intro i; exact Nat.le_refl _
  | succ n ih =>
    intro i
    unfold xunu
    by_cases c : t i = true
    · rw [if_pos c]; have := ih (i + 1); omega
    · rw [if_neg c]; omega
theorem c_M_request {a b : Int32} {pr : Bool} (hn : Mn ≤ 7) (hm : Mm ≤ 14) (hE : ∀ j, Me j < 7) (hF : ∀ x y s, x < Mn → y < Mn → ¬ x = y → xFok Ml Mm (xPL Me Mm s x y)) (hM : xMs h Mc Mn Mm Mh Me Ml Mbr Mlk Mt Mg Ma Mb Mw Mwk Msp Mon Mct)
    (k1 : ∀ v, ¬ v = 0 → cd_request Mn Mt a b = v → ∀ h' fl', xMs h' v Mn Mm Mh Me Ml Mbr Mlk Mt Mg Ma Mb Mw Mwk Msp Mon Mct → xS h h' 22 40 → Q (.inl (some (.int 0))) (h', ks, fl'))
    (k0 : cd_request Mn Mt a b = 0 → ∀ x y c h' fl', x < Mn → y < Mn → ¬ x = y → a = nI x → b = nI y → c = xunu Mt 12 0 → c < 12 →
      (xlay (xfw Mm Me Ml Mbr Mlk Mt Mw Mwk Msp x y pr) 4 0 = none → xMs h' 0 Mn Mm Mh Me Ml Mbr Mlk Mt Mg Ma Mb Mw Mwk Msp Mon Mct → xS h h' 22 40 → Q (.inl (some (.int (-1)))) (h', ks, fl')) ∧
      (∀ w wk sp, xlay (xfw Mm Me Ml Mbr Mlk Mt Mw Mwk Msp x y pr) 4 0 = some (w, wk, sp) → xMs h' 0 Mn Mm Mh Me Ml Mbr Mlk (xup Mt c true) (xup Mg c pr) (xup Ma c x) (xup Mb c y) (xup Mw c w) (xup Mwk c wk) (xup Msp c sp) (xup Mon c 0) (xup Mct c 0) → xS h h' 22 40 → Q (.inl (some (.int (nI c)))) (h', ks, fl'))) :
    xG xs LS (d + 5) 73 (0, xm_entry xP 73 [.ref 22, .int a, .int b, .int (xz pr)], []) (h, ks, fl) Q := by
  show xG xs LS (d + 5) 73 (0, [some (.ref 22), some (.int a), some (.int b), some (.int (xz pr)), none, none], []) (h, ks, fl) Q
  obtain ⟨Mp, Mfw, Mfs, MS, MZ, MA, MN, hM, hA, hN⟩ := hM
  obtain ⟨g22, g23, g24, g25, g26, g27, g28, g29, g30, g31, g32, g33, g34, g35, g36, g37, g38, g39⟩ := id hM
  have hc12 : xunu Mt 12 0 ≤ 12 := by have := xunu_le Mt 12 0; omega
  have bad : ∀ v, 0 < v → cd_request Mn Mt a b = v → xG xs LS (d + 5) 73 (48, [some (.ref 22), some (.int a), some (.int b), some (.int (xz pr)), some (.int (nI (xunu Mt 12 0))), none], [.int v, .ref 22]) (h, ks, fl) Q := by
    intro v hv hc
    have hv0 : ¬ v = 0 := fun q => by rw [q] at hv; exact absurd hv (by decide)
    refine xg_putf (fs' := [_, _, _, _, _, _, _, _, _, _, _, _, _, _, _, _, _, _, _, _, _, _, _, _]) xa_M_request_48 (by assumption) (Nat.le_of_ble_eq_true rfl) rfl rfl (fun h48 u48 => ?_)
    have hM1 := xMd_o (Mc' := v) hM u48
    obtain ⟨g22, g23, g24, g25, g26, g27, g28, g29, g30, g31, g32, g33, g34, g35, g36, g37, g38, g39⟩ := id hM1
    refine xg_aload_n xa_M_request_51 rfl ?_
    refine xg_getfield xa_M_request_52 (by assumption) rfl ?_
    refine xg_if_le xa_M_request_55 (fun c => absurd hv (Int32.not_lt.mpr c)) (fun _ => ?_)
    refine xg_iconst (v := 0) xa_M_request_58 (by decide) ?_
    refine xg_ireturn xa_M_request_59  ?_
    exact k1 v hv0 hc _ _ ⟨_, _, _, _, _, _, _, hM1, hA, hN⟩ (u48.toS (by decide) (by decide))
  have bad1 : (xnS Mn a = true ∨ xnS Mn b = true) → xG xs LS (d + 5) 73 (23, [some (.ref 22), some (.int a), some (.int b), some (.int (xz pr)), some (.int (nI (xunu Mt 12 0))), none], [.ref 22]) (h, ks, fl) Q := by
    intro hc
    refine xg_iconst (v := 1) xa_M_request_23 (by decide) ?_
    refine xg_goto xa_M_request_24 ?_
    exact bad 1 (by decide) (by unfold cd_request; rw [if_pos hc])
  refine xg_aload_n xa_M_request_0 rfl ?_
  refine xg_callV1 xa_M_request_1 ⟨Nat.le_of_ble_eq_true rfl, Nat.le_of_ble_eq_true rfl, rfl⟩ rfl rfl (by assumption) ?_
  refine c_M_unused hM ?_
  refine xK1_c ?_
  refine xg_istore (L' := [_, _, _, _, _, _]) xa_M_request_4 (Nat.le_of_ble_eq_true rfl) rfl ?_
  refine xg_aload_n xa_M_request_6 rfl ?_
  refine xg_aload_n xa_M_request_7 rfl ?_
  refine xg_iload_n xa_M_request_8 rfl ?_
  refine xg_callV1 xa_M_request_9 ⟨Nat.le_of_ble_eq_true rfl, Nat.le_of_ble_eq_true rfl, rfl⟩ rfl rfl (by assumption) ?_
  refine c_M_noSite hM ?_
  refine xK1_c ?_
  refine xg_if_ne xa_M_request_12 (fun c => bad1 (Or.inl (xz1 c))) (fun c6 => ?_)
  refine xg_aload_n xa_M_request_15 rfl ?_
  refine xg_iload_n xa_M_request_16 rfl ?_
  refine xg_callV1 xa_M_request_17 ⟨Nat.le_of_ble_eq_true rfl, Nat.le_of_ble_eq_true rfl, rfl⟩ rfl rfl (by assumption) ?_
  refine c_M_noSite hM ?_
  refine xK1_c ?_
  refine xg_if_eq xa_M_request_20 (fun c14 => ?_) (fun c => bad1 (Or.inr (xz1 c)))
  have n1 : ¬ (xnS Mn a = true ∨ xnS Mn b = true) := fun q => by
    rw [(xz0 _).mp c6, (xz0 _).mp c14] at q
    rcases q with q | q <;> cases q
  refine xg_iload_n xa_M_request_27 rfl ?_
  refine xg_iload_n xa_M_request_28 rfl ?_
  refine xg_icmp_ne xa_M_request_29 (fun c29 => ?_) (fun c => ?_)
  · refine xg_iload xa_M_request_36 rfl ?_
    refine xg_bipush (v := 12) xa_M_request_38 (by decide) ?_
    refine xg_icmp_ne xa_M_request_40 (fun c40 => ?_) (fun c => ?_)
    · have hcl : ¬ xunu Mt 12 0 = 12 := fun q => c40 (by rw [q]; rfl)
      have e0 : cd_request Mn Mt a b = 0 := by unfold cd_request; rw [if_neg n1, if_neg c29, if_neg hcl]
      obtain ⟨x, hx, rfl⟩ := xi_s (by omega) ((xz0 _).mp c6)
      obtain ⟨y, hy, rfl⟩ := xi_s (by omega) ((xz0 _).mp c14)
      have hxy : ¬ x = y := fun q => c29 (by rw [q])
      have kk := fun c h' fl' hcc hc12 => k0 e0 x y c h' fl' hx hy hxy rfl rfl hcc hc12
      clear k0 k1 bad bad1
      generalize hcu : xunu Mt 12 0 = c at *
      have hc : c < 12 := by omega
      have kk := fun h' fl' => kk c h' fl' rfl hc
      refine xg_iconst (v := 0) xa_M_request_47 (by decide) ?_
      refine xg_putf (fs' := [_, _, _, _, _, _, _, _, _, _, _, _, _, _, _, _, _, _, _, _, _, _, _, _]) xa_M_request_48 (by assumption) (Nat.le_of_ble_eq_true rfl) rfl rfl (fun h48 u48 => ?_)
      have hM1 := xMd_o (Mc' := 0) hM u48
      obtain ⟨g22, g23, g24, g25, g26, g27, g28, g29, g30, g31, g32, g33, g34, g35, g36, g37, g38, g39⟩ := id hM1
      refine xg_aload_n xa_M_request_51 rfl ?_
      refine xg_getfield xa_M_request_52 (by assumption) rfl ?_
      refine xg_if_le xa_M_request_55 (fun _ => ?_) (fun c => absurd (by decide) c)
      have loop : ∀ n w h1 fl', w + n = 4 → xlay (xfw Mm Me Ml Mbr Mlk Mt Mw Mwk Msp x y pr) n w = xlay (xfw Mm Me Ml Mbr Mlk Mt Mw Mwk Msp x y pr) 4 0 → xMs h1 0 Mn Mm Mh Me Ml Mbr Mlk Mt Mg Ma Mb Mw Mwk Msp Mon Mct → xS h h1 22 40 → xG xs LS (d + 5) 73 (63, [some (.ref 22), some (.int (nI x)), some (.int (nI y)), some (.int (xz pr)), some (.int (nI c)), some (.int (nI w))], []) (h1, ks, fl') Q := by
        intro n
        induction n with
        | zero =>
          intro w h1 fl' hw hl hM hS
          have e : w = 4 := by omega
          subst e
          refine xg_iload xa_M_request_63 rfl ?_
          refine xg_iconst (v := 4) xa_M_request_65 (by decide) ?_
          refine xg_icmp_ge xa_M_request_66 (fun c66 => ?_) (fun c66 => absurd (by decide) c66)
          refine xg_iconst (v := (-1)) xa_M_request_130 (by decide) ?_
          refine xg_ireturn xa_M_request_131  ?_
          exact (kk _ _).1 hl.symm hM hS
        | succ n ih =>
          intro w h1 fl' hw hl hM hS
          have hM0 := hM
          obtain ⟨Mp, Mfw, Mfs, MS, MZ, MA, MN, hM, hA, hN⟩ := hM
          obtain ⟨g22, g23, g24, g25, g26, g27, g28, g29, g30, g31, g32, g33, g34, g35, g36, g37, g38, g39⟩ := id hM
          refine xg_iload xa_M_request_63 rfl ?_
          refine xg_iconst (v := 4) xa_M_request_65 (by decide) ?_
          refine xg_icmp_ge xa_M_request_66 (fun c => absurd c (show ¬ nI 4 ≤ nI w from nI_ge (by omega) (by omega))) (fun _ => ?_)
          refine xg_aload_n xa_M_request_69 rfl ?_
          refine xg_iload xa_M_request_70 rfl ?_
          refine xg_iload_n xa_M_request_72 rfl ?_
          refine xg_iload_n xa_M_request_73 rfl ?_
          refine xg_iload_n xa_M_request_74 rfl ?_
          refine xg_callV1 xa_M_request_75 ⟨Nat.le_of_ble_eq_true rfl, Nat.le_of_ble_eq_true rfl, rfl⟩ rfl rfl (by assumption) ?_
          unfold xlay at hl
          refine c_M_find hm hE (by omega) (by omega) (fun s => hF x y s hx hy hxy) hM0 (fun h2 fl2 q1 q2 q3 => ?_) (fun h2 fl2 p Mp MS MZ MA MN q1 q2 q3 q4 q5 => ?_)
          · refine xK1_d ?_
            rw [q3] at hl
            refine xg_if_eq xa_M_request_78 (fun _ => ?_) (fun c => absurd rfl c)
            refine xg_iinc (L' := [_, _, _, _, _, _]) xa_M_request_124 rfl (xi_inc _) rfl ?_
            refine xg_goto xa_M_request_127 ?_
            exact ih (w + 1) h2 _ (by omega) hl q1 (hS.tr q2)
          · refine xK1_d ?_
            rw [q5] at hl
            refine xg_if_eq xa_M_request_78 (fun c => absurd c (by decide)) (fun _ => ?_)
            have hxx : (1 : Int32) = 0 ∨ (1 : Int32) = 1 := Or.inr rfl
            have hxp := xz01 pr
            obtain ⟨g22, g23, g24, g25, g26, g27, g28, g29, g30, g31, g32, g33, g34, g35, g36, g37, g38, g39⟩ := id q1
            refine xg_aload_n xa_M_request_81 rfl ?_
            refine xg_getfield xa_M_request_82 (by assumption) rfl ?_
            refine xg_iload xa_M_request_85 rfl ?_
            refine xg_iconst (v := 1) xa_M_request_87 (by decide) ?_
            refine xg_zastf_n xa_M_request_88 (by assumption) rfl (by assumption) (by decide) (by assumption) (fun h88 u88 => ?_)
            have r1 := xMd_Mt (x := true) q1 u88
            obtain ⟨g22, g23, g24, g25, g26, g27, g28, g29, g30, g31, g32, g33, g34, g35, g36, g37, g38, g39⟩ := id r1
            refine xg_aload_n xa_M_request_89 rfl ?_
            refine xg_getfield xa_M_request_90 (by assumption) rfl ?_
            refine xg_iload xa_M_request_93 rfl ?_
            refine xg_iload_n xa_M_request_95 rfl ?_
            refine xg_zastf_n xa_M_request_96 (by assumption) rfl (by assumption) (by decide) (by assumption) (fun h96 u96 => ?_)
            have r2 := xMd_Mg r1 u96
            obtain ⟨g22, g23, g24, g25, g26, g27, g28, g29, g30, g31, g32, g33, g34, g35, g36, g37, g38, g39⟩ := id r2
            refine xg_aload_n xa_M_request_97 rfl ?_
            refine xg_getfield xa_M_request_98 (by assumption) rfl ?_
            refine xg_iload xa_M_request_101 rfl ?_
            refine xg_iload_n xa_M_request_103 rfl ?_
            refine xg_iastf_n xa_M_request_104 (by assumption) rfl (by assumption) (by decide) (fun h104 u104 => ?_)
            have r3 := xMd_Ma r2 u104
            obtain ⟨g22, g23, g24, g25, g26, g27, g28, g29, g30, g31, g32, g33, g34, g35, g36, g37, g38, g39⟩ := id r3
            refine xg_aload_n xa_M_request_105 rfl ?_
            refine xg_getfield xa_M_request_106 (by assumption) rfl ?_
            refine xg_iload xa_M_request_109 rfl ?_
            refine xg_iload_n xa_M_request_111 rfl ?_
            refine xg_iastf_n xa_M_request_112 (by assumption) rfl (by assumption) (by decide) (fun h112 u112 => ?_)
            have r4 := xMd_Mb r3 u112
            obtain ⟨g22, g23, g24, g25, g26, g27, g28, g29, g30, g31, g32, g33, g34, g35, g36, g37, g38, g39⟩ := id r4
            refine xg_aload_n xa_M_request_113 rfl ?_
            refine xg_iload xa_M_request_114 rfl ?_
            refine xg_iload xa_M_request_116 rfl ?_
            refine xg_callV0 xa_M_request_118 ⟨Nat.le_of_ble_eq_true rfl, Nat.le_of_ble_eq_true rfl, rfl⟩ rfl rfl (by assumption) ?_
            refine c_M_take hc r4 (fun h5 fl5 r5 s5 => ?_)
            refine xK0_d ?_
            refine xg_iload xa_M_request_121 rfl ?_
            refine xg_ireturn xa_M_request_123 ((kk _ _).2 w p.1 p.2 hl.symm ⟨_, _, _, _, _, _, _, r5, q2, q3⟩ ?_)
            exact (((((hS.tr q4).tr (u88.toS (by decide) (by decide))).tr (u96.toS (by decide) (by decide))).tr (u104.toS (by decide) (by decide))).tr (u112.toS (by decide) (by decide))).tr s5
      refine xg_iconst (v := 0) xa_M_request_60 (by decide) ?_
      refine xg_istore (L' := [_, _, _, _, _, _]) xa_M_request_61 (Nat.le_of_ble_eq_true rfl) rfl ?_
      exact loop 4 0 _ _ (by omega) rfl ⟨_, _, _, _, _, _, _, hM1, hA, hN⟩ (u48.toS (by decide) (by decide))
    · have hcl : xunu Mt 12 0 = 12 := (nI_eq (by omega) (by omega)).mp (show nI (xunu Mt 12 0) = nI 12 from c)
      refine xg_iconst (v := 3) xa_M_request_43 (by decide) ?_
      refine xg_goto xa_M_request_44 ?_
      exact bad 3 (by decide) (by unfold cd_request; rw [if_neg n1, if_neg c29, if_pos hcl])
  · refine xg_iconst (v := 2) xa_M_request_32 (by decide) ?_
    refine xg_goto xa_M_request_33 ?_
    exact bad 2 (by decide) (by unfold cd_request; rw [if_neg n1, if_pos c])
def cd_conn (t : Nat → Bool) (x : Int32) : Int32 := if xnC t x = true then 1 else 0
theorem xi_c {t : Nat → Bool} {x : Int32} (h : xnC t x = false) : ∃ c, c < 12 ∧ x = nI c ∧ t c = true := by
  unfold xnC at h
  rw [Bool.or_eq_false_iff, Bool.or_eq_false_iff, decide_eq_false_iff_not, decide_eq_false_iff_not] at h
  obtain ⟨c, hc, rfl⟩ := xi_12 h.1.1 h.1.2
  refine ⟨c, hc, rfl, ?_⟩
  have := h.2
  rw [nI_clamp (by omega)] at this
  simpa using this
theorem c_M_release {x : Int32} (hM : xMs h Mc Mn Mm Mh Me Ml Mbr Mlk Mt Mg Ma Mb Mw Mwk Msp Mon Mct)
    (k1 : cd_conn Mt x = 1 → ∀ h' fl', xMs h' 1 Mn Mm Mh Me Ml Mbr Mlk Mt Mg Ma Mb Mw Mwk Msp Mon Mct → xS h h' 22 40 → Q (.inl none) (h', ks, fl'))
    (k0 : cd_conn Mt x = 0 → ∀ c h' fl', c < 12 → x = nI c → Mt c = true → xMs h' 0 Mn Mm Mh Me Ml Mbr Mlk (xup Mt c false) Mg Ma Mb Mw Mwk Msp Mon Mct → xS h h' 22 40 → Q (.inl none) (h', ks, fl')) :
    xG xs LS (d + 1) 86 (0, xm_entry xP 86 [.ref 22, .int x], []) (h, ks, fl) Q := by
  show xG xs LS (d + 1) 86 (0, [some (.ref 22), some (.int x)], []) (h, ks, fl) Q
  obtain ⟨Mp, Mfw, Mfs, MS, MZ, MA, MN, hM, hA, hN⟩ := hM
  obtain ⟨g22, g23, g24, g25, g26, g27, g28, g29, g30, g31, g32, g33, g34, g35, g36, g37, g38, g39⟩ := id hM
  unfold cd_conn at k1 k0
  refine xg_aload_n xa_M_release_0 rfl ?_
  refine xg_aload_n xa_M_release_1 rfl ?_
  refine xg_iload_n xa_M_release_2 rfl ?_
  refine xg_callV1 xa_M_release_3 ⟨Nat.le_of_ble_eq_true rfl, Nat.le_of_ble_eq_true rfl, rfl⟩ rfl rfl (by assumption) ?_
  refine c_M_noConnection hM ?_
  refine xK1_c ?_
  refine xg_if_eq xa_M_release_6 (fun c => ?_) (fun c => ?_)
  · have hf := (xz0 _).mp c
    obtain ⟨j, hj, rfl, ht⟩ := xi_c hf
    rw [if_neg (by rw [hf]; decide)] at k0
    refine xg_iconst (v := 0) xa_M_release_13 (by decide) ?_
    refine xg_putf (fs' := [_, _, _, _, _, _, _, _, _, _, _, _, _, _, _, _, _, _, _, _, _, _, _, _]) xa_M_release_14 (by assumption) (Nat.le_of_ble_eq_true rfl) rfl rfl (fun h14 u14 => ?_)
    have hM1 := xMd_o (Mc' := 0) hM u14
    obtain ⟨g22, g23, g24, g25, g26, g27, g28, g29, g30, g31, g32, g33, g34, g35, g36, g37, g38, g39⟩ := id hM1
    have hxx : (0 : Int32) = 0 ∨ (0 : Int32) = 1 := Or.inl rfl
    refine xg_aload_n xa_M_release_17 rfl ?_
    refine xg_getfield xa_M_release_18 (by assumption) rfl ?_
    refine xg_if_ne xa_M_release_21 (fun c => absurd rfl c) (fun _ => ?_)
    refine xg_aload_n xa_M_release_24 rfl ?_
    refine xg_getfield xa_M_release_25 (by assumption) rfl ?_
    refine xg_iload_n xa_M_release_28 rfl ?_
    refine xg_iconst (v := 0) xa_M_release_29 (by decide) ?_
    refine xg_zastf_n xa_M_release_30 (by assumption) rfl (by assumption) (by decide) (by assumption) (fun h30 u30 => ?_)
    have hM2 := xMd_Mt (x := false) hM1 u30
    exact xg_return xa_M_release_31 (k0 rfl j _ _ hj rfl ht ⟨_, _, _, _, _, _, _, hM2, hA, hN⟩ ((u14.toS (by decide) (by decide)).tr (u30.toS (by decide) (by decide))))
  · rw [if_pos (xz1 c)] at k1
    refine xg_iconst (v := 1) xa_M_release_9 (by decide) ?_
    refine xg_goto xa_M_release_10 ?_
    refine xg_putf (fs' := [_, _, _, _, _, _, _, _, _, _, _, _, _, _, _, _, _, _, _, _, _, _, _, _]) xa_M_release_14 (by assumption) (Nat.le_of_ble_eq_true rfl) rfl rfl (fun h14 u14 => ?_)
    have hM1 := xMd_o (Mc' := 1) hM u14
    obtain ⟨g22, g23, g24, g25, g26, g27, g28, g29, g30, g31, g32, g33, g34, g35, g36, g37, g38, g39⟩ := id hM1
    refine xg_aload_n xa_M_release_17 rfl ?_
    refine xg_getfield xa_M_release_18 (by assumption) rfl ?_
    refine xg_if_ne xa_M_release_21 (fun _ => ?_) (fun c => absurd c (by decide))
    exact xg_return xa_M_release_31 (k1 rfl _ _ ⟨_, _, _, _, _, _, _, hM1, hA, hN⟩ (u14.toS (by decide) (by decide)))
def cd_lock (m : Nat) (lk : Nat → Bool) (x : Int32) (on : Bool) : Int32 := if xnS m x = true then 1 else if lk x.toNatClampNeg = on then 2 else 0
theorem c_M_lock {x : Int32} {on : Bool} (hm : Mm ≤ 14) (hM : xMs h Mc Mn Mm Mh Me Ml Mbr Mlk Mt Mg Ma Mb Mw Mwk Msp Mon Mct)
    (k1 : ∀ v, ¬ v = 0 → cd_lock Mm Mlk x on = v → ∀ h' fl', xMs h' v Mn Mm Mh Me Ml Mbr Mlk Mt Mg Ma Mb Mw Mwk Msp Mon Mct → xS h h' 22 40 → Q (.inl none) (h', ks, fl'))
    (k0 : cd_lock Mm Mlk x on = 0 → ∀ f h' fl', f < Mm → x = nI f → ¬ Mlk f = on → xMs h' 0 Mn Mm Mh Me Ml Mbr (xup Mlk f on) Mt Mg Ma Mb Mw Mwk Msp Mon Mct → xS h h' 22 40 → Q (.inl none) (h', ks, fl')) :
    xG xs LS (d + 1) 88 (0, xm_entry xP 88 [.ref 22, .int x, .int (xz on)], []) (h, ks, fl) Q := by
  show xG xs LS (d + 1) 88 (0, [some (.ref 22), some (.int x), some (.int (xz on))], []) (h, ks, fl) Q
  obtain ⟨Mp, Mfw, Mfs, MS, MZ, MA, MN, hM, hA, hN⟩ := hM
  obtain ⟨g22, g23, g24, g25, g26, g27, g28, g29, g30, g31, g32, g33, g34, g35, g36, g37, g38, g39⟩ := id hM
  unfold cd_lock at k1 k0
  have bad : ∀ v, 0 < v → (if xnS Mm x = true then 1 else if Mlk x.toNatClampNeg = on then 2 else 0) = v → xG xs LS (d + 1) 88 (28, [some (.ref 22), some (.int x), some (.int (xz on))], [.int v, .ref 22]) (h, ks, fl) Q := by
    intro v hv hc
    have hv0 : ¬ v = 0 := fun q => by rw [q] at hv; exact absurd hv (by decide)
    refine xg_putf (fs' := [_, _, _, _, _, _, _, _, _, _, _, _, _, _, _, _, _, _, _, _, _, _, _, _]) xa_M_lock_28 (by assumption) (Nat.le_of_ble_eq_true rfl) rfl rfl (fun h28 u28 => ?_)
    have hM1 := xMd_o (Mc' := v) hM u28
    obtain ⟨g22, g23, g24, g25, g26, g27, g28, g29, g30, g31, g32, g33, g34, g35, g36, g37, g38, g39⟩ := id hM1
    refine xg_aload_n xa_M_lock_31 rfl ?_
    refine xg_getfield xa_M_lock_32 (by assumption) rfl ?_
    refine xg_if_ne xa_M_lock_35 (fun _ => ?_) (fun c => absurd c hv0)
    exact xg_return xa_M_lock_45 (k1 v hv0 hc _ _ ⟨_, _, _, _, _, _, _, hM1, hA, hN⟩ (u28.toS (by decide) (by decide)))
  refine xg_aload_n xa_M_lock_0 rfl ?_
  refine xg_aload_n xa_M_lock_1 rfl ?_
  refine xg_iload_n xa_M_lock_2 rfl ?_
  refine xg_callV1 xa_M_lock_3 ⟨Nat.le_of_ble_eq_true rfl, Nat.le_of_ble_eq_true rfl, rfl⟩ rfl rfl (by assumption) ?_
  refine c_M_noFibre hM ?_
  refine xK1_c ?_
  refine xg_if_eq xa_M_lock_6 (fun c => ?_) (fun c => ?_)
  · have hf := (xz0 _).mp c
    obtain ⟨j, hj, rfl⟩ := xi_s (by omega) hf
    have hj14 : j < 14 := by omega
    rw [if_neg (show ¬ xnS Mm (nI j) = true by rw [hf]; decide), nI_clamp (by omega)] at k0 bad
    refine xg_aload_n xa_M_lock_13 rfl ?_
    refine xg_getfield xa_M_lock_14 (by assumption) rfl ?_
    refine xg_iload_n xa_M_lock_17 rfl ?_
    refine xg_zald_n xa_M_lock_18 (by assumption) rfl (by assumption) (by decide) ?_
    refine xg_iload_n xa_M_lock_19 rfl ?_
    refine xg_icmp_ne xa_M_lock_20 (fun c => ?_) (fun c => ?_)
    · have hne : ¬ Mlk j = on := fun q => c (by rw [q])
      rw [if_neg hne] at k0
      refine xg_iconst (v := 0) xa_M_lock_27 (by decide) ?_
      refine xg_putf (fs' := [_, _, _, _, _, _, _, _, _, _, _, _, _, _, _, _, _, _, _, _, _, _, _, _]) xa_M_lock_28 (by assumption) (Nat.le_of_ble_eq_true rfl) rfl rfl (fun h28 u28 => ?_)
      have hM1 := xMd_o (Mc' := 0) hM u28
      obtain ⟨g22, g23, g24, g25, g26, g27, g28, g29, g30, g31, g32, g33, g34, g35, g36, g37, g38, g39⟩ := id hM1
      have hxx := xz01 on
      refine xg_aload_n xa_M_lock_31 rfl ?_
      refine xg_getfield xa_M_lock_32 (by assumption) rfl ?_
      refine xg_if_ne xa_M_lock_35 (fun c => absurd rfl c) (fun _ => ?_)
      refine xg_aload_n xa_M_lock_38 rfl ?_
      refine xg_getfield xa_M_lock_39 (by assumption) rfl ?_
      refine xg_iload_n xa_M_lock_42 rfl ?_
      refine xg_iload_n xa_M_lock_43 rfl ?_
      refine xg_zastf_n xa_M_lock_44 (by assumption) rfl (by assumption) (by decide) (by assumption) (fun h44 u44 => ?_)
      have hM2 := xMd_Mlk hM1 u44
      exact xg_return xa_M_lock_45 (k0 rfl j _ _ hj rfl hne ⟨_, _, _, _, _, _, _, hM2, hA, hN⟩ ((u28.toS (by decide) (by decide)).tr (u44.toS (by decide) (by decide))))
    · refine xg_iconst (v := 2) xa_M_lock_23 (by decide) ?_
      refine xg_goto xa_M_lock_24 ?_
      exact bad 2 (by decide) (if_pos (xz_inj.mp c))
  · refine xg_iconst (v := 1) xa_M_lock_9 (by decide) ?_
    refine xg_goto xa_M_lock_10 ?_
    exact bad 1 (by decide) (if_pos (xz1 c))
end XM9
end
section
/-! 40.pub2: the model's calls: cut, mend, hold, clock, move, about, user, fits, bridge, exposed, count. -/
theorem xa_M_cut_0 : xm_at xP 90 0 = some (0, .aload_n 0, 0, 0, 0, 0) := by decide +kernel
theorem xa_M_cut_1 : xm_at xP 90 1 = some (1, .aload_n 0, 0, 0, 0, 0) := by decide +kernel
theorem xa_M_cut_2 : xm_at xP 90 2 = some (2, .iload_n 1, 0, 0, 0, 0) := by decide +kernel
theorem xa_M_cut_3 : xm_at xP 90 3 = some (3, .invokevirtual 137, 89, 2, 3, 0) := by decide +kernel
theorem xa_M_cut_6 : xm_at xP 90 6 = some (6, .ifCond .eq 7, 13, 0, 0, 0) := by decide +kernel
theorem xa_M_cut_9 : xm_at xP 90 9 = some (9, .iconst 1, 0, 0, 0, 0) := by decide +kernel
theorem xa_M_cut_10 : xm_at xP 90 10 = some (10, .goto 17, 27, 0, 0, 0) := by decide +kernel
theorem xa_M_cut_13 : xm_at xP 90 13 = some (13, .aload_n 0, 0, 0, 0, 0) := by decide +kernel
theorem xa_M_cut_14 : xm_at xP 90 14 = some (14, .getfield 20, 3, 5, 0, 0) := by decide +kernel
theorem xa_M_cut_17 : xm_at xP 90 17 = some (17, .iload_n 1, 0, 0, 0, 0) := by decide +kernel
theorem xa_M_cut_18 : xm_at xP 90 18 = some (18, .baload, 0, 0, 0, 0) := by decide +kernel
theorem xa_M_cut_19 : xm_at xP 90 19 = some (19, .ifCond .eq 7, 26, 0, 0, 0) := by decide +kernel
theorem xa_M_cut_22 : xm_at xP 90 22 = some (22, .iconst 2, 0, 0, 0, 0) := by decide +kernel
theorem xa_M_cut_23 : xm_at xP 90 23 = some (23, .goto 4, 27, 0, 0, 0) := by decide +kernel
theorem xa_M_cut_26 : xm_at xP 90 26 = some (26, .iconst 0, 0, 0, 0, 0) := by decide +kernel
theorem xa_M_cut_27 : xm_at xP 90 27 = some (27, .putfield 66, 3, 0, 0, 0) := by decide +kernel
theorem xa_M_cut_30 : xm_at xP 90 30 = some (30, .aload_n 0, 0, 0, 0, 0) := by decide +kernel
theorem xa_M_cut_31 : xm_at xP 90 31 = some (31, .getfield 66, 3, 0, 0, 0) := by decide +kernel
theorem xa_M_cut_34 : xm_at xP 90 34 = some (34, .ifCond .le 4, 38, 0, 0, 0) := by decide +kernel
theorem xa_M_cut_37 : xm_at xP 90 37 = some (37, .return_, 0, 0, 0, 0) := by decide +kernel
theorem xa_M_cut_38 : xm_at xP 90 38 = some (38, .aload_n 0, 0, 0, 0, 0) := by decide +kernel
theorem xa_M_cut_39 : xm_at xP 90 39 = some (39, .getfield 20, 3, 5, 0, 0) := by decide +kernel
theorem xa_M_cut_42 : xm_at xP 90 42 = some (42, .iload_n 1, 0, 0, 0, 0) := by decide +kernel
theorem xa_M_cut_43 : xm_at xP 90 43 = some (43, .iconst 1, 0, 0, 0, 0) := by decide +kernel
theorem xa_M_cut_44 : xm_at xP 90 44 = some (44, .bastore, 0, 0, 0, 0) := by decide +kernel
theorem xa_M_cut_45 : xm_at xP 90 45 = some (45, .aload_n 0, 0, 0, 0, 0) := by decide +kernel
theorem xa_M_cut_46 : xm_at xP 90 46 = some (46, .invokevirtual 143, 91, 1, 3, 0) := by decide +kernel
theorem xa_M_cut_49 : xm_at xP 90 49 = some (49, .return_, 0, 0, 0, 0) := by decide +kernel
theorem xa_M_mend_0 : xm_at xP 93 0 = some (0, .aload_n 0, 0, 0, 0, 0) := by decide +kernel
theorem xa_M_mend_1 : xm_at xP 93 1 = some (1, .aload_n 0, 0, 0, 0, 0) := by decide +kernel
theorem xa_M_mend_2 : xm_at xP 93 2 = some (2, .iload_n 1, 0, 0, 0, 0) := by decide +kernel
theorem xa_M_mend_3 : xm_at xP 93 3 = some (3, .invokevirtual 137, 89, 2, 3, 0) := by decide +kernel
theorem xa_M_mend_6 : xm_at xP 93 6 = some (6, .ifCond .eq 7, 13, 0, 0, 0) := by decide +kernel
theorem xa_M_mend_9 : xm_at xP 93 9 = some (9, .iconst 1, 0, 0, 0, 0) := by decide +kernel
theorem xa_M_mend_10 : xm_at xP 93 10 = some (10, .goto 17, 27, 0, 0, 0) := by decide +kernel
theorem xa_M_mend_13 : xm_at xP 93 13 = some (13, .aload_n 0, 0, 0, 0, 0) := by decide +kernel
theorem xa_M_mend_14 : xm_at xP 93 14 = some (14, .getfield 20, 3, 5, 0, 0) := by decide +kernel
theorem xa_M_mend_17 : xm_at xP 93 17 = some (17, .iload_n 1, 0, 0, 0, 0) := by decide +kernel
theorem xa_M_mend_18 : xm_at xP 93 18 = some (18, .baload, 0, 0, 0, 0) := by decide +kernel
theorem xa_M_mend_19 : xm_at xP 93 19 = some (19, .ifCond .ne 7, 26, 0, 0, 0) := by decide +kernel
theorem xa_M_mend_22 : xm_at xP 93 22 = some (22, .iconst 2, 0, 0, 0, 0) := by decide +kernel
theorem xa_M_mend_23 : xm_at xP 93 23 = some (23, .goto 4, 27, 0, 0, 0) := by decide +kernel
theorem xa_M_mend_26 : xm_at xP 93 26 = some (26, .iconst 0, 0, 0, 0, 0) := by decide +kernel
theorem xa_M_mend_27 : xm_at xP 93 27 = some (27, .putfield 66, 3, 0, 0, 0) := by decide +kernel
theorem xa_M_mend_30 : xm_at xP 93 30 = some (30, .aload_n 0, 0, 0, 0, 0) := by decide +kernel
theorem xa_M_mend_31 : xm_at xP 93 31 = some (31, .getfield 66, 3, 0, 0, 0) := by decide +kernel
theorem xa_M_mend_34 : xm_at xP 93 34 = some (34, .ifCond .le 4, 38, 0, 0, 0) := by decide +kernel
theorem xa_M_mend_37 : xm_at xP 93 37 = some (37, .return_, 0, 0, 0, 0) := by decide +kernel
theorem xa_M_mend_38 : xm_at xP 93 38 = some (38, .aload_n 0, 0, 0, 0, 0) := by decide +kernel
theorem xa_M_mend_39 : xm_at xP 93 39 = some (39, .getfield 20, 3, 5, 0, 0) := by decide +kernel
theorem xa_M_mend_42 : xm_at xP 93 42 = some (42, .iload_n 1, 0, 0, 0, 0) := by decide +kernel
theorem xa_M_mend_43 : xm_at xP 93 43 = some (43, .iconst 0, 0, 0, 0, 0) := by decide +kernel
theorem xa_M_mend_44 : xm_at xP 93 44 = some (44, .bastore, 0, 0, 0, 0) := by decide +kernel
theorem xa_M_mend_45 : xm_at xP 93 45 = some (45, .aload_n 0, 0, 0, 0, 0) := by decide +kernel
theorem xa_M_mend_46 : xm_at xP 93 46 = some (46, .invokevirtual 143, 91, 1, 3, 0) := by decide +kernel
theorem xa_M_mend_49 : xm_at xP 93 49 = some (49, .return_, 0, 0, 0, 0) := by decide +kernel
theorem xa_M_hold_0 : xm_at xP 94 0 = some (0, .aload_n 0, 0, 0, 0, 0) := by decide +kernel
theorem xa_M_hold_1 : xm_at xP 94 1 = some (1, .iload_n 1, 0, 0, 0, 0) := by decide +kernel
theorem xa_M_hold_2 : xm_at xP 94 2 = some (2, .ifCond .lt 10, 12, 0, 0, 0) := by decide +kernel
theorem xa_M_hold_5 : xm_at xP 94 5 = some (5, .iload_n 1, 0, 0, 0, 0) := by decide +kernel
theorem xa_M_hold_6 : xm_at xP 94 6 = some (6, .sipush 1000, 0, 0, 0, 0) := by decide +kernel
theorem xa_M_hold_9 : xm_at xP 94 9 = some (9, .if_icmp .le 7, 16, 0, 0, 0) := by decide +kernel
theorem xa_M_hold_12 : xm_at xP 94 12 = some (12, .iconst 1, 0, 0, 0, 0) := by decide +kernel
theorem xa_M_hold_13 : xm_at xP 94 13 = some (13, .goto 4, 17, 0, 0, 0) := by decide +kernel
theorem xa_M_hold_16 : xm_at xP 94 16 = some (16, .iconst 0, 0, 0, 0, 0) := by decide +kernel
theorem xa_M_hold_17 : xm_at xP 94 17 = some (17, .putfield 66, 3, 0, 0, 0) := by decide +kernel
theorem xa_M_hold_20 : xm_at xP 94 20 = some (20, .aload_n 0, 0, 0, 0, 0) := by decide +kernel
theorem xa_M_hold_21 : xm_at xP 94 21 = some (21, .getfield 66, 3, 0, 0, 0) := by decide +kernel
theorem xa_M_hold_24 : xm_at xP 94 24 = some (24, .ifCond .le 4, 28, 0, 0, 0) := by decide +kernel
theorem xa_M_hold_27 : xm_at xP 94 27 = some (27, .return_, 0, 0, 0, 0) := by decide +kernel
theorem xa_M_hold_28 : xm_at xP 94 28 = some (28, .aload_n 0, 0, 0, 0, 0) := by decide +kernel
theorem xa_M_hold_29 : xm_at xP 94 29 = some (29, .iload_n 1, 0, 0, 0, 0) := by decide +kernel
theorem xa_M_hold_30 : xm_at xP 94 30 = some (30, .putfield 76, 3, 7, 0, 0) := by decide +kernel
theorem xa_M_hold_33 : xm_at xP 94 33 = some (33, .aload_n 0, 0, 0, 0, 0) := by decide +kernel
theorem xa_M_hold_34 : xm_at xP 94 34 = some (34, .invokevirtual 143, 91, 1, 3, 0) := by decide +kernel
theorem xa_M_hold_37 : xm_at xP 94 37 = some (37, .return_, 0, 0, 0, 0) := by decide +kernel
theorem xa_M_clock_0 : xm_at xP 95 0 = some (0, .aload_n 0, 0, 0, 0, 0) := by decide +kernel
theorem xa_M_clock_1 : xm_at xP 95 1 = some (1, .iconst 0, 0, 0, 0, 0) := by decide +kernel
theorem xa_M_clock_2 : xm_at xP 95 2 = some (2, .putfield 66, 3, 0, 0, 0) := by decide +kernel
theorem xa_M_clock_5 : xm_at xP 95 5 = some (5, .iconst 0, 0, 0, 0, 0) := by decide +kernel
theorem xa_M_clock_6 : xm_at xP 95 6 = some (6, .istore_n 1, 0, 0, 0, 0) := by decide +kernel
theorem xa_M_clock_7 : xm_at xP 95 7 = some (7, .iload_n 1, 0, 0, 0, 0) := by decide +kernel
theorem xa_M_clock_8 : xm_at xP 95 8 = some (8, .bipush 12, 0, 0, 0, 0) := by decide +kernel
theorem xa_M_clock_10 : xm_at xP 95 10 = some (10, .if_icmp .ge 63, 73, 0, 0, 0) := by decide +kernel
theorem xa_M_clock_13 : xm_at xP 95 13 = some (13, .aload_n 0, 0, 0, 0, 0) := by decide +kernel
theorem xa_M_clock_14 : xm_at xP 95 14 = some (14, .getfield 51, 3, 16, 0, 0) := by decide +kernel
theorem xa_M_clock_17 : xm_at xP 95 17 = some (17, .iload_n 1, 0, 0, 0, 0) := by decide +kernel
theorem xa_M_clock_18 : xm_at xP 95 18 = some (18, .aload_n 0, 0, 0, 0, 0) := by decide +kernel
theorem xa_M_clock_19 : xm_at xP 95 19 = some (19, .getfield 27, 3, 8, 0, 0) := by decide +kernel
theorem xa_M_clock_22 : xm_at xP 95 22 = some (22, .iload_n 1, 0, 0, 0, 0) := by decide +kernel
theorem xa_M_clock_23 : xm_at xP 95 23 = some (23, .baload, 0, 0, 0, 0) := by decide +kernel
theorem xa_M_clock_24 : xm_at xP 95 24 = some (24, .ifCond .eq 36, 60, 0, 0, 0) := by decide +kernel
theorem xa_M_clock_27 : xm_at xP 95 27 = some (27, .aload_n 0, 0, 0, 0, 0) := by decide +kernel
theorem xa_M_clock_28 : xm_at xP 95 28 = some (28, .getfield 48, 3, 15, 0, 0) := by decide +kernel
theorem xa_M_clock_31 : xm_at xP 95 31 = some (31, .iload_n 1, 0, 0, 0, 0) := by decide +kernel
theorem xa_M_clock_32 : xm_at xP 95 32 = some (32, .iaload, 0, 0, 0, 0) := by decide +kernel
theorem xa_M_clock_33 : xm_at xP 95 33 = some (33, .ifCond .eq 27, 60, 0, 0, 0) := by decide +kernel
theorem xa_M_clock_36 : xm_at xP 95 36 = some (36, .aload_n 0, 0, 0, 0, 0) := by decide +kernel
theorem xa_M_clock_37 : xm_at xP 95 37 = some (37, .aload_n 0, 0, 0, 0, 0) := by decide +kernel
theorem xa_M_clock_38 : xm_at xP 95 38 = some (38, .getfield 42, 3, 13, 0, 0) := by decide +kernel
theorem xa_M_clock_41 : xm_at xP 95 41 = some (41, .iload_n 1, 0, 0, 0, 0) := by decide +kernel
theorem xa_M_clock_42 : xm_at xP 95 42 = some (42, .iaload, 0, 0, 0, 0) := by decide +kernel
theorem xa_M_clock_43 : xm_at xP 95 43 = some (43, .invokevirtual 140, 92, 2, 3, 0) := by decide +kernel
theorem xa_M_clock_46 : xm_at xP 95 46 = some (46, .ifCond .eq 14, 60, 0, 0, 0) := by decide +kernel
theorem xa_M_clock_49 : xm_at xP 95 49 = some (49, .aload_n 0, 0, 0, 0, 0) := by decide +kernel
theorem xa_M_clock_50 : xm_at xP 95 50 = some (50, .getfield 51, 3, 16, 0, 0) := by decide +kernel
theorem xa_M_clock_53 : xm_at xP 95 53 = some (53, .iload_n 1, 0, 0, 0, 0) := by decide +kernel
theorem xa_M_clock_54 : xm_at xP 95 54 = some (54, .iaload, 0, 0, 0, 0) := by decide +kernel
theorem xa_M_clock_55 : xm_at xP 95 55 = some (55, .iconst 1, 0, 0, 0, 0) := by decide +kernel
theorem xa_M_clock_56 : xm_at xP 95 56 = some (56, .iadd, 0, 0, 0, 0) := by decide +kernel
theorem xa_M_clock_57 : xm_at xP 95 57 = some (57, .goto 9, 66, 0, 0, 0) := by decide +kernel
theorem xa_M_clock_60 : xm_at xP 95 60 = some (60, .aload_n 0, 0, 0, 0, 0) := by decide +kernel
theorem xa_M_clock_61 : xm_at xP 95 61 = some (61, .getfield 51, 3, 16, 0, 0) := by decide +kernel
theorem xa_M_clock_64 : xm_at xP 95 64 = some (64, .iload_n 1, 0, 0, 0, 0) := by decide +kernel
theorem xa_M_clock_65 : xm_at xP 95 65 = some (65, .iaload, 0, 0, 0, 0) := by decide +kernel
theorem xa_M_clock_66 : xm_at xP 95 66 = some (66, .iastore, 0, 0, 0, 0) := by decide +kernel
theorem xa_M_clock_67 : xm_at xP 95 67 = some (67, .iinc 1 1, 0, 0, 0, 0) := by decide +kernel
theorem xa_M_clock_70 : xm_at xP 95 70 = some (70, .goto (-63), 7, 0, 0, 0) := by decide +kernel
theorem xa_M_clock_73 : xm_at xP 95 73 = some (73, .aload_n 0, 0, 0, 0, 0) := by decide +kernel
theorem xa_M_clock_74 : xm_at xP 95 74 = some (74, .invokevirtual 143, 91, 1, 3, 0) := by decide +kernel
theorem xa_M_clock_77 : xm_at xP 95 77 = some (77, .return_, 0, 0, 0, 0) := by decide +kernel
theorem xa_M_move_0 : xm_at xP 96 0 = some (0, .aload_n 0, 0, 0, 0, 0) := by decide +kernel
theorem xa_M_move_1 : xm_at xP 96 1 = some (1, .aload_n 0, 0, 0, 0, 0) := by decide +kernel
theorem xa_M_move_2 : xm_at xP 96 2 = some (2, .iload_n 1, 0, 0, 0, 0) := by decide +kernel
theorem xa_M_move_3 : xm_at xP 96 3 = some (3, .invokevirtual 134, 87, 2, 3, 0) := by decide +kernel
theorem xa_M_move_6 : xm_at xP 96 6 = some (6, .ifCond .eq 7, 13, 0, 0, 0) := by decide +kernel
theorem xa_M_move_9 : xm_at xP 96 9 = some (9, .iconst 1, 0, 0, 0, 0) := by decide +kernel
theorem xa_M_move_10 : xm_at xP 96 10 = some (10, .goto 4, 14, 0, 0, 0) := by decide +kernel
theorem xa_M_move_13 : xm_at xP 96 13 = some (13, .iconst 0, 0, 0, 0, 0) := by decide +kernel
theorem xa_M_move_14 : xm_at xP 96 14 = some (14, .putfield 66, 3, 0, 0, 0) := by decide +kernel
theorem xa_M_move_17 : xm_at xP 96 17 = some (17, .aload_n 0, 0, 0, 0, 0) := by decide +kernel
theorem xa_M_move_18 : xm_at xP 96 18 = some (18, .getfield 66, 3, 0, 0, 0) := by decide +kernel
theorem xa_M_move_21 : xm_at xP 96 21 = some (21, .ifCond .le 5, 26, 0, 0, 0) := by decide +kernel
theorem xa_M_move_24 : xm_at xP 96 24 = some (24, .iconst 0, 0, 0, 0, 0) := by decide +kernel
theorem xa_M_move_25 : xm_at xP 96 25 = some (25, .ireturn, 0, 0, 0, 0) := by decide +kernel
theorem xa_M_move_26 : xm_at xP 96 26 = some (26, .aload_n 0, 0, 0, 0, 0) := by decide +kernel
theorem xa_M_move_27 : xm_at xP 96 27 = some (27, .getfield 39, 3, 12, 0, 0) := by decide +kernel
theorem xa_M_move_30 : xm_at xP 96 30 = some (30, .iload_n 1, 0, 0, 0, 0) := by decide +kernel
theorem xa_M_move_31 : xm_at xP 96 31 = some (31, .iaload, 0, 0, 0, 0) := by decide +kernel
theorem xa_M_move_32 : xm_at xP 96 32 = some (32, .iconst 1, 0, 0, 0, 0) := by decide +kernel
theorem xa_M_move_33 : xm_at xP 96 33 = some (33, .iadd, 0, 0, 0, 0) := by decide +kernel
theorem xa_M_move_34 : xm_at xP 96 34 = some (34, .istore_n 2, 0, 0, 0, 0) := by decide +kernel
theorem xa_M_move_35 : xm_at xP 96 35 = some (35, .iload_n 2, 0, 0, 0, 0) := by decide +kernel
theorem xa_M_move_36 : xm_at xP 96 36 = some (36, .iconst 4, 0, 0, 0, 0) := by decide +kernel
theorem xa_M_move_37 : xm_at xP 96 37 = some (37, .if_icmp .ge 43, 80, 0, 0, 0) := by decide +kernel
theorem xa_M_move_40 : xm_at xP 96 40 = some (40, .aload_n 0, 0, 0, 0, 0) := by decide +kernel
theorem xa_M_move_41 : xm_at xP 96 41 = some (41, .iload_n 2, 0, 0, 0, 0) := by decide +kernel
theorem xa_M_move_42 : xm_at xP 96 42 = some (42, .aload_n 0, 0, 0, 0, 0) := by decide +kernel
theorem xa_M_move_43 : xm_at xP 96 43 = some (43, .getfield 33, 3, 10, 0, 0) := by decide +kernel
theorem xa_M_move_46 : xm_at xP 96 46 = some (46, .iload_n 1, 0, 0, 0, 0) := by decide +kernel
theorem xa_M_move_47 : xm_at xP 96 47 = some (47, .iaload, 0, 0, 0, 0) := by decide +kernel
theorem xa_M_move_48 : xm_at xP 96 48 = some (48, .aload_n 0, 0, 0, 0, 0) := by decide +kernel
theorem xa_M_move_49 : xm_at xP 96 49 = some (49, .getfield 36, 3, 11, 0, 0) := by decide +kernel
theorem xa_M_move_52 : xm_at xP 96 52 = some (52, .iload_n 1, 0, 0, 0, 0) := by decide +kernel
theorem xa_M_move_53 : xm_at xP 96 53 = some (53, .iaload, 0, 0, 0, 0) := by decide +kernel
theorem xa_M_move_54 : xm_at xP 96 54 = some (54, .aload_n 0, 0, 0, 0, 0) := by decide +kernel
theorem xa_M_move_55 : xm_at xP 96 55 = some (55, .getfield 30, 3, 9, 0, 0) := by decide +kernel
theorem xa_M_move_58 : xm_at xP 96 58 = some (58, .iload_n 1, 0, 0, 0, 0) := by decide +kernel
theorem xa_M_move_59 : xm_at xP 96 59 = some (59, .baload, 0, 0, 0, 0) := by decide +kernel
theorem xa_M_move_60 : xm_at xP 96 60 = some (60, .invokevirtual 126, 75, 5, 3, 0) := by decide +kernel
theorem xa_M_move_63 : xm_at xP 96 63 = some (63, .ifCond .eq 11, 74, 0, 0, 0) := by decide +kernel
theorem xa_M_move_66 : xm_at xP 96 66 = some (66, .aload_n 0, 0, 0, 0, 0) := by decide +kernel
theorem xa_M_move_67 : xm_at xP 96 67 = some (67, .iload_n 1, 0, 0, 0, 0) := by decide +kernel
theorem xa_M_move_68 : xm_at xP 96 68 = some (68, .iload_n 2, 0, 0, 0, 0) := by decide +kernel
theorem xa_M_move_69 : xm_at xP 96 69 = some (69, .invokevirtual 130, 85, 3, 3, 0) := by decide +kernel
theorem xa_M_move_72 : xm_at xP 96 72 = some (72, .iload_n 2, 0, 0, 0, 0) := by decide +kernel
theorem xa_M_move_73 : xm_at xP 96 73 = some (73, .ireturn, 0, 0, 0, 0) := by decide +kernel
theorem xa_M_move_74 : xm_at xP 96 74 = some (74, .iinc 2 1, 0, 0, 0, 0) := by decide +kernel
theorem xa_M_move_77 : xm_at xP 96 77 = some (77, .goto (-42), 35, 0, 0, 0) := by decide +kernel
theorem xa_M_move_80 : xm_at xP 96 80 = some (80, .iconst (-1), 0, 0, 0, 0) := by decide +kernel
theorem xa_M_move_81 : xm_at xP 96 81 = some (81, .ireturn, 0, 0, 0, 0) := by decide +kernel
theorem xa_M_about_0 : xm_at xP 98 0 = some (0, .aload_n 0, 0, 0, 0, 0) := by decide +kernel
theorem xa_M_about_1 : xm_at xP 98 1 = some (1, .aload_n 0, 0, 0, 0, 0) := by decide +kernel
theorem xa_M_about_2 : xm_at xP 98 2 = some (2, .iload_n 1, 0, 0, 0, 0) := by decide +kernel
theorem xa_M_about_3 : xm_at xP 98 3 = some (3, .invokevirtual 134, 87, 2, 3, 0) := by decide +kernel
theorem xa_M_about_6 : xm_at xP 98 6 = some (6, .ifCond .eq 7, 13, 0, 0, 0) := by decide +kernel
theorem xa_M_about_9 : xm_at xP 98 9 = some (9, .iconst 1, 0, 0, 0, 0) := by decide +kernel
theorem xa_M_about_10 : xm_at xP 98 10 = some (10, .goto 18, 28, 0, 0, 0) := by decide +kernel
theorem xa_M_about_13 : xm_at xP 98 13 = some (13, .iload_n 2, 0, 0, 0, 0) := by decide +kernel
theorem xa_M_about_14 : xm_at xP 98 14 = some (14, .ifCond .lt 9, 23, 0, 0, 0) := by decide +kernel
theorem xa_M_about_17 : xm_at xP 98 17 = some (17, .iload_n 2, 0, 0, 0, 0) := by decide +kernel
theorem xa_M_about_18 : xm_at xP 98 18 = some (18, .bipush 6, 0, 0, 0, 0) := by decide +kernel
theorem xa_M_about_20 : xm_at xP 98 20 = some (20, .if_icmp .le 7, 27, 0, 0, 0) := by decide +kernel
theorem xa_M_about_23 : xm_at xP 98 23 = some (23, .iconst 2, 0, 0, 0, 0) := by decide +kernel
theorem xa_M_about_24 : xm_at xP 98 24 = some (24, .goto 4, 28, 0, 0, 0) := by decide +kernel
theorem xa_M_about_27 : xm_at xP 98 27 = some (27, .iconst 0, 0, 0, 0, 0) := by decide +kernel
theorem xa_M_about_28 : xm_at xP 98 28 = some (28, .putfield 66, 3, 0, 0, 0) := by decide +kernel
theorem xa_M_about_31 : xm_at xP 98 31 = some (31, .aload_n 0, 0, 0, 0, 0) := by decide +kernel
theorem xa_M_about_32 : xm_at xP 98 32 = some (32, .getfield 66, 3, 0, 0, 0) := by decide +kernel
theorem xa_M_about_35 : xm_at xP 98 35 = some (35, .ifCond .le 5, 40, 0, 0, 0) := by decide +kernel
theorem xa_M_about_38 : xm_at xP 98 38 = some (38, .iconst 0, 0, 0, 0, 0) := by decide +kernel
theorem xa_M_about_39 : xm_at xP 98 39 = some (39, .ireturn, 0, 0, 0, 0) := by decide +kernel
theorem xa_M_about_40 : xm_at xP 98 40 = some (40, .iload_n 2, 0, 0, 0, 0) := by decide +kernel
theorem xa_M_about_41 : xm_at xP 98 41 = some (41, .tableswitch 102 0 5 #[39, 46, 53, 60, 71, 95], 0, 0, 39, 0) := by decide +kernel
theorem xa_M_about_80 : xm_at xP 98 80 = some (80, .aload_n 0, 0, 0, 0, 0) := by decide +kernel
theorem xa_M_about_81 : xm_at xP 98 81 = some (81, .getfield 39, 3, 12, 0, 0) := by decide +kernel
theorem xa_M_about_84 : xm_at xP 98 84 = some (84, .iload_n 1, 0, 0, 0, 0) := by decide +kernel
theorem xa_M_about_85 : xm_at xP 98 85 = some (85, .iaload, 0, 0, 0, 0) := by decide +kernel
theorem xa_M_about_86 : xm_at xP 98 86 = some (86, .ireturn, 0, 0, 0, 0) := by decide +kernel
theorem xa_M_about_87 : xm_at xP 98 87 = some (87, .aload_n 0, 0, 0, 0, 0) := by decide +kernel
theorem xa_M_about_88 : xm_at xP 98 88 = some (88, .getfield 33, 3, 10, 0, 0) := by decide +kernel
theorem xa_M_about_91 : xm_at xP 98 91 = some (91, .iload_n 1, 0, 0, 0, 0) := by decide +kernel
theorem xa_M_about_92 : xm_at xP 98 92 = some (92, .iaload, 0, 0, 0, 0) := by decide +kernel
theorem xa_M_about_93 : xm_at xP 98 93 = some (93, .ireturn, 0, 0, 0, 0) := by decide +kernel
theorem xa_M_about_94 : xm_at xP 98 94 = some (94, .aload_n 0, 0, 0, 0, 0) := by decide +kernel
theorem xa_M_about_95 : xm_at xP 98 95 = some (95, .getfield 36, 3, 11, 0, 0) := by decide +kernel
theorem xa_M_about_98 : xm_at xP 98 98 = some (98, .iload_n 1, 0, 0, 0, 0) := by decide +kernel
theorem xa_M_about_99 : xm_at xP 98 99 = some (99, .iaload, 0, 0, 0, 0) := by decide +kernel
theorem xa_M_about_100 : xm_at xP 98 100 = some (100, .ireturn, 0, 0, 0, 0) := by decide +kernel
theorem xa_M_about_101 : xm_at xP 98 101 = some (101, .aload_n 0, 0, 0, 0, 0) := by decide +kernel
theorem xa_M_about_102 : xm_at xP 98 102 = some (102, .aload_n 0, 0, 0, 0, 0) := by decide +kernel
theorem xa_M_about_103 : xm_at xP 98 103 = some (103, .getfield 42, 3, 13, 0, 0) := by decide +kernel
theorem xa_M_about_106 : xm_at xP 98 106 = some (106, .iload_n 1, 0, 0, 0, 0) := by decide +kernel
theorem xa_M_about_107 : xm_at xP 98 107 = some (107, .iaload, 0, 0, 0, 0) := by decide +kernel
theorem xa_M_about_108 : xm_at xP 98 108 = some (108, .invokevirtual 89, 81, 2, 3, 0) := by decide +kernel
theorem xa_M_about_111 : xm_at xP 98 111 = some (111, .ireturn, 0, 0, 0, 0) := by decide +kernel
theorem xa_M_about_112 : xm_at xP 98 112 = some (112, .aload_n 0, 0, 0, 0, 0) := by decide +kernel
theorem xa_M_about_113 : xm_at xP 98 113 = some (113, .getfield 30, 3, 9, 0, 0) := by decide +kernel
theorem xa_M_about_116 : xm_at xP 98 116 = some (116, .iload_n 1, 0, 0, 0, 0) := by decide +kernel
theorem xa_M_about_117 : xm_at xP 98 117 = some (117, .baload, 0, 0, 0, 0) := by decide +kernel
theorem xa_M_about_118 : xm_at xP 98 118 = some (118, .ifCond .eq 16, 134, 0, 0, 0) := by decide +kernel
theorem xa_M_about_121 : xm_at xP 98 121 = some (121, .aload_n 0, 0, 0, 0, 0) := by decide +kernel
theorem xa_M_about_122 : xm_at xP 98 122 = some (122, .aload_n 0, 0, 0, 0, 0) := by decide +kernel
theorem xa_M_about_123 : xm_at xP 98 123 = some (123, .getfield 45, 3, 14, 0, 0) := by decide +kernel
theorem xa_M_about_126 : xm_at xP 98 126 = some (126, .iload_n 1, 0, 0, 0, 0) := by decide +kernel
theorem xa_M_about_127 : xm_at xP 98 127 = some (127, .iaload, 0, 0, 0, 0) := by decide +kernel
theorem xa_M_about_128 : xm_at xP 98 128 = some (128, .invokevirtual 89, 81, 2, 3, 0) := by decide +kernel
theorem xa_M_about_131 : xm_at xP 98 131 = some (131, .goto 4, 135, 0, 0, 0) := by decide +kernel
theorem xa_M_about_134 : xm_at xP 98 134 = some (134, .iconst (-1), 0, 0, 0, 0) := by decide +kernel
theorem xa_M_about_135 : xm_at xP 98 135 = some (135, .ireturn, 0, 0, 0, 0) := by decide +kernel
theorem xa_M_about_136 : xm_at xP 98 136 = some (136, .aload_n 0, 0, 0, 0, 0) := by decide +kernel
theorem xa_M_about_137 : xm_at xP 98 137 = some (137, .getfield 48, 3, 15, 0, 0) := by decide +kernel
theorem xa_M_about_140 : xm_at xP 98 140 = some (140, .iload_n 1, 0, 0, 0, 0) := by decide +kernel
theorem xa_M_about_141 : xm_at xP 98 141 = some (141, .iaload, 0, 0, 0, 0) := by decide +kernel
theorem xa_M_about_142 : xm_at xP 98 142 = some (142, .ireturn, 0, 0, 0, 0) := by decide +kernel
theorem xa_M_about_143 : xm_at xP 98 143 = some (143, .aload_n 0, 0, 0, 0, 0) := by decide +kernel
theorem xa_M_about_144 : xm_at xP 98 144 = some (144, .getfield 51, 3, 16, 0, 0) := by decide +kernel
theorem xa_M_about_147 : xm_at xP 98 147 = some (147, .iload_n 1, 0, 0, 0, 0) := by decide +kernel
theorem xa_M_about_148 : xm_at xP 98 148 = some (148, .iaload, 0, 0, 0, 0) := by decide +kernel
theorem xa_M_about_149 : xm_at xP 98 149 = some (149, .ireturn, 0, 0, 0, 0) := by decide +kernel
theorem xa_M_user_0 : xm_at xP 99 0 = some (0, .aload_n 0, 0, 0, 0, 0) := by decide +kernel
theorem xa_M_user_1 : xm_at xP 99 1 = some (1, .aload_n 0, 0, 0, 0, 0) := by decide +kernel
theorem xa_M_user_2 : xm_at xP 99 2 = some (2, .iload_n 1, 0, 0, 0, 0) := by decide +kernel
theorem xa_M_user_3 : xm_at xP 99 3 = some (3, .invokevirtual 137, 89, 2, 3, 0) := by decide +kernel
theorem xa_M_user_6 : xm_at xP 99 6 = some (6, .ifCond .ne 12, 18, 0, 0, 0) := by decide +kernel
theorem xa_M_user_9 : xm_at xP 99 9 = some (9, .iload_n 2, 0, 0, 0, 0) := by decide +kernel
theorem xa_M_user_10 : xm_at xP 99 10 = some (10, .ifCond .lt 8, 18, 0, 0, 0) := by decide +kernel
theorem xa_M_user_13 : xm_at xP 99 13 = some (13, .iload_n 2, 0, 0, 0, 0) := by decide +kernel
theorem xa_M_user_14 : xm_at xP 99 14 = some (14, .iconst 3, 0, 0, 0, 0) := by decide +kernel
theorem xa_M_user_15 : xm_at xP 99 15 = some (15, .if_icmp .le 7, 22, 0, 0, 0) := by decide +kernel
theorem xa_M_user_18 : xm_at xP 99 18 = some (18, .iconst 1, 0, 0, 0, 0) := by decide +kernel
theorem xa_M_user_19 : xm_at xP 99 19 = some (19, .goto 4, 23, 0, 0, 0) := by decide +kernel
theorem xa_M_user_22 : xm_at xP 99 22 = some (22, .iconst 0, 0, 0, 0, 0) := by decide +kernel
theorem xa_M_user_23 : xm_at xP 99 23 = some (23, .putfield 66, 3, 0, 0, 0) := by decide +kernel
theorem xa_M_user_26 : xm_at xP 99 26 = some (26, .aload_n 0, 0, 0, 0, 0) := by decide +kernel
theorem xa_M_user_27 : xm_at xP 99 27 = some (27, .getfield 66, 3, 0, 0, 0) := by decide +kernel
theorem xa_M_user_30 : xm_at xP 99 30 = some (30, .ifCond .le 7, 37, 0, 0, 0) := by decide +kernel
theorem xa_M_user_33 : xm_at xP 99 33 = some (33, .iconst 0, 0, 0, 0, 0) := by decide +kernel
theorem xa_M_user_34 : xm_at xP 99 34 = some (34, .goto 9, 43, 0, 0, 0) := by decide +kernel
theorem xa_M_user_37 : xm_at xP 99 37 = some (37, .aload_n 0, 0, 0, 0, 0) := by decide +kernel
theorem xa_M_user_38 : xm_at xP 99 38 = some (38, .iload_n 1, 0, 0, 0, 0) := by decide +kernel
theorem xa_M_user_39 : xm_at xP 99 39 = some (39, .iload_n 2, 0, 0, 0, 0) := by decide +kernel
theorem xa_M_user_40 : xm_at xP 99 40 = some (40, .invokevirtual 83, 77, 3, 3, 0) := by decide +kernel
theorem xa_M_user_43 : xm_at xP 99 43 = some (43, .ireturn, 0, 0, 0, 0) := by decide +kernel
theorem xa_M_fits_0 : xm_at xP 100 0 = some (0, .aload_n 0, 0, 0, 0, 0) := by decide +kernel
theorem xa_M_fits_1 : xm_at xP 100 1 = some (1, .aload_n 0, 0, 0, 0, 0) := by decide +kernel
theorem xa_M_fits_2 : xm_at xP 100 2 = some (2, .iload_n 1, 0, 0, 0, 0) := by decide +kernel
theorem xa_M_fits_3 : xm_at xP 100 3 = some (3, .invokevirtual 79, 72, 2, 3, 0) := by decide +kernel
theorem xa_M_fits_6 : xm_at xP 100 6 = some (6, .ifCond .ne 11, 17, 0, 0, 0) := by decide +kernel
theorem xa_M_fits_9 : xm_at xP 100 9 = some (9, .aload_n 0, 0, 0, 0, 0) := by decide +kernel
theorem xa_M_fits_10 : xm_at xP 100 10 = some (10, .iload_n 2, 0, 0, 0, 0) := by decide +kernel
theorem xa_M_fits_11 : xm_at xP 100 11 = some (11, .invokevirtual 79, 72, 2, 3, 0) := by decide +kernel
theorem xa_M_fits_14 : xm_at xP 100 14 = some (14, .ifCond .eq 7, 21, 0, 0, 0) := by decide +kernel
theorem xa_M_fits_17 : xm_at xP 100 17 = some (17, .iconst 1, 0, 0, 0, 0) := by decide +kernel
theorem xa_M_fits_18 : xm_at xP 100 18 = some (18, .goto 13, 31, 0, 0, 0) := by decide +kernel
theorem xa_M_fits_21 : xm_at xP 100 21 = some (21, .iload_n 1, 0, 0, 0, 0) := by decide +kernel
theorem xa_M_fits_22 : xm_at xP 100 22 = some (22, .iload_n 2, 0, 0, 0, 0) := by decide +kernel
theorem xa_M_fits_23 : xm_at xP 100 23 = some (23, .if_icmp .ne 7, 30, 0, 0, 0) := by decide +kernel
theorem xa_M_fits_26 : xm_at xP 100 26 = some (26, .iconst 2, 0, 0, 0, 0) := by decide +kernel
theorem xa_M_fits_27 : xm_at xP 100 27 = some (27, .goto 4, 31, 0, 0, 0) := by decide +kernel
theorem xa_M_fits_30 : xm_at xP 100 30 = some (30, .iconst 0, 0, 0, 0, 0) := by decide +kernel
theorem xa_M_fits_31 : xm_at xP 100 31 = some (31, .putfield 66, 3, 0, 0, 0) := by decide +kernel
theorem xa_M_fits_34 : xm_at xP 100 34 = some (34, .aload_n 0, 0, 0, 0, 0) := by decide +kernel
theorem xa_M_fits_35 : xm_at xP 100 35 = some (35, .getfield 66, 3, 0, 0, 0) := by decide +kernel
theorem xa_M_fits_38 : xm_at xP 100 38 = some (38, .ifCond .le 5, 43, 0, 0, 0) := by decide +kernel
theorem xa_M_fits_41 : xm_at xP 100 41 = some (41, .iconst 0, 0, 0, 0, 0) := by decide +kernel
theorem xa_M_fits_42 : xm_at xP 100 42 = some (42, .ireturn, 0, 0, 0, 0) := by decide +kernel
theorem xa_M_fits_43 : xm_at xP 100 43 = some (43, .iconst 0, 0, 0, 0, 0) := by decide +kernel
theorem xa_M_fits_44 : xm_at xP 100 44 = some (44, .istore_n 3, 0, 0, 0, 0) := by decide +kernel
theorem xa_M_fits_45 : xm_at xP 100 45 = some (45, .iconst 0, 0, 0, 0, 0) := by decide +kernel
theorem xa_M_fits_46 : xm_at xP 100 46 = some (46, .istore 4, 0, 0, 0, 0) := by decide +kernel
theorem xa_M_fits_48 : xm_at xP 100 48 = some (48, .iload 4, 0, 0, 0, 0) := by decide +kernel
theorem xa_M_fits_50 : xm_at xP 100 50 = some (50, .iconst 4, 0, 0, 0, 0) := by decide +kernel
theorem xa_M_fits_51 : xm_at xP 100 51 = some (51, .if_icmp .ge 27, 78, 0, 0, 0) := by decide +kernel
theorem xa_M_fits_54 : xm_at xP 100 54 = some (54, .aload_n 0, 0, 0, 0, 0) := by decide +kernel
theorem xa_M_fits_55 : xm_at xP 100 55 = some (55, .aload_n 0, 0, 0, 0, 0) := by decide +kernel
theorem xa_M_fits_56 : xm_at xP 100 56 = some (56, .iload 4, 0, 0, 0, 0) := by decide +kernel
theorem xa_M_fits_58 : xm_at xP 100 58 = some (58, .invokevirtual 112, 76, 2, 3, 0) := by decide +kernel
theorem xa_M_fits_61 : xm_at xP 100 61 = some (61, .iload_n 1, 0, 0, 0, 0) := by decide +kernel
theorem xa_M_fits_62 : xm_at xP 100 62 = some (62, .iload_n 2, 0, 0, 0, 0) := by decide +kernel
theorem xa_M_fits_63 : xm_at xP 100 63 = some (63, .invokevirtual 115, 79, 4, 3, 0) := by decide +kernel
theorem xa_M_fits_66 : xm_at xP 100 66 = some (66, .ifCond .eq 6, 72, 0, 0, 0) := by decide +kernel
theorem xa_M_fits_69 : xm_at xP 100 69 = some (69, .iinc 3 1, 0, 0, 0, 0) := by decide +kernel
theorem xa_M_fits_72 : xm_at xP 100 72 = some (72, .iinc 4 1, 0, 0, 0, 0) := by decide +kernel
theorem xa_M_fits_75 : xm_at xP 100 75 = some (75, .goto (-27), 48, 0, 0, 0) := by decide +kernel
theorem xa_M_fits_78 : xm_at xP 100 78 = some (78, .iload_n 3, 0, 0, 0, 0) := by decide +kernel
theorem xa_M_fits_79 : xm_at xP 100 79 = some (79, .ireturn, 0, 0, 0, 0) := by decide +kernel
theorem xa_M_bridge_0 : xm_at xP 101 0 = some (0, .aload_n 0, 0, 0, 0, 0) := by decide +kernel
theorem xa_M_bridge_1 : xm_at xP 101 1 = some (1, .aload_n 0, 0, 0, 0, 0) := by decide +kernel
theorem xa_M_bridge_2 : xm_at xP 101 2 = some (2, .iload_n 1, 0, 0, 0, 0) := by decide +kernel
theorem xa_M_bridge_3 : xm_at xP 101 3 = some (3, .invokevirtual 79, 72, 2, 3, 0) := by decide +kernel
theorem xa_M_bridge_6 : xm_at xP 101 6 = some (6, .ifCond .ne 20, 26, 0, 0, 0) := by decide +kernel
theorem xa_M_bridge_9 : xm_at xP 101 9 = some (9, .aload_n 0, 0, 0, 0, 0) := by decide +kernel
theorem xa_M_bridge_10 : xm_at xP 101 10 = some (10, .iload_n 2, 0, 0, 0, 0) := by decide +kernel
theorem xa_M_bridge_11 : xm_at xP 101 11 = some (11, .invokevirtual 79, 72, 2, 3, 0) := by decide +kernel
theorem xa_M_bridge_14 : xm_at xP 101 14 = some (14, .ifCond .ne 12, 26, 0, 0, 0) := by decide +kernel
theorem xa_M_bridge_17 : xm_at xP 101 17 = some (17, .iload_n 3, 0, 0, 0, 0) := by decide +kernel
theorem xa_M_bridge_18 : xm_at xP 101 18 = some (18, .ifCond .lt 8, 26, 0, 0, 0) := by decide +kernel
theorem xa_M_bridge_21 : xm_at xP 101 21 = some (21, .iload_n 3, 0, 0, 0, 0) := by decide +kernel
theorem xa_M_bridge_22 : xm_at xP 101 22 = some (22, .iconst 3, 0, 0, 0, 0) := by decide +kernel
theorem xa_M_bridge_23 : xm_at xP 101 23 = some (23, .if_icmp .le 7, 30, 0, 0, 0) := by decide +kernel
theorem xa_M_bridge_26 : xm_at xP 101 26 = some (26, .iconst 1, 0, 0, 0, 0) := by decide +kernel
theorem xa_M_bridge_27 : xm_at xP 101 27 = some (27, .goto 13, 40, 0, 0, 0) := by decide +kernel
theorem xa_M_bridge_30 : xm_at xP 101 30 = some (30, .iload_n 1, 0, 0, 0, 0) := by decide +kernel
theorem xa_M_bridge_31 : xm_at xP 101 31 = some (31, .iload_n 2, 0, 0, 0, 0) := by decide +kernel
theorem xa_M_bridge_32 : xm_at xP 101 32 = some (32, .if_icmp .ne 7, 39, 0, 0, 0) := by decide +kernel
theorem xa_M_bridge_35 : xm_at xP 101 35 = some (35, .iconst 2, 0, 0, 0, 0) := by decide +kernel
theorem xa_M_bridge_36 : xm_at xP 101 36 = some (36, .goto 4, 40, 0, 0, 0) := by decide +kernel
theorem xa_M_bridge_39 : xm_at xP 101 39 = some (39, .iconst 0, 0, 0, 0, 0) := by decide +kernel
theorem xa_M_bridge_40 : xm_at xP 101 40 = some (40, .putfield 66, 3, 0, 0, 0) := by decide +kernel
theorem xa_M_bridge_43 : xm_at xP 101 43 = some (43, .aload_n 0, 0, 0, 0, 0) := by decide +kernel
theorem xa_M_bridge_44 : xm_at xP 101 44 = some (44, .getfield 66, 3, 0, 0, 0) := by decide +kernel
theorem xa_M_bridge_47 : xm_at xP 101 47 = some (47, .ifCond .le 5, 52, 0, 0, 0) := by decide +kernel
theorem xa_M_bridge_50 : xm_at xP 101 50 = some (50, .iconst 0, 0, 0, 0, 0) := by decide +kernel
theorem xa_M_bridge_51 : xm_at xP 101 51 = some (51, .ireturn, 0, 0, 0, 0) := by decide +kernel
theorem xa_M_bridge_52 : xm_at xP 101 52 = some (52, .aload_n 0, 0, 0, 0, 0) := by decide +kernel
theorem xa_M_bridge_53 : xm_at xP 101 53 = some (53, .iload_n 3, 0, 0, 0, 0) := by decide +kernel
theorem xa_M_bridge_54 : xm_at xP 101 54 = some (54, .invokevirtual 112, 76, 2, 3, 0) := by decide +kernel
theorem xa_M_bridge_57 : xm_at xP 101 57 = some (57, .istore 4, 0, 0, 0, 0) := by decide +kernel
theorem xa_M_bridge_59 : xm_at xP 101 59 = some (59, .aload_n 0, 0, 0, 0, 0) := by decide +kernel
theorem xa_M_bridge_60 : xm_at xP 101 60 = some (60, .iload 4, 0, 0, 0, 0) := by decide +kernel
theorem xa_M_bridge_62 : xm_at xP 101 62 = some (62, .iload_n 1, 0, 0, 0, 0) := by decide +kernel
theorem xa_M_bridge_63 : xm_at xP 101 63 = some (63, .iload_n 2, 0, 0, 0, 0) := by decide +kernel
theorem xa_M_bridge_64 : xm_at xP 101 64 = some (64, .invokevirtual 97, 80, 4, 3, 0) := by decide +kernel
theorem xa_M_bridge_67 : xm_at xP 101 67 = some (67, .aload_n 0, 0, 0, 0, 0) := by decide +kernel
theorem xa_M_bridge_68 : xm_at xP 101 68 = some (68, .getfield 86, 3, 17, 0, 0) := by decide +kernel
theorem xa_M_bridge_71 : xm_at xP 101 71 = some (71, .ifCond .ne 5, 76, 0, 0, 0) := by decide +kernel
theorem xa_M_bridge_74 : xm_at xP 101 74 = some (74, .iconst (-1), 0, 0, 0, 0) := by decide +kernel
theorem xa_M_bridge_75 : xm_at xP 101 75 = some (75, .ireturn, 0, 0, 0, 0) := by decide +kernel
theorem xa_M_bridge_76 : xm_at xP 101 76 = some (76, .iload 4, 0, 0, 0, 0) := by decide +kernel
theorem xa_M_bridge_78 : xm_at xP 101 78 = some (78, .istore 5, 0, 0, 0, 0) := by decide +kernel
theorem xa_M_bridge_80 : xm_at xP 101 80 = some (80, .iconst 0, 0, 0, 0, 0) := by decide +kernel
theorem xa_M_bridge_81 : xm_at xP 101 81 = some (81, .istore 6, 0, 0, 0, 0) := by decide +kernel
theorem xa_M_bridge_83 : xm_at xP 101 83 = some (83, .iload 6, 0, 0, 0, 0) := by decide +kernel
theorem xa_M_bridge_85 : xm_at xP 101 85 = some (85, .aload_n 0, 0, 0, 0, 0) := by decide +kernel
theorem xa_M_bridge_86 : xm_at xP 101 86 = some (86, .getfield 86, 3, 17, 0, 0) := by decide +kernel
theorem xa_M_bridge_89 : xm_at xP 101 89 = some (89, .if_icmp .ge 21, 110, 0, 0, 0) := by decide +kernel
theorem xa_M_bridge_92 : xm_at xP 101 92 = some (92, .iload 5, 0, 0, 0, 0) := by decide +kernel
theorem xa_M_bridge_94 : xm_at xP 101 94 = some (94, .aload_n 0, 0, 0, 0, 0) := by decide +kernel
theorem xa_M_bridge_95 : xm_at xP 101 95 = some (95, .getfield 54, 3, 18, 0, 0) := by decide +kernel
theorem xa_M_bridge_98 : xm_at xP 101 98 = some (98, .iload 6, 0, 0, 0, 0) := by decide +kernel
theorem xa_M_bridge_100 : xm_at xP 101 100 = some (100, .iaload, 0, 0, 0, 0) := by decide +kernel
theorem xa_M_bridge_101 : xm_at xP 101 101 = some (101, .iand, 0, 0, 0, 0) := by decide +kernel
theorem xa_M_bridge_102 : xm_at xP 101 102 = some (102, .istore 5, 0, 0, 0, 0) := by decide +kernel
theorem xa_M_bridge_104 : xm_at xP 101 104 = some (104, .iinc 6 1, 0, 0, 0, 0) := by decide +kernel
theorem xa_M_bridge_107 : xm_at xP 101 107 = some (107, .goto (-24), 83, 0, 0, 0) := by decide +kernel
theorem xa_M_bridge_110 : xm_at xP 101 110 = some (110, .iconst 0, 0, 0, 0, 0) := by decide +kernel
theorem xa_M_bridge_111 : xm_at xP 101 111 = some (111, .istore 6, 0, 0, 0, 0) := by decide +kernel
theorem xa_M_bridge_113 : xm_at xP 101 113 = some (113, .iload 6, 0, 0, 0, 0) := by decide +kernel
theorem xa_M_bridge_115 : xm_at xP 101 115 = some (115, .aload_n 0, 0, 0, 0, 0) := by decide +kernel
theorem xa_M_bridge_116 : xm_at xP 101 116 = some (116, .getfield 69, 3, 2, 0, 0) := by decide +kernel
theorem xa_M_bridge_119 : xm_at xP 101 119 = some (119, .if_icmp .ge 23, 142, 0, 0, 0) := by decide +kernel
theorem xa_M_bridge_122 : xm_at xP 101 122 = some (122, .iload 5, 0, 0, 0, 0) := by decide +kernel
theorem xa_M_bridge_124 : xm_at xP 101 124 = some (124, .iload 6, 0, 0, 0, 0) := by decide +kernel
theorem xa_M_bridge_126 : xm_at xP 101 126 = some (126, .invokestatic 72, 78, 2, 0, 0) := by decide +kernel
theorem xa_M_bridge_129 : xm_at xP 101 129 = some (129, .iconst 1, 0, 0, 0, 0) := by decide +kernel
theorem xa_M_bridge_130 : xm_at xP 101 130 = some (130, .if_icmp .ne 6, 136, 0, 0, 0) := by decide +kernel
theorem xa_M_bridge_133 : xm_at xP 101 133 = some (133, .iload 6, 0, 0, 0, 0) := by decide +kernel
theorem xa_M_bridge_135 : xm_at xP 101 135 = some (135, .ireturn, 0, 0, 0, 0) := by decide +kernel
theorem xa_M_bridge_136 : xm_at xP 101 136 = some (136, .iinc 6 1, 0, 0, 0, 0) := by decide +kernel
theorem xa_M_bridge_139 : xm_at xP 101 139 = some (139, .goto (-26), 113, 0, 0, 0) := by decide +kernel
theorem xa_M_bridge_142 : xm_at xP 101 142 = some (142, .bipush (-2), 0, 0, 0, 0) := by decide +kernel
theorem xa_M_bridge_144 : xm_at xP 101 144 = some (144, .ireturn, 0, 0, 0, 0) := by decide +kernel
theorem xa_M_exposed_0 : xm_at xP 102 0 = some (0, .aload_n 0, 0, 0, 0, 0) := by decide +kernel
theorem xa_M_exposed_1 : xm_at xP 102 1 = some (1, .iconst 0, 0, 0, 0, 0) := by decide +kernel
theorem xa_M_exposed_2 : xm_at xP 102 2 = some (2, .putfield 66, 3, 0, 0, 0) := by decide +kernel
theorem xa_M_exposed_5 : xm_at xP 102 5 = some (5, .iconst 0, 0, 0, 0, 0) := by decide +kernel
theorem xa_M_exposed_6 : xm_at xP 102 6 = some (6, .istore_n 1, 0, 0, 0, 0) := by decide +kernel
theorem xa_M_exposed_7 : xm_at xP 102 7 = some (7, .iconst 0, 0, 0, 0, 0) := by decide +kernel
theorem xa_M_exposed_8 : xm_at xP 102 8 = some (8, .istore_n 2, 0, 0, 0, 0) := by decide +kernel
theorem xa_M_exposed_9 : xm_at xP 102 9 = some (9, .iload_n 2, 0, 0, 0, 0) := by decide +kernel
theorem xa_M_exposed_10 : xm_at xP 102 10 = some (10, .bipush 12, 0, 0, 0, 0) := by decide +kernel
theorem xa_M_exposed_12 : xm_at xP 102 12 = some (12, .if_icmp .ge 40, 52, 0, 0, 0) := by decide +kernel
theorem xa_M_exposed_15 : xm_at xP 102 15 = some (15, .aload_n 0, 0, 0, 0, 0) := by decide +kernel
theorem xa_M_exposed_16 : xm_at xP 102 16 = some (16, .getfield 27, 3, 8, 0, 0) := by decide +kernel
theorem xa_M_exposed_19 : xm_at xP 102 19 = some (19, .iload_n 2, 0, 0, 0, 0) := by decide +kernel
theorem xa_M_exposed_20 : xm_at xP 102 20 = some (20, .baload, 0, 0, 0, 0) := by decide +kernel
theorem xa_M_exposed_21 : xm_at xP 102 21 = some (21, .ifCond .eq 25, 46, 0, 0, 0) := by decide +kernel
theorem xa_M_exposed_24 : xm_at xP 102 24 = some (24, .aload_n 0, 0, 0, 0, 0) := by decide +kernel
theorem xa_M_exposed_25 : xm_at xP 102 25 = some (25, .getfield 30, 3, 9, 0, 0) := by decide +kernel
theorem xa_M_exposed_28 : xm_at xP 102 28 = some (28, .iload_n 2, 0, 0, 0, 0) := by decide +kernel
theorem xa_M_exposed_29 : xm_at xP 102 29 = some (29, .baload, 0, 0, 0, 0) := by decide +kernel
theorem xa_M_exposed_30 : xm_at xP 102 30 = some (30, .ifCond .eq 16, 46, 0, 0, 0) := by decide +kernel
theorem xa_M_exposed_33 : xm_at xP 102 33 = some (33, .aload_n 0, 0, 0, 0, 0) := by decide +kernel
theorem xa_M_exposed_34 : xm_at xP 102 34 = some (34, .getfield 48, 3, 15, 0, 0) := by decide +kernel
theorem xa_M_exposed_37 : xm_at xP 102 37 = some (37, .iload_n 2, 0, 0, 0, 0) := by decide +kernel
theorem xa_M_exposed_38 : xm_at xP 102 38 = some (38, .iaload, 0, 0, 0, 0) := by decide +kernel
theorem xa_M_exposed_39 : xm_at xP 102 39 = some (39, .iconst 2, 0, 0, 0, 0) := by decide +kernel
theorem xa_M_exposed_40 : xm_at xP 102 40 = some (40, .if_icmp .ne 6, 46, 0, 0, 0) := by decide +kernel
theorem xa_M_exposed_43 : xm_at xP 102 43 = some (43, .iinc 1 1, 0, 0, 0, 0) := by decide +kernel
theorem xa_M_exposed_46 : xm_at xP 102 46 = some (46, .iinc 2 1, 0, 0, 0, 0) := by decide +kernel
theorem xa_M_exposed_49 : xm_at xP 102 49 = some (49, .goto (-40), 9, 0, 0, 0) := by decide +kernel
theorem xa_M_exposed_52 : xm_at xP 102 52 = some (52, .iload_n 1, 0, 0, 0, 0) := by decide +kernel
theorem xa_M_exposed_53 : xm_at xP 102 53 = some (53, .ireturn, 0, 0, 0, 0) := by decide +kernel
theorem xa_M_count_0 : xm_at xP 103 0 = some (0, .aload_n 0, 0, 0, 0, 0) := by decide +kernel
theorem xa_M_count_1 : xm_at xP 103 1 = some (1, .iload_n 1, 0, 0, 0, 0) := by decide +kernel
theorem xa_M_count_2 : xm_at xP 103 2 = some (2, .ifCond .lt 8, 10, 0, 0, 0) := by decide +kernel
theorem xa_M_count_5 : xm_at xP 103 5 = some (5, .iload_n 1, 0, 0, 0, 0) := by decide +kernel
theorem xa_M_count_6 : xm_at xP 103 6 = some (6, .iconst 4, 0, 0, 0, 0) := by decide +kernel
theorem xa_M_count_7 : xm_at xP 103 7 = some (7, .if_icmp .le 7, 14, 0, 0, 0) := by decide +kernel
theorem xa_M_count_10 : xm_at xP 103 10 = some (10, .iconst 1, 0, 0, 0, 0) := by decide +kernel
theorem xa_M_count_11 : xm_at xP 103 11 = some (11, .goto 4, 15, 0, 0, 0) := by decide +kernel
theorem xa_M_count_14 : xm_at xP 103 14 = some (14, .iconst 0, 0, 0, 0, 0) := by decide +kernel
theorem xa_M_count_15 : xm_at xP 103 15 = some (15, .putfield 66, 3, 0, 0, 0) := by decide +kernel
theorem xa_M_count_18 : xm_at xP 103 18 = some (18, .aload_n 0, 0, 0, 0, 0) := by decide +kernel
theorem xa_M_count_19 : xm_at xP 103 19 = some (19, .getfield 66, 3, 0, 0, 0) := by decide +kernel
theorem xa_M_count_22 : xm_at xP 103 22 = some (22, .ifCond .le 5, 27, 0, 0, 0) := by decide +kernel
theorem xa_M_count_25 : xm_at xP 103 25 = some (25, .iconst 0, 0, 0, 0, 0) := by decide +kernel
theorem xa_M_count_26 : xm_at xP 103 26 = some (26, .ireturn, 0, 0, 0, 0) := by decide +kernel
theorem xa_M_count_27 : xm_at xP 103 27 = some (27, .iconst 0, 0, 0, 0, 0) := by decide +kernel
theorem xa_M_count_28 : xm_at xP 103 28 = some (28, .istore_n 2, 0, 0, 0, 0) := by decide +kernel
theorem xa_M_count_29 : xm_at xP 103 29 = some (29, .iconst 0, 0, 0, 0, 0) := by decide +kernel
theorem xa_M_count_30 : xm_at xP 103 30 = some (30, .istore_n 3, 0, 0, 0, 0) := by decide +kernel
theorem xa_M_count_31 : xm_at xP 103 31 = some (31, .iconst 0, 0, 0, 0, 0) := by decide +kernel
theorem xa_M_count_32 : xm_at xP 103 32 = some (32, .istore 4, 0, 0, 0, 0) := by decide +kernel
theorem xa_M_count_34 : xm_at xP 103 34 = some (34, .iconst 0, 0, 0, 0, 0) := by decide +kernel
theorem xa_M_count_35 : xm_at xP 103 35 = some (35, .istore 5, 0, 0, 0, 0) := by decide +kernel
theorem xa_M_count_37 : xm_at xP 103 37 = some (37, .iload 5, 0, 0, 0, 0) := by decide +kernel
theorem xa_M_count_39 : xm_at xP 103 39 = some (39, .bipush 12, 0, 0, 0, 0) := by decide +kernel
theorem xa_M_count_41 : xm_at xP 103 41 = some (41, .if_icmp .ge 22, 63, 0, 0, 0) := by decide +kernel
theorem xa_M_count_44 : xm_at xP 103 44 = some (44, .aload_n 0, 0, 0, 0, 0) := by decide +kernel
theorem xa_M_count_45 : xm_at xP 103 45 = some (45, .getfield 27, 3, 8, 0, 0) := by decide +kernel
theorem xa_M_count_48 : xm_at xP 103 48 = some (48, .iload 5, 0, 0, 0, 0) := by decide +kernel
theorem xa_M_count_50 : xm_at xP 103 50 = some (50, .baload, 0, 0, 0, 0) := by decide +kernel
theorem xa_M_count_51 : xm_at xP 103 51 = some (51, .ifCond .eq 6, 57, 0, 0, 0) := by decide +kernel
theorem xa_M_count_54 : xm_at xP 103 54 = some (54, .iinc 2 1, 0, 0, 0, 0) := by decide +kernel
theorem xa_M_count_57 : xm_at xP 103 57 = some (57, .iinc 5 1, 0, 0, 0, 0) := by decide +kernel
theorem xa_M_count_60 : xm_at xP 103 60 = some (60, .goto (-23), 37, 0, 0, 0) := by decide +kernel
theorem xa_M_count_63 : xm_at xP 103 63 = some (63, .iconst 0, 0, 0, 0, 0) := by decide +kernel
theorem xa_M_count_64 : xm_at xP 103 64 = some (64, .istore 5, 0, 0, 0, 0) := by decide +kernel
theorem xa_M_count_66 : xm_at xP 103 66 = some (66, .iload 5, 0, 0, 0, 0) := by decide +kernel
theorem xa_M_count_68 : xm_at xP 103 68 = some (68, .aload_n 0, 0, 0, 0, 0) := by decide +kernel
theorem xa_M_count_69 : xm_at xP 103 69 = some (69, .getfield 69, 3, 2, 0, 0) := by decide +kernel
theorem xa_M_count_72 : xm_at xP 103 72 = some (72, .if_icmp .ge 48, 120, 0, 0, 0) := by decide +kernel
theorem xa_M_count_75 : xm_at xP 103 75 = some (75, .aload_n 0, 0, 0, 0, 0) := by decide +kernel
theorem xa_M_count_76 : xm_at xP 103 76 = some (76, .getfield 20, 3, 5, 0, 0) := by decide +kernel
theorem xa_M_count_79 : xm_at xP 103 79 = some (79, .iload 5, 0, 0, 0, 0) := by decide +kernel
theorem xa_M_count_81 : xm_at xP 103 81 = some (81, .baload, 0, 0, 0, 0) := by decide +kernel
theorem xa_M_count_82 : xm_at xP 103 82 = some (82, .ifCond .eq 9, 91, 0, 0, 0) := by decide +kernel
theorem xa_M_count_85 : xm_at xP 103 85 = some (85, .iload_n 3, 0, 0, 0, 0) := by decide +kernel
theorem xa_M_count_86 : xm_at xP 103 86 = some (86, .iconst 1, 0, 0, 0, 0) := by decide +kernel
theorem xa_M_count_87 : xm_at xP 103 87 = some (87, .iadd, 0, 0, 0, 0) := by decide +kernel
theorem xa_M_count_88 : xm_at xP 103 88 = some (88, .goto 4, 92, 0, 0, 0) := by decide +kernel
theorem xa_M_count_91 : xm_at xP 103 91 = some (91, .iload_n 3, 0, 0, 0, 0) := by decide +kernel
theorem xa_M_count_92 : xm_at xP 103 92 = some (92, .istore_n 3, 0, 0, 0, 0) := by decide +kernel
theorem xa_M_count_93 : xm_at xP 103 93 = some (93, .aload_n 0, 0, 0, 0, 0) := by decide +kernel
theorem xa_M_count_94 : xm_at xP 103 94 = some (94, .getfield 24, 3, 6, 0, 0) := by decide +kernel
theorem xa_M_count_97 : xm_at xP 103 97 = some (97, .iload 5, 0, 0, 0, 0) := by decide +kernel
theorem xa_M_count_99 : xm_at xP 103 99 = some (99, .baload, 0, 0, 0, 0) := by decide +kernel
theorem xa_M_count_100 : xm_at xP 103 100 = some (100, .ifCond .eq 10, 110, 0, 0, 0) := by decide +kernel
theorem xa_M_count_103 : xm_at xP 103 103 = some (103, .iload 4, 0, 0, 0, 0) := by decide +kernel
theorem xa_M_count_105 : xm_at xP 103 105 = some (105, .iconst 1, 0, 0, 0, 0) := by decide +kernel
theorem xa_M_count_106 : xm_at xP 103 106 = some (106, .iadd, 0, 0, 0, 0) := by decide +kernel
theorem xa_M_count_107 : xm_at xP 103 107 = some (107, .goto 5, 112, 0, 0, 0) := by decide +kernel
theorem xa_M_count_110 : xm_at xP 103 110 = some (110, .iload 4, 0, 0, 0, 0) := by decide +kernel
theorem xa_M_count_112 : xm_at xP 103 112 = some (112, .istore 4, 0, 0, 0, 0) := by decide +kernel
theorem xa_M_count_114 : xm_at xP 103 114 = some (114, .iinc 5 1, 0, 0, 0, 0) := by decide +kernel
theorem xa_M_count_117 : xm_at xP 103 117 = some (117, .goto (-51), 66, 0, 0, 0) := by decide +kernel
theorem xa_M_count_120 : xm_at xP 103 120 = some (120, .iload_n 1, 0, 0, 0, 0) := by decide +kernel
theorem xa_M_count_121 : xm_at xP 103 121 = some (121, .ifCond .ne 10, 131, 0, 0, 0) := by decide +kernel
theorem xa_M_count_124 : xm_at xP 103 124 = some (124, .aload_n 0, 0, 0, 0, 0) := by decide +kernel
theorem xa_M_count_125 : xm_at xP 103 125 = some (125, .getfield 7, 3, 1, 0, 0) := by decide +kernel
theorem xa_M_count_128 : xm_at xP 103 128 = some (128, .goto 35, 163, 0, 0, 0) := by decide +kernel
theorem xa_M_count_131 : xm_at xP 103 131 = some (131, .iload_n 1, 0, 0, 0, 0) := by decide +kernel
theorem xa_M_count_132 : xm_at xP 103 132 = some (132, .iconst 1, 0, 0, 0, 0) := by decide +kernel
theorem xa_M_count_133 : xm_at xP 103 133 = some (133, .if_icmp .ne 10, 143, 0, 0, 0) := by decide +kernel
theorem xa_M_count_136 : xm_at xP 103 136 = some (136, .aload_n 0, 0, 0, 0, 0) := by decide +kernel
theorem xa_M_count_137 : xm_at xP 103 137 = some (137, .getfield 69, 3, 2, 0, 0) := by decide +kernel
theorem xa_M_count_140 : xm_at xP 103 140 = some (140, .goto 23, 163, 0, 0, 0) := by decide +kernel
theorem xa_M_count_143 : xm_at xP 103 143 = some (143, .iload_n 1, 0, 0, 0, 0) := by decide +kernel
theorem xa_M_count_144 : xm_at xP 103 144 = some (144, .iconst 2, 0, 0, 0, 0) := by decide +kernel
theorem xa_M_count_145 : xm_at xP 103 145 = some (145, .if_icmp .ne 7, 152, 0, 0, 0) := by decide +kernel
theorem xa_M_count_148 : xm_at xP 103 148 = some (148, .iload_n 2, 0, 0, 0, 0) := by decide +kernel
theorem xa_M_count_149 : xm_at xP 103 149 = some (149, .goto 14, 163, 0, 0, 0) := by decide +kernel
theorem xa_M_count_152 : xm_at xP 103 152 = some (152, .iload_n 1, 0, 0, 0, 0) := by decide +kernel
theorem xa_M_count_153 : xm_at xP 103 153 = some (153, .iconst 3, 0, 0, 0, 0) := by decide +kernel
theorem xa_M_count_154 : xm_at xP 103 154 = some (154, .if_icmp .ne 7, 161, 0, 0, 0) := by decide +kernel
theorem xa_M_count_157 : xm_at xP 103 157 = some (157, .iload_n 3, 0, 0, 0, 0) := by decide +kernel
theorem xa_M_count_158 : xm_at xP 103 158 = some (158, .goto 5, 163, 0, 0, 0) := by decide +kernel
theorem xa_M_count_161 : xm_at xP 103 161 = some (161, .iload 4, 0, 0, 0, 0) := by decide +kernel
theorem xa_M_count_163 : xm_at xP 103 163 = some (163, .ireturn, 0, 0, 0, 0) := by decide +kernel
section XM10
variable {xs : Nat → Int32} {LS d : Nat} {ks : Nat} {fl : Bool} {h : List va_E} {Q : (Option Value ⊕ Nat) → xm_S → Prop}
variable {Mc : Int32} {Mn : Nat} {Mm : Nat} {Mh : Int32} {Mp : Nat} {Mfw : Int32} {Mfs : Int32} {Me : Nat → Nat} {Ml : Nat → Nat} {Mbr : Nat → Bool} {Mlk : Nat → Bool} {Mt : Nat → Bool} {Mg : Nat → Bool} {Ma : Nat → Nat} {Mb : Nat → Nat} {Mw : Nat → Nat} {Mwk : Nat → Int32} {Msp : Nat → Int32} {Mon : Nat → Int32} {Mct : Nat → Int32} {MS : Nat → Int32} {MZ : Nat → Int32} {MA : Nat → Nat} {MN : Nat → Nat}
def cd_cut (m : Nat) (br : Nat → Bool) (x : Int32) (is : Bool) : Int32 := if xnS m x = true then 1 else if br x.toNatClampNeg = is then 2 else 0
theorem c_M_cut {x : Int32} (hm : Mm ≤ 14) (hM : xMs h Mc Mn Mm Mh Me Ml Mbr Mlk Mt Mg Ma Mb Mw Mwk Msp Mon Mct)
    (k1 : ∀ v, ¬ v = 0 → cd_cut Mm Mbr x true = v → ∀ h' fl', xMs h' v Mn Mm Mh Me Ml Mbr Mlk Mt Mg Ma Mb Mw Mwk Msp Mon Mct → xS h h' 22 40 → Q (.inl none) (h', ks, fl'))
    (k0 : cd_cut Mm Mbr x true = 0 → ∀ f h' fl', f < Mm → x = nI f → Mbr f = false → xMs h' 0 Mn Mm Mh Me Ml (xup Mbr f true) Mlk Mt Mg Ma Mb Mw Mwk Msp (xmix Mt (fun c => (xseF Mm Mh (xup Mbr f true) Mwk Msp Mon Mct c).1) Mon 12) (xmix Mt (fun c => (xseF Mm Mh (xup Mbr f true) Mwk Msp Mon Mct c).2) Mct 12) → xS h h' 22 40 → Q (.inl none) (h', ks, fl')) :
    xG xs LS (d + 3) 90 (0, xm_entry xP 90 [.ref 22, .int x], []) (h, ks, fl) Q := by
  show xG xs LS (d + 3) 90 (0, [some (.ref 22), some (.int x)], []) (h, ks, fl) Q
  obtain ⟨Mp, Mfw, Mfs, MS, MZ, MA, MN, hM, hA, hN⟩ := hM
  obtain ⟨g22, g23, g24, g25, g26, g27, g28, g29, g30, g31, g32, g33, g34, g35, g36, g37, g38, g39⟩ := id hM
  unfold cd_cut at k1 k0
  have bad : ∀ v, 0 < v → (if xnS Mm x = true then 1 else if Mbr x.toNatClampNeg = true then 2 else 0) = v → xG xs LS (d + 3) 90 (27, [some (.ref 22), some (.int x)], [.int v, .ref 22]) (h, ks, fl) Q := by
    intro v hv hc
    have hv0 : ¬ v = 0 := fun q => by rw [q] at hv; exact absurd hv (by decide)
    refine xg_putf (fs' := [_, _, _, _, _, _, _, _, _, _, _, _, _, _, _, _, _, _, _, _, _, _, _, _]) xa_M_cut_27 (by assumption) (Nat.le_of_ble_eq_true rfl) rfl rfl (fun h27 u27 => ?_)
    have hM1 := xMd_o (Mc' := v) hM u27
    obtain ⟨g22, g23, g24, g25, g26, g27, g28, g29, g30, g31, g32, g33, g34, g35, g36, g37, g38, g39⟩ := id hM1
    refine xg_aload_n xa_M_cut_30 rfl ?_
    refine xg_getfield xa_M_cut_31 (by assumption) rfl ?_
    refine xg_if_le xa_M_cut_34 (fun c => absurd hv (Int32.not_lt.mpr c)) (fun _ => ?_)
    exact xg_return xa_M_cut_37 (k1 v hv0 hc _ _ ⟨_, _, _, _, _, _, _, hM1, hA, hN⟩ (u27.toS (by decide) (by decide)))
  refine xg_aload_n xa_M_cut_0 rfl ?_
  refine xg_aload_n xa_M_cut_1 rfl ?_
  refine xg_iload_n xa_M_cut_2 rfl ?_
  refine xg_callV1 xa_M_cut_3 ⟨Nat.le_of_ble_eq_true rfl, Nat.le_of_ble_eq_true rfl, rfl⟩ rfl rfl (by assumption) ?_
  refine c_M_noFibre hM ?_
  refine xK1_c ?_
  refine xg_if_eq xa_M_cut_6 (fun c => ?_) (fun c => ?_)
  · have hf := (xz0 _).mp c
    obtain ⟨j, hj, rfl⟩ := xi_s (by omega) hf
    have hj14 : j < 14 := by omega
    rw [if_neg (show ¬ xnS Mm (nI j) = true by rw [hf]; decide), nI_clamp (by omega)] at k0 bad
    refine xg_aload_n xa_M_cut_13 rfl ?_
    refine xg_getfield xa_M_cut_14 (by assumption) rfl ?_
    refine xg_iload_n xa_M_cut_17 rfl ?_
    refine xg_zald_n xa_M_cut_18 (by assumption) rfl (by assumption) (by decide) ?_
    refine xg_if_eq xa_M_cut_19 (fun c => ?_) (fun c => ?_)
    · have hne := (xz0 _).mp c
      rw [if_neg (by rw [hne]; decide)] at k0
      refine xg_iconst (v := 0) xa_M_cut_26 (by decide) ?_
      refine xg_putf (fs' := [_, _, _, _, _, _, _, _, _, _, _, _, _, _, _, _, _, _, _, _, _, _, _, _]) xa_M_cut_27 (by assumption) (Nat.le_of_ble_eq_true rfl) rfl rfl (fun h27 u27 => ?_)
      have hM1 := xMd_o (Mc' := 0) hM u27
      obtain ⟨g22, g23, g24, g25, g26, g27, g28, g29, g30, g31, g32, g33, g34, g35, g36, g37, g38, g39⟩ := id hM1
      have hxx : (1 : Int32) = 0 ∨ (1 : Int32) = 1 := Or.inr rfl
      refine xg_aload_n xa_M_cut_30 rfl ?_
      refine xg_getfield xa_M_cut_31 (by assumption) rfl ?_
      refine xg_if_le xa_M_cut_34 (fun _ => ?_) (fun c => absurd (by decide) c)
      refine xg_aload_n xa_M_cut_38 rfl ?_
      refine xg_getfield xa_M_cut_39 (by assumption) rfl ?_
      refine xg_iload_n xa_M_cut_42 rfl ?_
      refine xg_iconst (v := 1) xa_M_cut_43 (by decide) ?_
      refine xg_zastf_n xa_M_cut_44 (by assumption) rfl (by assumption) (by decide) (by assumption) (fun h44 u44 => ?_)
      have hM2 := xMd_Mbr (x := true) hM1 u44
      obtain ⟨g22, g23, g24, g25, g26, g27, g28, g29, g30, g31, g32, g33, g34, g35, g36, g37, g38, g39⟩ := id hM2
      refine xg_aload_n xa_M_cut_45 rfl ?_
      refine xg_callV0 xa_M_cut_46 ⟨Nat.le_of_ble_eq_true rfl, Nat.le_of_ble_eq_true rfl, rfl⟩ rfl rfl (by assumption) ?_
      refine c_M_settle hm hM2 (fun h' fl' q1 q2 => xK0_d ?_)
      exact xg_return xa_M_cut_49 (k0 rfl j _ _ hj rfl hne ⟨_, _, _, _, _, _, _, q1, hA, hN⟩ (((u27.toS (by decide) (by decide)).tr (u44.toS (by decide) (by decide))).tr q2))
    · refine xg_iconst (v := 2) xa_M_cut_22 (by decide) ?_
      refine xg_goto xa_M_cut_23 ?_
      exact bad 2 (by decide) (if_pos (xz1 c))
  · refine xg_iconst (v := 1) xa_M_cut_9 (by decide) ?_
    refine xg_goto xa_M_cut_10 ?_
    exact bad 1 (by decide) (if_pos (xz1 c))
theorem c_M_mend {x : Int32} (hm : Mm ≤ 14) (hM : xMs h Mc Mn Mm Mh Me Ml Mbr Mlk Mt Mg Ma Mb Mw Mwk Msp Mon Mct)
    (k1 : ∀ v, ¬ v = 0 → cd_cut Mm Mbr x false = v → ∀ h' fl', xMs h' v Mn Mm Mh Me Ml Mbr Mlk Mt Mg Ma Mb Mw Mwk Msp Mon Mct → xS h h' 22 40 → Q (.inl none) (h', ks, fl'))
    (k0 : cd_cut Mm Mbr x false = 0 → ∀ f h' fl', f < Mm → x = nI f → Mbr f = true → xMs h' 0 Mn Mm Mh Me Ml (xup Mbr f false) Mlk Mt Mg Ma Mb Mw Mwk Msp (xmix Mt (fun c => (xseF Mm Mh (xup Mbr f false) Mwk Msp Mon Mct c).1) Mon 12) (xmix Mt (fun c => (xseF Mm Mh (xup Mbr f false) Mwk Msp Mon Mct c).2) Mct 12) → xS h h' 22 40 → Q (.inl none) (h', ks, fl')) :
    xG xs LS (d + 3) 93 (0, xm_entry xP 93 [.ref 22, .int x], []) (h, ks, fl) Q := by
  show xG xs LS (d + 3) 93 (0, [some (.ref 22), some (.int x)], []) (h, ks, fl) Q
  obtain ⟨Mp, Mfw, Mfs, MS, MZ, MA, MN, hM, hA, hN⟩ := hM
  obtain ⟨g22, g23, g24, g25, g26, g27, g28, g29, g30, g31, g32, g33, g34, g35, g36, g37, g38, g39⟩ := id hM
  unfold cd_cut at k1 k0
  have bad : ∀ v, 0 < v → (if xnS Mm x = true then 1 else if Mbr x.toNatClampNeg = false then 2 else 0) = v → xG xs LS (d + 3) 93 (27, [some (.ref 22), some (.int x)], [.int v, .ref 22]) (h, ks, fl) Q := by
    intro v hv hc
    have hv0 : ¬ v = 0 := fun q => by rw [q] at hv; exact absurd hv (by decide)
    refine xg_putf (fs' := [_, _, _, _, _, _, _, _, _, _, _, _, _, _, _, _, _, _, _, _, _, _, _, _]) xa_M_mend_27 (by assumption) (Nat.le_of_ble_eq_true rfl) rfl rfl (fun h27 u27 => ?_)
    have hM1 := xMd_o (Mc' := v) hM u27
    obtain ⟨g22, g23, g24, g25, g26, g27, g28, g29, g30, g31, g32, g33, g34, g35, g36, g37, g38, g39⟩ := id hM1
    refine xg_aload_n xa_M_mend_30 rfl ?_
    refine xg_getfield xa_M_mend_31 (by assumption) rfl ?_
    refine xg_if_le xa_M_mend_34 (fun c => absurd hv (Int32.not_lt.mpr c)) (fun _ => ?_)
    exact xg_return xa_M_mend_37 (k1 v hv0 hc _ _ ⟨_, _, _, _, _, _, _, hM1, hA, hN⟩ (u27.toS (by decide) (by decide)))
  refine xg_aload_n xa_M_mend_0 rfl ?_
  refine xg_aload_n xa_M_mend_1 rfl ?_
  refine xg_iload_n xa_M_mend_2 rfl ?_
  refine xg_callV1 xa_M_mend_3 ⟨Nat.le_of_ble_eq_true rfl, Nat.le_of_ble_eq_true rfl, rfl⟩ rfl rfl (by assumption) ?_
  refine c_M_noFibre hM ?_
  refine xK1_c ?_
  refine xg_if_eq xa_M_mend_6 (fun c => ?_) (fun c => ?_)
  · have hf := (xz0 _).mp c
    obtain ⟨j, hj, rfl⟩ := xi_s (by omega) hf
    have hj14 : j < 14 := by omega
    rw [if_neg (show ¬ xnS Mm (nI j) = true by rw [hf]; decide), nI_clamp (by omega)] at k0 bad
    refine xg_aload_n xa_M_mend_13 rfl ?_
    refine xg_getfield xa_M_mend_14 (by assumption) rfl ?_
    refine xg_iload_n xa_M_mend_17 rfl ?_
    refine xg_zald_n xa_M_mend_18 (by assumption) rfl (by assumption) (by decide) ?_
    refine xg_if_ne xa_M_mend_19 (fun c => ?_) (fun c => ?_)
    · have hne := xz1 c
      rw [if_neg (by rw [hne]; decide)] at k0
      refine xg_iconst (v := 0) xa_M_mend_26 (by decide) ?_
      refine xg_putf (fs' := [_, _, _, _, _, _, _, _, _, _, _, _, _, _, _, _, _, _, _, _, _, _, _, _]) xa_M_mend_27 (by assumption) (Nat.le_of_ble_eq_true rfl) rfl rfl (fun h27 u27 => ?_)
      have hM1 := xMd_o (Mc' := 0) hM u27
      obtain ⟨g22, g23, g24, g25, g26, g27, g28, g29, g30, g31, g32, g33, g34, g35, g36, g37, g38, g39⟩ := id hM1
      have hxx : (0 : Int32) = 0 ∨ (0 : Int32) = 1 := Or.inl rfl
      refine xg_aload_n xa_M_mend_30 rfl ?_
      refine xg_getfield xa_M_mend_31 (by assumption) rfl ?_
      refine xg_if_le xa_M_mend_34 (fun _ => ?_) (fun c => absurd (by decide) c)
      refine xg_aload_n xa_M_mend_38 rfl ?_
      refine xg_getfield xa_M_mend_39 (by assumption) rfl ?_
      refine xg_iload_n xa_M_mend_42 rfl ?_
      refine xg_iconst (v := 0) xa_M_mend_43 (by decide) ?_
      refine xg_zastf_n xa_M_mend_44 (by assumption) rfl (by assumption) (by decide) (by assumption) (fun h44 u44 => ?_)
      have hM2 := xMd_Mbr (x := false) hM1 u44
      obtain ⟨g22, g23, g24, g25, g26, g27, g28, g29, g30, g31, g32, g33, g34, g35, g36, g37, g38, g39⟩ := id hM2
      refine xg_aload_n xa_M_mend_45 rfl ?_
      refine xg_callV0 xa_M_mend_46 ⟨Nat.le_of_ble_eq_true rfl, Nat.le_of_ble_eq_true rfl, rfl⟩ rfl rfl (by assumption) ?_
      refine c_M_settle hm hM2 (fun h' fl' q1 q2 => xK0_d ?_)
      exact xg_return xa_M_mend_49 (k0 rfl j _ _ hj rfl hne ⟨_, _, _, _, _, _, _, q1, hA, hN⟩ (((u27.toS (by decide) (by decide)).tr (u44.toS (by decide) (by decide))).tr q2))
    · refine xg_iconst (v := 2) xa_M_mend_22 (by decide) ?_
      refine xg_goto xa_M_mend_23 ?_
      exact bad 2 (by decide) (if_pos ((xz0 _).mp c))
  · refine xg_iconst (v := 1) xa_M_mend_9 (by decide) ?_
    refine xg_goto xa_M_mend_10 ?_
    exact bad 1 (by decide) (if_pos (xz1 c))
def cd_hold (x : Int32) : Int32 := if x < 0 ∨ ¬ x ≤ 1000 then 1 else 0
theorem c_M_hold {x : Int32} (hm : Mm ≤ 14) (hM : xMs h Mc Mn Mm Mh Me Ml Mbr Mlk Mt Mg Ma Mb Mw Mwk Msp Mon Mct)
    (k1 : cd_hold x = 1 → ∀ h' fl', xMs h' 1 Mn Mm Mh Me Ml Mbr Mlk Mt Mg Ma Mb Mw Mwk Msp Mon Mct → xS h h' 22 40 → Q (.inl none) (h', ks, fl'))
    (k0 : cd_hold x = 0 → ∀ h' fl', xMs h' 0 Mn Mm x Me Ml Mbr Mlk Mt Mg Ma Mb Mw Mwk Msp (xmix Mt (fun c => (xseF Mm x Mbr Mwk Msp Mon Mct c).1) Mon 12) (xmix Mt (fun c => (xseF Mm x Mbr Mwk Msp Mon Mct c).2) Mct 12) → xS h h' 22 40 → Q (.inl none) (h', ks, fl')) :
    xG xs LS (d + 3) 94 (0, xm_entry xP 94 [.ref 22, .int x], []) (h, ks, fl) Q := by
  show xG xs LS (d + 3) 94 (0, [some (.ref 22), some (.int x)], []) (h, ks, fl) Q
  obtain ⟨Mp, Mfw, Mfs, MS, MZ, MA, MN, hM, hA, hN⟩ := hM
  obtain ⟨g22, g23, g24, g25, g26, g27, g28, g29, g30, g31, g32, g33, g34, g35, g36, g37, g38, g39⟩ := id hM
  unfold cd_hold at k1 k0
  have bad : (x < 0 ∨ ¬ x ≤ 1000) → xG xs LS (d + 3) 94 (12, [some (.ref 22), some (.int x)], [.ref 22]) (h, ks, fl) Q := by
    intro hc
    rw [if_pos hc] at k1
    refine xg_iconst (v := 1) xa_M_hold_12 (by decide) ?_
    refine xg_goto xa_M_hold_13 ?_
    refine xg_putf (fs' := [_, _, _, _, _, _, _, _, _, _, _, _, _, _, _, _, _, _, _, _, _, _, _, _]) xa_M_hold_17 (by assumption) (Nat.le_of_ble_eq_true rfl) rfl rfl (fun h17 u17 => ?_)
    have hM1 := xMd_o (Mc' := 1) hM u17
    obtain ⟨g22, g23, g24, g25, g26, g27, g28, g29, g30, g31, g32, g33, g34, g35, g36, g37, g38, g39⟩ := id hM1
    refine xg_aload_n xa_M_hold_20 rfl ?_
    refine xg_getfield xa_M_hold_21 (by assumption) rfl ?_
    refine xg_if_le xa_M_hold_24 (fun c => absurd c (by decide)) (fun _ => ?_)
    exact xg_return xa_M_hold_27 (k1 rfl _ _ ⟨_, _, _, _, _, _, _, hM1, hA, hN⟩ (u17.toS (by decide) (by decide)))
  refine xg_aload_n xa_M_hold_0 rfl ?_
  refine xg_iload_n xa_M_hold_1 rfl ?_
  refine xg_if_lt xa_M_hold_2 (fun c => bad (Or.inl c)) (fun c2 => ?_)
  refine xg_iload_n xa_M_hold_5 rfl ?_
  refine xg_sipush (v := 1000) xa_M_hold_6 (by decide) ?_
  refine xg_icmp_le xa_M_hold_9 (fun c9 => ?_) (fun c => bad (Or.inr c))
  rw [if_neg (fun q => by
    rcases q with q | q
    · exact c2 q
    · exact q c9)] at k0
  refine xg_iconst (v := 0) xa_M_hold_16 (by decide) ?_
  refine xg_putf (fs' := [_, _, _, _, _, _, _, _, _, _, _, _, _, _, _, _, _, _, _, _, _, _, _, _]) xa_M_hold_17 (by assumption) (Nat.le_of_ble_eq_true rfl) rfl rfl (fun h17 u17 => ?_)
  have hM1 := xMd_o (Mc' := 0) hM u17
  obtain ⟨g22, g23, g24, g25, g26, g27, g28, g29, g30, g31, g32, g33, g34, g35, g36, g37, g38, g39⟩ := id hM1
  refine xg_aload_n xa_M_hold_20 rfl ?_
  refine xg_getfield xa_M_hold_21 (by assumption) rfl ?_
  refine xg_if_le xa_M_hold_24 (fun _ => ?_) (fun c => absurd (by decide) c)
  refine xg_aload_n xa_M_hold_28 rfl ?_
  refine xg_iload_n xa_M_hold_29 rfl ?_
  refine xg_putf (fs' := [_, _, _, _, _, _, _, _, _, _, _, _, _, _, _, _, _, _, _, _, _, _, _, _]) xa_M_hold_30 (by assumption) (Nat.le_of_ble_eq_true rfl) rfl rfl (fun h30 u30 => ?_)
  have hM2 := xMd_o (Mh' := x) hM1 u30
  obtain ⟨g22, g23, g24, g25, g26, g27, g28, g29, g30, g31, g32, g33, g34, g35, g36, g37, g38, g39⟩ := id hM2
  refine xg_aload_n xa_M_hold_33 rfl ?_
  refine xg_callV0 xa_M_hold_34 ⟨Nat.le_of_ble_eq_true rfl, Nat.le_of_ble_eq_true rfl, rfl⟩ rfl rfl (by assumption) ?_
  refine c_M_settle hm hM2 (fun h' fl' q1 q2 => xK0_d ?_)
  exact xg_return xa_M_hold_37 (k0 rfl _ _ ⟨_, _, _, _, _, _, _, q1, hA, hN⟩ (((u17.toS (by decide) (by decide)).tr (u30.toS (by decide) (by decide))).tr q2))
/-- the counts a clock later -/
def xtk (Mm : Nat) (Mbr Mt : Nat → Bool) (Mwk Mon Mct : Nat → Int32) (c : Nat) : Int32 := if Mt c = true ∧ ¬ Mon c = 0 ∧ xwo Mbr (Mwk c) Mm = true then Mct c + 1 else Mct c
abbrev xtkF (Mm : Nat) (Mbr Mt : Nat → Bool) (Mwk Mon Mct : Nat → Int32) : Nat → Int32 := xopn (xtk Mm Mbr Mt Mwk Mon Mct) Mct 12
theorem xopn_at (g f : Nat → Int32) (n : Nat) : xopn g f n n = f n := if_neg (by omega)
theorem c_M_clock (hm : Mm ≤ 14) (hM : xMs h Mc Mn Mm Mh Me Ml Mbr Mlk Mt Mg Ma Mb Mw Mwk Msp Mon Mct)
    (k0 : ∀ h' fl', xMs h' 0 Mn Mm Mh Me Ml Mbr Mlk Mt Mg Ma Mb Mw Mwk Msp (xmix Mt (fun c => (xseF Mm Mh Mbr Mwk Msp Mon (xtkF Mm Mbr Mt Mwk Mon Mct) c).1) Mon 12) (xmix Mt (fun c => (xseF Mm Mh Mbr Mwk Msp Mon (xtkF Mm Mbr Mt Mwk Mon Mct) c).2) (xtkF Mm Mbr Mt Mwk Mon Mct) 12) → xS h h' 22 40 → Q (.inl none) (h', ks, fl')) :
    xG xs LS (d + 3) 95 (0, xm_entry xP 95 [.ref 22], []) (h, ks, fl) Q := by
  show xG xs LS (d + 3) 95 (0, [some (.ref 22), none], []) (h, ks, fl) Q
  obtain ⟨Mp, Mfw, Mfs, MS, MZ, MA, MN, hM, hA, hN⟩ := hM
  obtain ⟨g22, g23, g24, g25, g26, g27, g28, g29, g30, g31, g32, g33, g34, g35, g36, g37, g38, g39⟩ := id hM
  refine xg_aload_n xa_M_clock_0 rfl ?_
  refine xg_iconst (v := 0) xa_M_clock_1 (by decide) ?_
  refine xg_putf (fs' := [_, _, _, _, _, _, _, _, _, _, _, _, _, _, _, _, _, _, _, _, _, _, _, _]) xa_M_clock_2 (by assumption) (Nat.le_of_ble_eq_true rfl) rfl rfl (fun hq2 u2 => ?_)
  have hM1 := xMd_o (Mc' := 0) hM u2
  have loop : ∀ n i h1 fl', i + n = 12 → xMd h1 0 Mn Mm Mh Mp Mfw Mfs Me Ml Mbr Mlk Mt Mg Ma Mb Mw Mwk Msp Mon (xopn (xtk Mm Mbr Mt Mwk Mon Mct) Mct i) MS MZ MA MN → xS h h1 22 40 → xG xs LS (d + 3) 95 (7, [some (.ref 22), some (.int (nI i))], []) (h1, ks, fl') Q := by
    intro n
    induction n with
    | zero =>
      intro i h1 fl' hi hM hS
      have e : i = 12 := by omega
      subst e
      obtain ⟨g22, g23, g24, g25, g26, g27, g28, g29, g30, g31, g32, g33, g34, g35, g36, g37, g38, g39⟩ := id hM
      refine xg_iload_n xa_M_clock_7 rfl ?_
      refine xg_bipush (v := 12) xa_M_clock_8 (by decide) ?_
      refine xg_icmp_ge xa_M_clock_10 (fun _ => ?_) (fun c => absurd (by decide) c)
      refine xg_aload_n xa_M_clock_73 rfl ?_
      refine xg_callV0 xa_M_clock_74 ⟨Nat.le_of_ble_eq_true rfl, Nat.le_of_ble_eq_true rfl, rfl⟩ rfl rfl (by assumption) ?_
      refine c_M_settle hm hM (fun h' fl' q1 q2 => xK0_d ?_)
      exact xg_return xa_M_clock_77 (k0 _ _ ⟨_, _, _, _, _, _, _, q1, hA, hN⟩ (hS.tr q2))
    | succ n ih =>
      intro i h1 fl' hi hM hS
      have hi12 : i < 12 := by omega
      obtain ⟨g22, g23, g24, g25, g26, g27, g28, g29, g30, g31, g32, g33, g34, g35, g36, g37, g38, g39⟩ := id hM
      have next : ∀ v fl', v = xtk Mm Mbr Mt Mwk Mon Mct i → xG xs LS (d + 3) 95 (66, [some (.ref 22), some (.int (nI i))], [.int v, .int (nI i), .ref 35]) (h1, ks, fl') Q := by
        intro v fl' e
        subst e
        refine xg_iastf_n xa_M_clock_66 (by assumption) rfl (by assumption) (by decide) (fun h66 u66 => ?_)
        have hM3 := xMd_Mct hM u66
        rw [← xup_i, xopn_s] at hM3
        refine xg_iinc (L' := [_, _]) xa_M_clock_67 rfl (xi_inc _) rfl ?_
        refine xg_goto xa_M_clock_70 ?_
        exact ih (i + 1) h66 _ (by omega) hM3 (hS.tr (u66.toS (by decide) (by decide)))
      have no : ∀ fl', ¬ (Mt i = true ∧ ¬ Mon i = 0 ∧ xwo Mbr (Mwk i) Mm = true) → xG xs LS (d + 3) 95 (60, [some (.ref 22), some (.int (nI i))], [.int (nI i), .ref 35]) (h1, ks, fl') Q := by
        intro fl' q
        refine xg_aload_n xa_M_clock_60 rfl ?_
        refine xg_getfield xa_M_clock_61 (by assumption) rfl ?_
        refine xg_iload_n xa_M_clock_64 rfl ?_
        refine xg_iald_n xa_M_clock_65 (by assumption) rfl (by assumption) (by decide) ?_
        rw [xopn_at]
        exact next _ _ (by unfold xtk; rw [if_neg q])
      refine xg_iload_n xa_M_clock_7 rfl ?_
      refine xg_bipush (v := 12) xa_M_clock_8 (by decide) ?_
      refine xg_icmp_ge xa_M_clock_10 (fun c => absurd c (show ¬ nI 12 ≤ nI i from nI_ge (by omega) (by omega))) (fun _ => ?_)
      refine xg_aload_n xa_M_clock_13 rfl ?_
      refine xg_getfield xa_M_clock_14 (by assumption) rfl ?_
      refine xg_iload_n xa_M_clock_17 rfl ?_
      refine xg_aload_n xa_M_clock_18 rfl ?_
      refine xg_getfield xa_M_clock_19 (by assumption) rfl ?_
      refine xg_iload_n xa_M_clock_22 rfl ?_
      refine xg_zald_n xa_M_clock_23 (by assumption) rfl (by assumption) (by decide) ?_
      refine xg_if_eq xa_M_clock_24 (fun c => no _ (fun q => by rw [(xz0 _).mp c] at q; cases q.1)) (fun c24 => ?_)
      refine xg_aload_n xa_M_clock_27 rfl ?_
      refine xg_getfield xa_M_clock_28 (by assumption) rfl ?_
      refine xg_iload_n xa_M_clock_31 rfl ?_
      refine xg_iald_n xa_M_clock_32 (by assumption) rfl (by assumption) (by decide) ?_
      refine xg_if_eq xa_M_clock_33 (fun c => no _ (fun q => q.2.1 c)) (fun c33 => ?_)
      refine xg_aload_n xa_M_clock_36 rfl ?_
      refine xg_aload_n xa_M_clock_37 rfl ?_
      refine xg_getfield xa_M_clock_38 (by assumption) rfl ?_
      refine xg_iload_n xa_M_clock_41 rfl ?_
      refine xg_iald_n xa_M_clock_42 (by assumption) rfl (by assumption) (by decide) ?_
      refine xg_callV1 xa_M_clock_43 ⟨Nat.le_of_ble_eq_true rfl, Nat.le_of_ble_eq_true rfl, rfl⟩ rfl rfl (by assumption) ?_
      refine c_M_whole hm hM ?_
      refine xK1_c ?_
      refine xg_if_eq xa_M_clock_46 (fun c => no _ (fun q => by rw [(xz0 _).mp c] at q; cases q.2.2)) (fun c46 => ?_)
      refine xg_aload_n xa_M_clock_49 rfl ?_
      refine xg_getfield xa_M_clock_50 (by assumption) rfl ?_
      refine xg_iload_n xa_M_clock_53 rfl ?_
      refine xg_iald_n xa_M_clock_54 (by assumption) rfl (by assumption) (by decide) ?_
      refine xg_iconst (v := 1) xa_M_clock_55 (by decide) ?_
      refine xg_iadd xa_M_clock_56 rfl ?_
      refine xg_goto xa_M_clock_57 ?_
      rw [xopn_at]
      exact next _ _ (by unfold xtk; rw [if_pos ⟨xz1 c24, c33, xz1 c46⟩])
  refine xg_iconst (v := 0) xa_M_clock_5 (by decide) ?_
  refine xg_istore_n (L' := [_, _]) xa_M_clock_6 (Nat.le_of_ble_eq_true rfl) rfl ?_
  exact loop 12 0 _ _ (by omega) (by rw [xopn_0]; exact hM1) (u2.toS (by decide) (by decide))
theorem xlay_s (F : Nat → Option (Int32 × Int32)) (n w : Nat) : xlay F (n + 1) w = match F w with
    | none => xlay F n (w + 1)
    | some p => some (w, p.1, p.2) := rfl
theorem c_M_move {x : Int32} (hn : Mn ≤ 7) (hm : Mm ≤ 14) (hE : ∀ j, Me j < 7) (hab : ∀ c, c < 12 → Mt c = true → Ma c < Mn ∧ Mb c < Mn ∧ ¬ Ma c = Mb c ∧ Mw c < 4) (hF : ∀ x y s, x < Mn → y < Mn → ¬ x = y → xFok Ml Mm (xPL Me Mm s x y)) (hM : xMs h Mc Mn Mm Mh Me Ml Mbr Mlk Mt Mg Ma Mb Mw Mwk Msp Mon Mct)
    (k1 : cd_conn Mt x = 1 → ∀ h' fl', xMs h' 1 Mn Mm Mh Me Ml Mbr Mlk Mt Mg Ma Mb Mw Mwk Msp Mon Mct → xS h h' 22 40 → Q (.inl (some (.int 0))) (h', ks, fl'))
    (k0 : cd_conn Mt x = 0 → ∀ c h' fl', c < 12 → x = nI c → Mt c = true →
      (xlay (xfw Mm Me Ml Mbr Mlk Mt Mw Mwk Msp (Ma c) (Mb c) (Mg c)) (3 - Mw c) (Mw c + 1) = none → xMs h' 0 Mn Mm Mh Me Ml Mbr Mlk Mt Mg Ma Mb Mw Mwk Msp Mon Mct → xS h h' 22 40 → Q (.inl (some (.int (-1)))) (h', ks, fl')) ∧
      (∀ w wk sp, xlay (xfw Mm Me Ml Mbr Mlk Mt Mw Mwk Msp (Ma c) (Mb c) (Mg c)) (3 - Mw c) (Mw c + 1) = some (w, wk, sp) → xMs h' 0 Mn Mm Mh Me Ml Mbr Mlk Mt Mg Ma Mb (xup Mw c w) (xup Mwk c wk) (xup Msp c sp) (xup Mon c 0) (xup Mct c 0) → xS h h' 22 40 → Q (.inl (some (.int (nI w)))) (h', ks, fl'))) :
    xG xs LS (d + 5) 96 (0, xm_entry xP 96 [.ref 22, .int x], []) (h, ks, fl) Q := by
  show xG xs LS (d + 5) 96 (0, [some (.ref 22), some (.int x), none], []) (h, ks, fl) Q
  obtain ⟨Mp, Mfw, Mfs, MS, MZ, MA, MN, hM, hA, hN⟩ := hM
  obtain ⟨g22, g23, g24, g25, g26, g27, g28, g29, g30, g31, g32, g33, g34, g35, g36, g37, g38, g39⟩ := id hM
  unfold cd_conn at k1 k0
  refine xg_aload_n xa_M_move_0 rfl ?_
  refine xg_aload_n xa_M_move_1 rfl ?_
  refine xg_iload_n xa_M_move_2 rfl ?_
  refine xg_callV1 xa_M_move_3 ⟨Nat.le_of_ble_eq_true rfl, Nat.le_of_ble_eq_true rfl, rfl⟩ rfl rfl (by assumption) ?_
  refine c_M_noConnection hM ?_
  refine xK1_c ?_
  refine xg_if_eq xa_M_move_6 (fun c6 => ?_) (fun c => ?_)
  · have hf := (xz0 _).mp c6
    clear c6
    obtain ⟨c, hc, rfl, ht⟩ := xi_c hf
    obtain ⟨ha, hb, hne, hw4⟩ := hab c hc ht
    rw [if_neg (by rw [hf]; decide)] at k0
    have kk := fun h' fl' => k0 rfl c h' fl' hc rfl ht
    refine xg_iconst (v := 0) xa_M_move_13 (by decide) ?_
    refine xg_putf (fs' := [_, _, _, _, _, _, _, _, _, _, _, _, _, _, _, _, _, _, _, _, _, _, _, _]) xa_M_move_14 (by assumption) (Nat.le_of_ble_eq_true rfl) rfl rfl (fun h14 u14 => ?_)
    have hM1 := xMd_o (Mc' := 0) hM u14
    obtain ⟨g22, g23, g24, g25, g26, g27, g28, g29, g30, g31, g32, g33, g34, g35, g36, g37, g38, g39⟩ := id hM1
    refine xg_aload_n xa_M_move_17 rfl ?_
    refine xg_getfield xa_M_move_18 (by assumption) rfl ?_
    refine xg_if_le xa_M_move_21 (fun _ => ?_) (fun c => absurd (by decide) c)
    have loop : ∀ n w h1 fl', w + n = 4 → xlay (xfw Mm Me Ml Mbr Mlk Mt Mw Mwk Msp (Ma c) (Mb c) (Mg c)) n w = xlay (xfw Mm Me Ml Mbr Mlk Mt Mw Mwk Msp (Ma c) (Mb c) (Mg c)) (3 - Mw c) (Mw c + 1) → xMs h1 0 Mn Mm Mh Me Ml Mbr Mlk Mt Mg Ma Mb Mw Mwk Msp Mon Mct → xS h h1 22 40 → xG xs LS (d + 5) 96 (35, [some (.ref 22), some (.int (nI c)), some (.int (nI w))], []) (h1, ks, fl') Q := by
      intro n
      induction n with
      | zero =>
        intro w h1 fl' hw hl hM hS
        have e : w = 4 := by omega
        subst e
        refine xg_iload_n xa_M_move_35 rfl ?_
        refine xg_iconst (v := 4) xa_M_move_36 (by decide) ?_
        refine xg_icmp_ge xa_M_move_37 (fun c37 => ?_) (fun c37 => absurd (by decide) c37)
        refine xg_iconst (v := (-1)) xa_M_move_80 (by decide) ?_
        refine xg_ireturn xa_M_move_81  ?_
        exact (kk _ _).1 hl.symm hM hS
      | succ n ih =>
        intro w h1 fl' hw hl hM hS
        have hM0 := hM
        obtain ⟨Mp, Mfw, Mfs, MS, MZ, MA, MN, hM, hA, hN⟩ := hM
        obtain ⟨g22, g23, g24, g25, g26, g27, g28, g29, g30, g31, g32, g33, g34, g35, g36, g37, g38, g39⟩ := id hM
        refine xg_iload_n xa_M_move_35 rfl ?_
        refine xg_iconst (v := 4) xa_M_move_36 (by decide) ?_
        refine xg_icmp_ge xa_M_move_37 (fun c => absurd c (show ¬ nI 4 ≤ nI w from nI_ge (by omega) (by omega))) (fun _ => ?_)
        refine xg_aload_n xa_M_move_40 rfl ?_
        refine xg_iload_n xa_M_move_41 rfl ?_
        refine xg_aload_n xa_M_move_42 rfl ?_
        refine xg_getfield xa_M_move_43 (by assumption) rfl ?_
        refine xg_iload_n xa_M_move_46 rfl ?_
        refine xg_iald_n xa_M_move_47 (by assumption) rfl (by assumption) (by decide) ?_
        refine xg_aload_n xa_M_move_48 rfl ?_
        refine xg_getfield xa_M_move_49 (by assumption) rfl ?_
        refine xg_iload_n xa_M_move_52 rfl ?_
        refine xg_iald_n xa_M_move_53 (by assumption) rfl (by assumption) (by decide) ?_
        refine xg_aload_n xa_M_move_54 rfl ?_
        refine xg_getfield xa_M_move_55 (by assumption) rfl ?_
        refine xg_iload_n xa_M_move_58 rfl ?_
        refine xg_zald_n xa_M_move_59 (by assumption) rfl (by assumption) (by decide) ?_
        refine xg_callV1 xa_M_move_60 ⟨Nat.le_of_ble_eq_true rfl, Nat.le_of_ble_eq_true rfl, rfl⟩ rfl rfl (by assumption) ?_
        rw [xlay_s] at hl
        refine c_M_find hm hE (by omega) (by omega) (fun s => hF _ _ s ha hb hne) hM0 (fun h2 fl2 q1 q2 q3 => ?_) (fun h2 fl2 p Mp MS MZ MA MN q1 q2 q3 q4 q5 => ?_)
        · refine xK1_d ?_
          rw [q3] at hl
          refine xg_if_eq xa_M_move_63 (fun _ => ?_) (fun c => absurd rfl c)
          refine xg_iinc (L' := [_, _, _]) xa_M_move_74 rfl (xi_inc _) rfl ?_
          refine xg_goto xa_M_move_77 ?_
          exact ih (w + 1) h2 _ (by omega) hl q1 (hS.tr q2)
        · refine xK1_d ?_
          rw [q5] at hl
          refine xg_if_eq xa_M_move_63 (fun c => absurd c (by decide)) (fun _ => ?_)
          obtain ⟨g22, g23, g24, g25, g26, g27, g28, g29, g30, g31, g32, g33, g34, g35, g36, g37, g38, g39⟩ := id q1
          refine xg_aload_n xa_M_move_66 rfl ?_
          refine xg_iload_n xa_M_move_67 rfl ?_
          refine xg_iload_n xa_M_move_68 rfl ?_
          refine xg_callV0 xa_M_move_69 ⟨Nat.le_of_ble_eq_true rfl, Nat.le_of_ble_eq_true rfl, rfl⟩ rfl rfl (by assumption) ?_
          refine c_M_take hc q1 (fun h5 fl5 r5 s5 => ?_)
          refine xK0_d ?_
          refine xg_iload_n xa_M_move_72 rfl ?_
          exact xg_ireturn xa_M_move_73 ((kk _ _).2 w p.1 p.2 hl.symm ⟨_, _, _, _, _, _, _, r5, q2, q3⟩ ((hS.tr q4).tr s5))
    refine xg_aload_n xa_M_move_26 rfl ?_
    refine xg_getfield xa_M_move_27 (by assumption) rfl ?_
    refine xg_iload_n xa_M_move_30 rfl ?_
    refine xg_iald_n xa_M_move_31 (by assumption) rfl (by assumption) (by decide) ?_
    refine xg_iconst (v := 1) xa_M_move_32 (by decide) ?_
    refine xg_iadd xa_M_move_33 (nI_1 _) ?_
    refine xg_istore_n (L' := [_, _, _]) xa_M_move_34 (Nat.le_of_ble_eq_true rfl) rfl ?_
    exact loop (3 - Mw c) (Mw c + 1) _ _ (by omega) rfl ⟨_, _, _, _, _, _, _, hM1, hA, hN⟩ (u14.toS (by decide) (by decide))
  · rw [if_pos (xz1 c)] at k1
    refine xg_iconst (v := 1) xa_M_move_9 (by decide) ?_
    refine xg_goto xa_M_move_10 ?_
    refine xg_putf (fs' := [_, _, _, _, _, _, _, _, _, _, _, _, _, _, _, _, _, _, _, _, _, _, _, _]) xa_M_move_14 (by assumption) (Nat.le_of_ble_eq_true rfl) rfl rfl (fun h14 u14 => ?_)
    have hM1 := xMd_o (Mc' := 1) hM u14
    obtain ⟨g22, g23, g24, g25, g26, g27, g28, g29, g30, g31, g32, g33, g34, g35, g36, g37, g38, g39⟩ := id hM1
    refine xg_aload_n xa_M_move_17 rfl ?_
    refine xg_getfield xa_M_move_18 (by assumption) rfl ?_
    refine xg_if_le xa_M_move_21 (fun c => absurd c (by decide)) (fun _ => ?_)
    refine xg_iconst (v := 0) xa_M_move_24 (by decide) ?_
    refine xg_ireturn xa_M_move_25  ?_
    exact k1 rfl _ _ ⟨_, _, _, _, _, _, _, hM1, hA, hN⟩ (u14.toS (by decide) (by decide))
def cd_about (t : Nat → Bool) (x y : Int32) : Int32 := if xnC t x = true then 1 else if y < 0 ∨ ¬ y ≤ 6 then 2 else 0
/-- what about answers -/
def xabt (m : Nat) (l : Nat → Nat) (g : Bool) (a b w : Nat) (wk sp on ct : Int32) : Nat → Int32
  | 0 => nI w
  | 1 => nI a
  | 2 => nI b
  | 3 => xlen (fun j => nI (l j)) wk m
  | 4 => if g = true then xlen (fun j => nI (l j)) sp m else -1
  | 5 => on
  | _ => ct
theorem c_M_about {x y : Int32} (hm : Mm ≤ 14) (hM : xMs h Mc Mn Mm Mh Me Ml Mbr Mlk Mt Mg Ma Mb Mw Mwk Msp Mon Mct)
    (k1 : ∀ v, ¬ v = 0 → cd_about Mt x y = v → ∀ h' fl', xMs h' v Mn Mm Mh Me Ml Mbr Mlk Mt Mg Ma Mb Mw Mwk Msp Mon Mct → xS h h' 22 40 → Q (.inl (some (.int 0))) (h', ks, fl'))
    (k0 : cd_about Mt x y = 0 → ∀ c j h' fl', c < 12 → x = nI c → Mt c = true → j ≤ 6 → y = nI j → xMs h' 0 Mn Mm Mh Me Ml Mbr Mlk Mt Mg Ma Mb Mw Mwk Msp Mon Mct → xS h h' 22 40 → Q (.inl (some (.int (xabt Mm Ml (Mg c) (Ma c) (Mb c) (Mw c) (Mwk c) (Msp c) (Mon c) (Mct c) j)))) (h', ks, fl')) :
    xG xs LS (d + 2) 98 (0, xm_entry xP 98 [.ref 22, .int x, .int y], []) (h, ks, fl) Q := by
  show xG xs LS (d + 2) 98 (0, [some (.ref 22), some (.int x), some (.int y)], []) (h, ks, fl) Q
  obtain ⟨Mp, Mfw, Mfs, MS, MZ, MA, MN, hM, hA, hN⟩ := hM
  obtain ⟨g22, g23, g24, g25, g26, g27, g28, g29, g30, g31, g32, g33, g34, g35, g36, g37, g38, g39⟩ := id hM
  unfold cd_about at k1 k0
  have bad : ∀ v, 0 < v → (if xnC Mt x = true then 1 else if y < 0 ∨ ¬ y ≤ 6 then 2 else 0) = v → xG xs LS (d + 2) 98 (28, [some (.ref 22), some (.int x), some (.int y)], [.int v, .ref 22]) (h, ks, fl) Q := by
    intro v hv hc
    have hv0 : ¬ v = 0 := fun q => by rw [q] at hv; exact absurd hv (by decide)
    refine xg_putf (fs' := [_, _, _, _, _, _, _, _, _, _, _, _, _, _, _, _, _, _, _, _, _, _, _, _]) xa_M_about_28 (by assumption) (Nat.le_of_ble_eq_true rfl) rfl rfl (fun h28 u28 => ?_)
    have hM1 := xMd_o (Mc' := v) hM u28
    obtain ⟨g22, g23, g24, g25, g26, g27, g28, g29, g30, g31, g32, g33, g34, g35, g36, g37, g38, g39⟩ := id hM1
    refine xg_aload_n xa_M_about_31 rfl ?_
    refine xg_getfield xa_M_about_32 (by assumption) rfl ?_
    refine xg_if_le xa_M_about_35 (fun c => absurd hv (Int32.not_lt.mpr c)) (fun _ => ?_)
    refine xg_iconst (v := 0) xa_M_about_38 (by decide) ?_
    refine xg_ireturn xa_M_about_39  ?_
    exact k1 v hv0 hc _ _ ⟨_, _, _, _, _, _, _, hM1, hA, hN⟩ (u28.toS (by decide) (by decide))
  refine xg_aload_n xa_M_about_0 rfl ?_
  refine xg_aload_n xa_M_about_1 rfl ?_
  refine xg_iload_n xa_M_about_2 rfl ?_
  refine xg_callV1 xa_M_about_3 ⟨Nat.le_of_ble_eq_true rfl, Nat.le_of_ble_eq_true rfl, rfl⟩ rfl rfl (by assumption) ?_
  refine c_M_noConnection hM ?_
  refine xK1_c ?_
  refine xg_if_eq xa_M_about_6 (fun c6 => ?_) (fun c => ?_)
  · have hf := (xz0 _).mp c6
    clear c6
    obtain ⟨c, hc, rfl, ht⟩ := xi_c hf
    rw [if_neg (by rw [hf]; decide)] at k0 bad
    have bad2 : (y < 0 ∨ ¬ y ≤ 6) → xG xs LS (d + 2) 98 (23, [some (.ref 22), some (.int (nI c)), some (.int y)], [.ref 22]) (h, ks, fl) Q := by
      intro q
      refine xg_iconst (v := 2) xa_M_about_23 (by decide) ?_
      refine xg_goto xa_M_about_24 ?_
      exact bad 2 (by decide) (if_pos q)
    refine xg_iload_n xa_M_about_13 rfl ?_
    refine xg_if_lt xa_M_about_14 (fun c => bad2 (Or.inl c)) (fun c14 => ?_)
    refine xg_iload_n xa_M_about_17 rfl ?_
    refine xg_bipush (v := 6) xa_M_about_18 (by decide) ?_
    refine xg_icmp_le xa_M_about_20 (fun c20 => ?_) (fun c => bad2 (Or.inr c))
    rw [if_neg (fun q => by
      rcases q with q | q
      · exact c14 q
      · exact q c20)] at k0
    obtain ⟨j, hj, rfl⟩ := nI_of2 (M := 6) (n := 6) (by decide) c14 c20
    refine xg_iconst (v := 0) xa_M_about_27 (by decide) ?_
    refine xg_putf (fs' := [_, _, _, _, _, _, _, _, _, _, _, _, _, _, _, _, _, _, _, _, _, _, _, _]) xa_M_about_28 (by assumption) (Nat.le_of_ble_eq_true rfl) rfl rfl (fun h28 u28 => ?_)
    have hM1 := xMd_o (Mc' := 0) hM u28
    obtain ⟨g22, g23, g24, g25, g26, g27, g28, g29, g30, g31, g32, g33, g34, g35, g36, g37, g38, g39⟩ := id hM1
    have kk := fun fl' => k0 rfl c j h28 fl' hc rfl ht hj rfl ⟨_, _, _, _, _, _, _, hM1, hA, hN⟩ (u28.toS (by decide) (by decide))
    clear k0 k1 bad bad2
    refine xg_aload_n xa_M_about_31 rfl ?_
    refine xg_getfield xa_M_about_32 (by assumption) rfl ?_
    refine xg_if_le xa_M_about_35 (fun _ => ?_) (fun c => absurd (by decide) c)
    refine xg_iload_n xa_M_about_40 rfl ?_
    have cases : j = 0 ∨ j = 1 ∨ j = 2 ∨ j = 3 ∨ j = 4 ∨ j = 5 ∨ j = 6 := by omega
    rcases cases with rfl | rfl | rfl | rfl | rfl | rfl | rfl
    · refine xg_tableIn (t := 80) (off := 39) xa_M_about_41 (by decide) (by decide) (by decide) ?_
      refine xg_aload_n xa_M_about_80 rfl ?_
      refine xg_getfield xa_M_about_81 (by assumption) rfl ?_
      refine xg_iload_n xa_M_about_84 rfl ?_
      refine xg_iald_n xa_M_about_85 (by assumption) rfl (by assumption) (by decide) ?_
      refine xg_ireturn xa_M_about_86  ?_
      exact kk _
    · refine xg_tableIn (t := 87) (off := 46) xa_M_about_41 (by decide) (by decide) (by decide) ?_
      refine xg_aload_n xa_M_about_87 rfl ?_
      refine xg_getfield xa_M_about_88 (by assumption) rfl ?_
      refine xg_iload_n xa_M_about_91 rfl ?_
      refine xg_iald_n xa_M_about_92 (by assumption) rfl (by assumption) (by decide) ?_
      refine xg_ireturn xa_M_about_93  ?_
      exact kk _
    · refine xg_tableIn (t := 94) (off := 53) xa_M_about_41 (by decide) (by decide) (by decide) ?_
      refine xg_aload_n xa_M_about_94 rfl ?_
      refine xg_getfield xa_M_about_95 (by assumption) rfl ?_
      refine xg_iload_n xa_M_about_98 rfl ?_
      refine xg_iald_n xa_M_about_99 (by assumption) rfl (by assumption) (by decide) ?_
      refine xg_ireturn xa_M_about_100  ?_
      exact kk _
    · refine xg_tableIn (t := 101) (off := 60) xa_M_about_41 (by decide) (by decide) (by decide) ?_
      refine xg_aload_n xa_M_about_101 rfl ?_
      refine xg_aload_n xa_M_about_102 rfl ?_
      refine xg_getfield xa_M_about_103 (by assumption) rfl ?_
      refine xg_iload_n xa_M_about_106 rfl ?_
      refine xg_iald_n xa_M_about_107 (by assumption) rfl (by assumption) (by decide) ?_
      refine xg_callV1 xa_M_about_108 ⟨Nat.le_of_ble_eq_true rfl, Nat.le_of_ble_eq_true rfl, rfl⟩ rfl rfl (by assumption) ?_
      refine c_M_lengthOf hM1 hm ?_
      refine xK1_c ?_
      refine xg_ireturn xa_M_about_111  ?_
      exact kk _
    · refine xg_tableIn (t := 112) (off := 71) xa_M_about_41 (by decide) (by decide) (by decide) ?_
      refine xg_aload_n xa_M_about_112 rfl ?_
      refine xg_getfield xa_M_about_113 (by assumption) rfl ?_
      refine xg_iload_n xa_M_about_116 rfl ?_
      refine xg_zald_n xa_M_about_117 (by assumption) rfl (by assumption) (by decide) ?_
      refine xg_if_eq xa_M_about_118 (fun c => ?_) (fun c => ?_)
      · have hg := (xz0 _).mp c
        have kk' : ∀ fl', Q (.inl (some (.int (-1)))) (h28, ks, fl') := fun fl' => by
          have := kk fl'
          unfold xabt at this
          rw [hg] at this
          exact this
        refine xg_iconst (v := (-1)) xa_M_about_134 (by decide) ?_
        refine xg_ireturn xa_M_about_135  ?_
        exact kk' _
      · have hg := xz1 c
        have kk' : ∀ fl', Q (.inl (some (.int (xlen (fun j => nI (Ml j)) (Msp _) Mm)))) (h28, ks, fl') := fun fl' => by
          have := kk fl'
          unfold xabt at this
          rw [hg] at this
          exact this
        refine xg_aload_n xa_M_about_121 rfl ?_
        refine xg_aload_n xa_M_about_122 rfl ?_
        refine xg_getfield xa_M_about_123 (by assumption) rfl ?_
        refine xg_iload_n xa_M_about_126 rfl ?_
        refine xg_iald_n xa_M_about_127 (by assumption) rfl (by assumption) (by decide) ?_
        refine xg_callV1 xa_M_about_128 ⟨Nat.le_of_ble_eq_true rfl, Nat.le_of_ble_eq_true rfl, rfl⟩ rfl rfl (by assumption) ?_
        refine c_M_lengthOf hM1 hm ?_
        refine xK1_c ?_
        refine xg_goto xa_M_about_131 ?_
        refine xg_ireturn xa_M_about_135  ?_
        exact kk' _
    · refine xg_tableIn (t := 136) (off := 95) xa_M_about_41 (by decide) (by decide) (by decide) ?_
      refine xg_aload_n xa_M_about_136 rfl ?_
      refine xg_getfield xa_M_about_137 (by assumption) rfl ?_
      refine xg_iload_n xa_M_about_140 rfl ?_
      refine xg_iald_n xa_M_about_141 (by assumption) rfl (by assumption) (by decide) ?_
      refine xg_ireturn xa_M_about_142  ?_
      exact kk _
    · refine xg_tableOut (t := 143) xa_M_about_41 (by decide) (by decide) ?_
      refine xg_aload_n xa_M_about_143 rfl ?_
      refine xg_getfield xa_M_about_144 (by assumption) rfl ?_
      refine xg_iload_n xa_M_about_147 rfl ?_
      refine xg_iald_n xa_M_about_148 (by assumption) rfl (by assumption) (by decide) ?_
      refine xg_ireturn xa_M_about_149  ?_
      exact kk _
  · refine xg_iconst (v := 1) xa_M_about_9 (by decide) ?_
    refine xg_goto xa_M_about_10 ?_
    exact bad 1 (by decide) (if_pos (xz1 c))
def cd_user (m : Nat) (x y : Int32) : Int32 := if xnS m x = true ∨ y < 0 ∨ ¬ y ≤ 3 then 1 else 0
theorem c_M_user {x y : Int32} (hm : Mm ≤ 14) (hM : xMs h Mc Mn Mm Mh Me Ml Mbr Mlk Mt Mg Ma Mb Mw Mwk Msp Mon Mct)
    (k1 : cd_user Mm x y = 1 → ∀ h' fl', xMs h' 1 Mn Mm Mh Me Ml Mbr Mlk Mt Mg Ma Mb Mw Mwk Msp Mon Mct → xS h h' 22 40 → Q (.inl (some (.int 0))) (h', ks, fl'))
    (k0 : cd_user Mm x y = 0 → ∀ f w h' fl', f < Mm → x = nI f → w < 4 → y = nI w → xMs h' 0 Mn Mm Mh Me Ml Mbr Mlk Mt Mg Ma Mb Mw Mwk Msp Mon Mct → xS h h' 22 40 → Q (.inl (some (.int (xo (xusr Mt Mw Mwk Msp f w))))) (h', ks, fl')) :
    xG xs LS (d + 2) 99 (0, xm_entry xP 99 [.ref 22, .int x, .int y], []) (h, ks, fl) Q := by
  show xG xs LS (d + 2) 99 (0, [some (.ref 22), some (.int x), some (.int y)], []) (h, ks, fl) Q
  obtain ⟨Mp, Mfw, Mfs, MS, MZ, MA, MN, hM, hA, hN⟩ := hM
  obtain ⟨g22, g23, g24, g25, g26, g27, g28, g29, g30, g31, g32, g33, g34, g35, g36, g37, g38, g39⟩ := id hM
  unfold cd_user at k1 k0
  have bad : (xnS Mm x = true ∨ y < 0 ∨ ¬ y ≤ 3) → xG xs LS (d + 2) 99 (18, [some (.ref 22), some (.int x), some (.int y)], [.ref 22]) (h, ks, fl) Q := by
    intro q
    rw [if_pos q] at k1
    refine xg_iconst (v := 1) xa_M_user_18 (by decide) ?_
    refine xg_goto xa_M_user_19 ?_
    refine xg_putf (fs' := [_, _, _, _, _, _, _, _, _, _, _, _, _, _, _, _, _, _, _, _, _, _, _, _]) xa_M_user_23 (by assumption) (Nat.le_of_ble_eq_true rfl) rfl rfl (fun h23 u23 => ?_)
    have hM1 := xMd_o (Mc' := 1) hM u23
    obtain ⟨g22, g23, g24, g25, g26, g27, g28, g29, g30, g31, g32, g33, g34, g35, g36, g37, g38, g39⟩ := id hM1
    refine xg_aload_n xa_M_user_26 rfl ?_
    refine xg_getfield xa_M_user_27 (by assumption) rfl ?_
    refine xg_if_le xa_M_user_30 (fun c => absurd c (by decide)) (fun _ => ?_)
    refine xg_iconst (v := 0) xa_M_user_33 (by decide) ?_
    refine xg_goto xa_M_user_34 ?_
    refine xg_ireturn xa_M_user_43  ?_
    exact k1 rfl _ _ ⟨_, _, _, _, _, _, _, hM1, hA, hN⟩ (u23.toS (by decide) (by decide))
  refine xg_aload_n xa_M_user_0 rfl ?_
  refine xg_aload_n xa_M_user_1 rfl ?_
  refine xg_iload_n xa_M_user_2 rfl ?_
  refine xg_callV1 xa_M_user_3 ⟨Nat.le_of_ble_eq_true rfl, Nat.le_of_ble_eq_true rfl, rfl⟩ rfl rfl (by assumption) ?_
  refine c_M_noFibre hM ?_
  refine xK1_c ?_
  refine xg_if_ne xa_M_user_6 (fun c => bad (Or.inl (xz1 c))) (fun c6 => ?_)
  refine xg_iload_n xa_M_user_9 rfl ?_
  refine xg_if_lt xa_M_user_10 (fun c => bad (Or.inr (Or.inl c))) (fun c10 => ?_)
  refine xg_iload_n xa_M_user_13 rfl ?_
  refine xg_iconst (v := 3) xa_M_user_14 (by decide) ?_
  refine xg_icmp_le xa_M_user_15 (fun c15 => ?_) (fun c => bad (Or.inr (Or.inr c)))
  have hf := (xz0 _).mp c6
  obtain ⟨f, hf14, rfl⟩ := xi_s (by omega) hf
  rw [if_neg (fun q => by
    rcases q with q | q | q
    · rw [hf] at q; cases q
    · exact c10 q
    · exact q c15)] at k0
  obtain ⟨w, hw, rfl⟩ := nI_of2 (M := 3) (n := 3) (by decide) c10 c15
  refine xg_iconst (v := 0) xa_M_user_22 (by decide) ?_
  refine xg_putf (fs' := [_, _, _, _, _, _, _, _, _, _, _, _, _, _, _, _, _, _, _, _, _, _, _, _]) xa_M_user_23 (by assumption) (Nat.le_of_ble_eq_true rfl) rfl rfl (fun h23 u23 => ?_)
  have hM1 := xMd_o (Mc' := 0) hM u23
  obtain ⟨g22, g23, g24, g25, g26, g27, g28, g29, g30, g31, g32, g33, g34, g35, g36, g37, g38, g39⟩ := id hM1
  refine xg_aload_n xa_M_user_26 rfl ?_
  refine xg_getfield xa_M_user_27 (by assumption) rfl ?_
  refine xg_if_le xa_M_user_30 (fun _ => ?_) (fun c => absurd (by decide) c)
  refine xg_aload_n xa_M_user_37 rfl ?_
  refine xg_iload_n xa_M_user_38 rfl ?_
  refine xg_iload_n xa_M_user_39 rfl ?_
  refine xg_callV1 xa_M_user_40 ⟨Nat.le_of_ble_eq_true rfl, Nat.le_of_ble_eq_true rfl, rfl⟩ rfl rfl (by assumption) ?_
  refine c_M_userOf hM1 (by omega) ?_
  refine xK1_c ?_
  refine xg_ireturn xa_M_user_43  ?_
  exact k0 rfl f w _ _ hf14 rfl (by omega) rfl ⟨_, _, _, _, _, _, _, hM1, hA, hN⟩ (u23.toS (by decide) (by decide))
def cd_fits (n : Nat) (a b : Int32) : Int32 := if xnS n a = true ∨ xnS n b = true then 1 else if a = b then 2 else 0
/-- on how many of the first wavelengths something is found -/
def xfit (F : Nat → Option (Int32 × Int32)) : Nat → Nat
  | 0 => 0
  | n + 1 => if F n = none then xfit F n else xfit F n + 1
theorem c_M_fits {a b : Int32} (hn : Mn ≤ 7) (hm : Mm ≤ 14) (hE : ∀ j, Me j < 7) (hF : ∀ x y s, x < Mn → y < Mn → ¬ x = y → xFok Ml Mm (xPL Me Mm s x y)) (hM : xMs h Mc Mn Mm Mh Me Ml Mbr Mlk Mt Mg Ma Mb Mw Mwk Msp Mon Mct)
    (k1 : ∀ v, ¬ v = 0 → cd_fits Mn a b = v → ∀ h' fl', xMs h' v Mn Mm Mh Me Ml Mbr Mlk Mt Mg Ma Mb Mw Mwk Msp Mon Mct → xS h h' 22 40 → Q (.inl (some (.int 0))) (h', ks, fl'))
    (k0 : cd_fits Mn a b = 0 → ∀ x y h' fl', x < Mn → y < Mn → ¬ x = y → a = nI x → b = nI y → xMs h' 0 Mn Mm Mh Me Ml Mbr Mlk Mt Mg Ma Mb Mw Mwk Msp Mon Mct → xS h h' 22 40 → Q (.inl (some (.int (nI (xfit (xfw Mm Me Ml Mbr Mlk Mt Mw Mwk Msp x y true) 4))))) (h', ks, fl')) :
    xG xs LS (d + 5) 100 (0, xm_entry xP 100 [.ref 22, .int a, .int b], []) (h, ks, fl) Q := by
  show xG xs LS (d + 5) 100 (0, [some (.ref 22), some (.int a), some (.int b), none, none], []) (h, ks, fl) Q
  obtain ⟨Mp, Mfw, Mfs, MS, MZ, MA, MN, hM, hA, hN⟩ := hM
  obtain ⟨g22, g23, g24, g25, g26, g27, g28, g29, g30, g31, g32, g33, g34, g35, g36, g37, g38, g39⟩ := id hM
  have bad : ∀ v, 0 < v → cd_fits Mn a b = v → xG xs LS (d + 5) 100 (31, [some (.ref 22), some (.int a), some (.int b), none, none], [.int v, .ref 22]) (h, ks, fl) Q := by
    intro v hv hc
    have hv0 : ¬ v = 0 := fun q => by rw [q] at hv; exact absurd hv (by decide)
    refine xg_putf (fs' := [_, _, _, _, _, _, _, _, _, _, _, _, _, _, _, _, _, _, _, _, _, _, _, _]) xa_M_fits_31 (by assumption) (Nat.le_of_ble_eq_true rfl) rfl rfl (fun h31 u31 => ?_)
    have hM1 := xMd_o (Mc' := v) hM u31
    obtain ⟨g22, g23, g24, g25, g26, g27, g28, g29, g30, g31, g32, g33, g34, g35, g36, g37, g38, g39⟩ := id hM1
    refine xg_aload_n xa_M_fits_34 rfl ?_
    refine xg_getfield xa_M_fits_35 (by assumption) rfl ?_
    refine xg_if_le xa_M_fits_38 (fun c => absurd hv (Int32.not_lt.mpr c)) (fun _ => ?_)
    refine xg_iconst (v := 0) xa_M_fits_41 (by decide) ?_
    refine xg_ireturn xa_M_fits_42  ?_
    exact k1 v hv0 hc _ _ ⟨_, _, _, _, _, _, _, hM1, hA, hN⟩ (u31.toS (by decide) (by decide))
  have bad1 : (xnS Mn a = true ∨ xnS Mn b = true) → xG xs LS (d + 5) 100 (17, [some (.ref 22), some (.int a), some (.int b), none, none], [.ref 22]) (h, ks, fl) Q := by
    intro hc
    refine xg_iconst (v := 1) xa_M_fits_17 (by decide) ?_
    refine xg_goto xa_M_fits_18 ?_
    exact bad 1 (by decide) (by unfold cd_fits; rw [if_pos hc])
  refine xg_aload_n xa_M_fits_0 rfl ?_
  refine xg_aload_n xa_M_fits_1 rfl ?_
  refine xg_iload_n xa_M_fits_2 rfl ?_
  refine xg_callV1 xa_M_fits_3 ⟨Nat.le_of_ble_eq_true rfl, Nat.le_of_ble_eq_true rfl, rfl⟩ rfl rfl (by assumption) ?_
  refine c_M_noSite hM ?_
  refine xK1_c ?_
  refine xg_if_ne xa_M_fits_6 (fun c => bad1 (Or.inl (xz1 c))) (fun c6 => ?_)
  refine xg_aload_n xa_M_fits_9 rfl ?_
  refine xg_iload_n xa_M_fits_10 rfl ?_
  refine xg_callV1 xa_M_fits_11 ⟨Nat.le_of_ble_eq_true rfl, Nat.le_of_ble_eq_true rfl, rfl⟩ rfl rfl (by assumption) ?_
  refine c_M_noSite hM ?_
  refine xK1_c ?_
  refine xg_if_eq xa_M_fits_14 (fun c14 => ?_) (fun c => bad1 (Or.inr (xz1 c)))
  have n1 : ¬ (xnS Mn a = true ∨ xnS Mn b = true) := fun q => by
    rw [(xz0 _).mp c6, (xz0 _).mp c14] at q
    rcases q with q | q <;> cases q
  refine xg_iload_n xa_M_fits_21 rfl ?_
  refine xg_iload_n xa_M_fits_22 rfl ?_
  refine xg_icmp_ne xa_M_fits_23 (fun c23 => ?_) (fun c => ?_)
  · have e0 : cd_fits Mn a b = 0 := by unfold cd_fits; rw [if_neg n1, if_neg c23]
    obtain ⟨x, hx, rfl⟩ := xi_s (by omega) ((xz0 _).mp c6)
    obtain ⟨y, hy, rfl⟩ := xi_s (by omega) ((xz0 _).mp c14)
    have hxy : ¬ x = y := fun q => c23 (by rw [q])
    have kk := fun h' fl' => k0 e0 x y h' fl' hx hy hxy rfl rfl
    clear k0 k1 bad bad1
    refine xg_iconst (v := 0) xa_M_fits_30 (by decide) ?_
    refine xg_putf (fs' := [_, _, _, _, _, _, _, _, _, _, _, _, _, _, _, _, _, _, _, _, _, _, _, _]) xa_M_fits_31 (by assumption) (Nat.le_of_ble_eq_true rfl) rfl rfl (fun h31 u31 => ?_)
    have hM1 := xMd_o (Mc' := 0) hM u31
    obtain ⟨g22, g23, g24, g25, g26, g27, g28, g29, g30, g31, g32, g33, g34, g35, g36, g37, g38, g39⟩ := id hM1
    refine xg_aload_n xa_M_fits_34 rfl ?_
    refine xg_getfield xa_M_fits_35 (by assumption) rfl ?_
    refine xg_if_le xa_M_fits_38 (fun _ => ?_) (fun c => absurd (by decide) c)
    have loop : ∀ n w h1 fl', w + n = 4 → xMs h1 0 Mn Mm Mh Me Ml Mbr Mlk Mt Mg Ma Mb Mw Mwk Msp Mon Mct → xS h h1 22 40 → xG xs LS (d + 5) 100 (48, [some (.ref 22), some (.int (nI x)), some (.int (nI y)), some (.int (nI (xfit (xfw Mm Me Ml Mbr Mlk Mt Mw Mwk Msp x y true) w))), some (.int (nI w))], []) (h1, ks, fl') Q := by
      intro n
      induction n with
      | zero =>
        intro w h1 fl' hw hM hS
        have e : w = 4 := by omega
        subst e
        refine xg_iload xa_M_fits_48 rfl ?_
        refine xg_iconst (v := 4) xa_M_fits_50 (by decide) ?_
        refine xg_icmp_ge xa_M_fits_51 (fun c51 => ?_) (fun c51 => absurd (by decide) c51)
        refine xg_iload_n xa_M_fits_78 rfl ?_
        refine xg_ireturn xa_M_fits_79  ?_
        exact kk _ _ hM hS
      | succ n ih =>
        intro w h1 fl' hw hM hS
        have hM0 := hM
        obtain ⟨Mp, Mfw, Mfs, MS, MZ, MA, MN, hM, hA, hN⟩ := hM
        obtain ⟨g22, g23, g24, g25, g26, g27, g28, g29, g30, g31, g32, g33, g34, g35, g36, g37, g38, g39⟩ := id hM
        have ex : xfit (xfw Mm Me Ml Mbr Mlk Mt Mw Mwk Msp x y true) (w + 1) = if xfw Mm Me Ml Mbr Mlk Mt Mw Mwk Msp x y true w = none then xfit (xfw Mm Me Ml Mbr Mlk Mt Mw Mwk Msp x y true) w else xfit (xfw Mm Me Ml Mbr Mlk Mt Mw Mwk Msp x y true) w + 1 := rfl
        refine xg_iload xa_M_fits_48 rfl ?_
        refine xg_iconst (v := 4) xa_M_fits_50 (by decide) ?_
        refine xg_icmp_ge xa_M_fits_51 (fun c => absurd c (show ¬ nI 4 ≤ nI w from nI_ge (by omega) (by omega))) (fun _ => ?_)
        refine xg_aload_n xa_M_fits_54 rfl ?_
        refine xg_aload_n xa_M_fits_55 rfl ?_
        refine xg_iload xa_M_fits_56 rfl ?_
        refine xg_callV1 xa_M_fits_58 ⟨Nat.le_of_ble_eq_true rfl, Nat.le_of_ble_eq_true rfl, rfl⟩ rfl rfl (by assumption) ?_
        refine c_M_free hM hm ?_
        refine xK1_c ?_
        refine xg_iload_n xa_M_fits_61 rfl ?_
        refine xg_iload_n xa_M_fits_62 rfl ?_
        refine xg_callV1 xa_M_fits_63 ⟨Nat.le_of_ble_eq_true rfl, Nat.le_of_ble_eq_true rfl, rfl⟩ rfl rfl (by assumption) ?_
        refine c_M_findPair' hm hE (by omega) (by omega) (hF x y _ hx hy hxy) hM0 (fun h2 fl2 q1 q2 q3 => ?_) (fun h2 fl2 p Mp MS MZ MA MN q1 q2 q3 q4 q5 => ?_)
        · refine xK1_d ?_
          rw [if_pos q3] at ex
          refine xg_if_eq xa_M_fits_66 (fun _ => ?_) (fun c => absurd rfl c)
          refine xg_iinc (L' := [_, _, _, _, _]) xa_M_fits_72 rfl (xi_inc _) rfl ?_
          refine xg_goto xa_M_fits_75 ?_
          rw [← ex]
          exact ih (w + 1) h2 _ (by omega) q1 (hS.tr q2)
        · refine xK1_d ?_
          rw [if_neg (fun q => by rw [show xfw Mm Me Ml Mbr Mlk Mt Mw Mwk Msp x y true w = some p from q5] at q; cases q)] at ex
          refine xg_if_eq xa_M_fits_66 (fun c => absurd c (by decide)) (fun _ => ?_)
          refine xg_iinc (L' := [_, _, _, _, _]) xa_M_fits_69 rfl (xi_inc _) rfl ?_
          refine xg_iinc (L' := [_, _, _, _, _]) xa_M_fits_72 rfl (xi_inc _) rfl ?_
          refine xg_goto xa_M_fits_75 ?_
          rw [← ex]
          exact ih (w + 1) h2 _ (by omega) ⟨_, _, _, _, _, _, _, q1, q2, q3⟩ (hS.tr q4)
    refine xg_iconst (v := 0) xa_M_fits_43 (by decide) ?_
    refine xg_istore_n (L' := [_, _, _, _, _]) xa_M_fits_44 (Nat.le_of_ble_eq_true rfl) rfl ?_
    refine xg_iconst (v := 0) xa_M_fits_45 (by decide) ?_
    refine xg_istore (L' := [_, _, _, _, _]) xa_M_fits_46 (Nat.le_of_ble_eq_true rfl) rfl ?_
    exact loop 4 0 _ _ (by omega) ⟨_, _, _, _, _, _, _, hM1, hA, hN⟩ (u31.toS (by decide) (by decide))
  · refine xg_iconst (v := 2) xa_M_fits_26 (by decide) ?_
    refine xg_goto xa_M_fits_27 ?_
    exact bad 2 (by decide) (by unfold cd_fits; rw [if_neg n1, if_pos c])
def cd_bridge (n : Nat) (a b w : Int32) : Int32 := if xnS n a = true ∨ xnS n b = true ∨ w < 0 ∨ ¬ w ≤ 3 then 1 else if a = b then 2 else 0
/-- the fibres that are in s and in all the paths -/
def xshr (s : Int32) (S : Nat → Int32) : Nat → Int32
  | 0 => s
  | p + 1 => xshr s S p &&& S p
theorem xshr_congr {s : Int32} {S S' : Nat → Int32} : ∀ n, (∀ i, i < n → S i = S' i) → xshr s S n = xshr s S' n := by
  intro n
  induction n with
  | zero => intro _; rfl
  | succ n ih =>
    intro hS
    unfold xshr
    rw [ih (fun i hi => hS i (by omega)), hS n (by omega)]
/-- bridge: the first of the shared ones, by the paths L among s -/
def xbrg (m : Nat) (s : Int32) (L : List Int32) : Int32 := if L.length = 0 then -1 else match xfst (xb (xshr s (xLS L) L.length)) m 0 with
  | none => -2
  | some f => nI f
theorem c_M_bridge {a b w : Int32} (hn : Mn ≤ 7) (hm : Mm ≤ 14) (hE : ∀ j, Me j < 7) (hF : ∀ x y s, x < Mn → y < Mn → ¬ x = y → xFok Ml Mm (xPL Me Mm s x y)) (hM : xMs h Mc Mn Mm Mh Me Ml Mbr Mlk Mt Mg Ma Mb Mw Mwk Msp Mon Mct)
    (k1 : ∀ v, ¬ v = 0 → cd_bridge Mn a b w = v → ∀ h' fl', xMs h' v Mn Mm Mh Me Ml Mbr Mlk Mt Mg Ma Mb Mw Mwk Msp Mon Mct → xS h h' 22 40 → Q (.inl (some (.int 0))) (h', ks, fl'))
    (k0 : cd_bridge Mn a b w = 0 → ∀ x y z h' fl', x < Mn → y < Mn → ¬ x = y → z < 4 → a = nI x → b = nI y → w = nI z → xMs h' 0 Mn Mm Mh Me Ml Mbr Mlk Mt Mg Ma Mb Mw Mwk Msp Mon Mct → xS h h' 22 40 → Q (.inl (some (.int (xbrg Mm (xfre Mbr Mlk Mt Mw Mwk Msp z Mm) (xPL Me Mm (xfre Mbr Mlk Mt Mw Mwk Msp z Mm) x y))))) (h', ks, fl')) :
    xG xs LS (d + 5) 101 (0, xm_entry xP 101 [.ref 22, .int a, .int b, .int w], []) (h, ks, fl) Q := by
  show xG xs LS (d + 5) 101 (0, [some (.ref 22), some (.int a), some (.int b), some (.int w), none, none, none], []) (h, ks, fl) Q
  obtain ⟨Mp, Mfw, Mfs, MS, MZ, MA, MN, hM, hA, hN⟩ := hM
  obtain ⟨g22, g23, g24, g25, g26, g27, g28, g29, g30, g31, g32, g33, g34, g35, g36, g37, g38, g39⟩ := id hM
  have bad : ∀ v, 0 < v → cd_bridge Mn a b w = v → xG xs LS (d + 5) 101 (40, [some (.ref 22), some (.int a), some (.int b), some (.int w), none, none, none], [.int v, .ref 22]) (h, ks, fl) Q := by
    intro v hv hc
    have hv0 : ¬ v = 0 := fun q => by rw [q] at hv; exact absurd hv (by decide)
    refine xg_putf (fs' := [_, _, _, _, _, _, _, _, _, _, _, _, _, _, _, _, _, _, _, _, _, _, _, _]) xa_M_bridge_40 (by assumption) (Nat.le_of_ble_eq_true rfl) rfl rfl (fun h40 u40 => ?_)
    have hM1 := xMd_o (Mc' := v) hM u40
    obtain ⟨g22, g23, g24, g25, g26, g27, g28, g29, g30, g31, g32, g33, g34, g35, g36, g37, g38, g39⟩ := id hM1
    refine xg_aload_n xa_M_bridge_43 rfl ?_
    refine xg_getfield xa_M_bridge_44 (by assumption) rfl ?_
    refine xg_if_le xa_M_bridge_47 (fun c => absurd hv (Int32.not_lt.mpr c)) (fun _ => ?_)
    refine xg_iconst (v := 0) xa_M_bridge_50 (by decide) ?_
    refine xg_ireturn xa_M_bridge_51  ?_
    exact k1 v hv0 hc _ _ ⟨_, _, _, _, _, _, _, hM1, hA, hN⟩ (u40.toS (by decide) (by decide))
  have bad1 : (xnS Mn a = true ∨ xnS Mn b = true ∨ w < 0 ∨ ¬ w ≤ 3) → xG xs LS (d + 5) 101 (26, [some (.ref 22), some (.int a), some (.int b), some (.int w), none, none, none], [.ref 22]) (h, ks, fl) Q := by
    intro hc
    refine xg_iconst (v := 1) xa_M_bridge_26 (by decide) ?_
    refine xg_goto xa_M_bridge_27 ?_
    exact bad 1 (by decide) (by unfold cd_bridge; rw [if_pos hc])
  refine xg_aload_n xa_M_bridge_0 rfl ?_
  refine xg_aload_n xa_M_bridge_1 rfl ?_
  refine xg_iload_n xa_M_bridge_2 rfl ?_
  refine xg_callV1 xa_M_bridge_3 ⟨Nat.le_of_ble_eq_true rfl, Nat.le_of_ble_eq_true rfl, rfl⟩ rfl rfl (by assumption) ?_
  refine c_M_noSite hM ?_
  refine xK1_c ?_
  refine xg_if_ne xa_M_bridge_6 (fun c => bad1 (Or.inl (xz1 c))) (fun c6 => ?_)
  refine xg_aload_n xa_M_bridge_9 rfl ?_
  refine xg_iload_n xa_M_bridge_10 rfl ?_
  refine xg_callV1 xa_M_bridge_11 ⟨Nat.le_of_ble_eq_true rfl, Nat.le_of_ble_eq_true rfl, rfl⟩ rfl rfl (by assumption) ?_
  refine c_M_noSite hM ?_
  refine xK1_c ?_
  refine xg_if_ne xa_M_bridge_14 (fun c => bad1 (Or.inr (Or.inl (xz1 c)))) (fun c14 => ?_)
  refine xg_iload_n xa_M_bridge_17 rfl ?_
  refine xg_if_lt xa_M_bridge_18 (fun c => bad1 (Or.inr (Or.inr (Or.inl c)))) (fun c18 => ?_)
  refine xg_iload_n xa_M_bridge_21 rfl ?_
  refine xg_iconst (v := 3) xa_M_bridge_22 (by decide) ?_
  refine xg_icmp_le xa_M_bridge_23 (fun c23 => ?_) (fun c => bad1 (Or.inr (Or.inr (Or.inr c))))
  have n1 : ¬ (xnS Mn a = true ∨ xnS Mn b = true ∨ w < 0 ∨ ¬ w ≤ 3) := fun q => by
    rw [(xz0 _).mp c6, (xz0 _).mp c14] at q
    rcases q with q | q | q | q
    · cases q
    · cases q
    · exact c18 q
    · exact q c23
  refine xg_iload_n xa_M_bridge_30 rfl ?_
  refine xg_iload_n xa_M_bridge_31 rfl ?_
  refine xg_icmp_ne xa_M_bridge_32 (fun c32 => ?_) (fun c => ?_)
  · have e0 : cd_bridge Mn a b w = 0 := by unfold cd_bridge; rw [if_neg n1, if_neg c32]
    obtain ⟨x, hx, rfl⟩ := xi_s (by omega) ((xz0 _).mp c6)
    obtain ⟨y, hy, rfl⟩ := xi_s (by omega) ((xz0 _).mp c14)
    obtain ⟨z, hz, rfl⟩ := nI_of2 (M := 3) (n := 3) (by decide) c18 c23
    have hxy : ¬ x = y := fun q => c32 (by rw [q])
    have kk := fun h' fl' => k0 e0 x y z h' fl' hx hy hxy (by omega) rfl rfl rfl
    clear k0 k1 bad bad1
    refine xg_iconst (v := 0) xa_M_bridge_39 (by decide) ?_
    refine xg_putf (fs' := [_, _, _, _, _, _, _, _, _, _, _, _, _, _, _, _, _, _, _, _, _, _, _, _]) xa_M_bridge_40 (by assumption) (Nat.le_of_ble_eq_true rfl) rfl rfl (fun h40 u40 => ?_)
    have hM1 := xMd_o (Mc' := 0) hM u40
    obtain ⟨g22, g23, g24, g25, g26, g27, g28, g29, g30, g31, g32, g33, g34, g35, g36, g37, g38, g39⟩ := id hM1
    refine xg_aload_n xa_M_bridge_43 rfl ?_
    refine xg_getfield xa_M_bridge_44 (by assumption) rfl ?_
    refine xg_if_le xa_M_bridge_47 (fun _ => ?_) (fun c => absurd (by decide) c)
    refine xg_aload_n xa_M_bridge_52 rfl ?_
    refine xg_iload_n xa_M_bridge_53 rfl ?_
    refine xg_callV1 xa_M_bridge_54 ⟨Nat.le_of_ble_eq_true rfl, Nat.le_of_ble_eq_true rfl, rfl⟩ rfl rfl (by assumption) ?_
    refine c_M_free hM1 hm ?_
    refine xK1_c ?_
    refine xg_istore (L' := [_, _, _, _, _, _, _]) xa_M_bridge_57 (Nat.le_of_ble_eq_true rfl) rfl ?_
    refine xg_aload_n xa_M_bridge_59 rfl ?_
    refine xg_iload xa_M_bridge_60 rfl ?_
    refine xg_iload_n xa_M_bridge_62 rfl ?_
    refine xg_iload_n xa_M_bridge_63 rfl ?_
    refine xg_callV0 xa_M_bridge_64 ⟨Nat.le_of_ble_eq_true rfl, Nat.le_of_ble_eq_true rfl, rfl⟩ rfl rfl (by assumption) ?_
    have hFs := hF x y (xfre Mbr Mlk Mt Mw Mwk Msp z Mm) hx hy hxy
    generalize xfre Mbr Mlk Mt Mw Mwk Msp z Mm = s at *
    refine c_M_list hm hE (by omega) (by omega) hA hN hFs.1 hM1 (fun h' fl' S Z A N hM' hS' hSZ hA' hN' => xK0_d ?_)
    have kk := fun fl' => kk h' fl' ⟨_, _, _, _, _, _, _, hM', hA', hN'⟩ ((u40.toS (by decide) (by decide)).tr hS')
    have hSe := xSZ_eq hSZ
    unfold xbrg at kk
    generalize hL : xPL Me Mm s x y = L at *
    have hl4 := hFs.1
    obtain ⟨g22, g23, g24, g25, g26, g27, g28, g29, g30, g31, g32, g33, g34, g35, g36, g37, g38, g39⟩ := id hM'
    refine xg_aload_n xa_M_bridge_67 rfl ?_
    refine xg_getfield xa_M_bridge_68 (by assumption) rfl ?_
    refine xg_if_ne xa_M_bridge_71 (fun c71 => ?_) (fun c71 => ?_)
    · have hl0 : ¬ L.length = 0 := fun q => c71 (by rw [q]; rfl)
      rw [if_neg hl0] at kk
      have loop2 : ∀ n i fl', i + n = Mm → (∀ fl', Q (.inl (some (.int (match xfst (xb (xshr s S L.length)) n i with | none => -2 | some f => nI f)))) (h', ks, fl')) → xG xs LS (d + 5) 101 (113, [some (.ref 22), some (.int (nI x)), some (.int (nI y)), some (.int (nI z)), some (.int s), some (.int (xshr s S L.length)), some (.int (nI i))], []) (h', ks, fl') Q := by
        intro n
        induction n with
        | zero =>
          intro i fl' hi kz
          have e : i = Mm := by omega
          subst e
          refine xg_iload xa_M_bridge_113 rfl ?_
          refine xg_aload_n xa_M_bridge_115 rfl ?_
          refine xg_getfield xa_M_bridge_116 (by assumption) rfl ?_
          refine xg_icmp_ge xa_M_bridge_119 (fun c119 => ?_) (fun c119 => absurd (nI_le (by omega) (by omega)) c119)
          refine xg_bipush (v := (-2)) xa_M_bridge_142 (by decide) ?_
          refine xg_ireturn xa_M_bridge_144  ?_
          exact kz _
        | succ n ih =>
          intro i fl' hi kz
          unfold xfst at kz
          refine xg_iload xa_M_bridge_113 rfl ?_
          refine xg_aload_n xa_M_bridge_115 rfl ?_
          refine xg_getfield xa_M_bridge_116 (by assumption) rfl ?_
          refine xg_icmp_ge xa_M_bridge_119 (fun c => absurd c (nI_ge (by omega) (by omega))) (fun _ => ?_)
          refine xg_iload xa_M_bridge_122 rfl ?_
          refine xg_iload xa_M_bridge_124 rfl ?_
          refine xg_callS1 xa_M_bridge_126 ⟨Nat.le_of_ble_eq_true rfl, Nat.le_of_ble_eq_true rfl, rfl⟩ rfl rfl ?_
          refine c_M_bit (by omega) ?_
          refine xK1_c ?_
          refine xg_iconst (v := 1) xa_M_bridge_129 (by decide) ?_
          refine xg_icmp_ne xa_M_bridge_130 (fun c => ?_) (fun c => ?_)
          · have hb : ¬ xb (xshr s S L.length) i = true := fun q => c (by rw [q]; rfl)
            rw [if_neg hb] at kz
            refine xg_iinc (L' := [_, _, _, _, _, _, _]) xa_M_bridge_136 rfl (xi_inc _) rfl ?_
            refine xg_goto xa_M_bridge_139 ?_
            exact ih (i + 1) _ (by omega) kz
          · have hb : xb (xshr s S L.length) i = true := xz_inj.mp c
            rw [if_pos hb] at kz
            refine xg_iload xa_M_bridge_133 rfl ?_
            refine xg_ireturn xa_M_bridge_135  ?_
            exact kz _
      have loop1 : ∀ n p fl', p + n = L.length → xG xs LS (d + 5) 101 (83, [some (.ref 22), some (.int (nI x)), some (.int (nI y)), some (.int (nI z)), some (.int s), some (.int (xshr s S p)), some (.int (nI p))], []) (h', ks, fl') Q := by
        intro n
        induction n with
        | zero =>
          intro p fl' hp
          have e : p = L.length := by omega
          subst e
          refine xg_iload xa_M_bridge_83 rfl ?_
          refine xg_aload_n xa_M_bridge_85 rfl ?_
          refine xg_getfield xa_M_bridge_86 (by assumption) rfl ?_
          refine xg_icmp_ge xa_M_bridge_89 (fun _ => ?_) (fun c => absurd (nI_le (by omega) (by omega)) c)
          refine xg_iconst (v := 0) xa_M_bridge_110 (by decide) ?_
          refine xg_istore (L' := [_, _, _, _, _, _, _]) xa_M_bridge_111 (Nat.le_of_ble_eq_true rfl) rfl ?_
          refine loop2 Mm 0 _ (by omega) ?_
          rw [xshr_congr _ (fun i hi => (hSe i hi).1)]
          exact kk
        | succ n ih =>
          intro p fl' hp
          have hp4 : p < 4000 := by omega
          refine xg_iload xa_M_bridge_83 rfl ?_
          refine xg_aload_n xa_M_bridge_85 rfl ?_
          refine xg_getfield xa_M_bridge_86 (by assumption) rfl ?_
          refine xg_icmp_ge xa_M_bridge_89 (fun c => absurd c (nI_ge (by omega) (by omega))) (fun _ => ?_)
          refine xg_iload xa_M_bridge_92 rfl ?_
          refine xg_aload_n xa_M_bridge_94 rfl ?_
          refine xg_getfield xa_M_bridge_95 (by assumption) rfl ?_
          refine xg_iload xa_M_bridge_98 rfl ?_
          refine xg_iald_n xa_M_bridge_100 (by assumption) rfl (by assumption) (by decide) ?_
          refine xg_iand xa_M_bridge_101 rfl ?_
          refine xg_istore (L' := [_, _, _, _, _, _, _]) xa_M_bridge_102 (Nat.le_of_ble_eq_true rfl) rfl ?_
          refine xg_iinc (L' := [_, _, _, _, _, _, _]) xa_M_bridge_104 rfl (xi_inc _) rfl ?_
          refine xg_goto xa_M_bridge_107 ?_
          exact ih (p + 1) _ (by omega)
      refine xg_iload xa_M_bridge_76 rfl ?_
      refine xg_istore (L' := [_, _, _, _, _, _, _]) xa_M_bridge_78 (Nat.le_of_ble_eq_true rfl) rfl ?_
      refine xg_iconst (v := 0) xa_M_bridge_80 (by decide) ?_
      refine xg_istore (L' := [_, _, _, _, _, _, _]) xa_M_bridge_81 (Nat.le_of_ble_eq_true rfl) rfl ?_
      exact loop1 L.length 0 _ (by omega)
    · have hl0 : L.length = 0 := (nI_eq (by omega) (by omega)).mp (show nI L.length = nI 0 from c71)
      rw [if_pos hl0] at kk
      refine xg_iconst (v := (-1)) xa_M_bridge_74 (by decide) ?_
      refine xg_ireturn xa_M_bridge_75  ?_
      exact kk _
  · refine xg_iconst (v := 2) xa_M_bridge_35 (by decide) ?_
    refine xg_goto xa_M_bridge_36 ?_
    exact bad 2 (by decide) (by unfold cd_bridge; rw [if_neg n1, if_pos c])
/-- how many of the first n hold -/
def xcnt (p : Nat → Bool) : Nat → Nat
  | 0 => 0
  | n + 1 => if p n = true then xcnt p n + 1 else xcnt p n
abbrev xexp (t g : Nat → Bool) (on : Nat → Int32) (c : Nat) : Bool := t c && g c && decide (on c = 2)
theorem c_M_exposed (hM : xMs h Mc Mn Mm Mh Me Ml Mbr Mlk Mt Mg Ma Mb Mw Mwk Msp Mon Mct) (k : ∀ h' fl', xMs h' 0 Mn Mm Mh Me Ml Mbr Mlk Mt Mg Ma Mb Mw Mwk Msp Mon Mct → xS h h' 22 40 → Q (.inl (some (.int (nI (xcnt (xexp Mt Mg Mon) 12))))) (h', ks, fl')) :
    xG xs LS d 102 (0, xm_entry xP 102 [.ref 22], []) (h, ks, fl) Q := by
  show xG xs LS d 102 (0, [some (.ref 22), none, none], []) (h, ks, fl) Q
  obtain ⟨Mp, Mfw, Mfs, MS, MZ, MA, MN, hM, hA, hN⟩ := hM
  obtain ⟨g22, g23, g24, g25, g26, g27, g28, g29, g30, g31, g32, g33, g34, g35, g36, g37, g38, g39⟩ := id hM
  refine xg_aload_n xa_M_exposed_0 rfl ?_
  refine xg_iconst (v := 0) xa_M_exposed_1 (by decide) ?_
  refine xg_putf (fs' := [_, _, _, _, _, _, _, _, _, _, _, _, _, _, _, _, _, _, _, _, _, _, _, _]) xa_M_exposed_2 (by assumption) (Nat.le_of_ble_eq_true rfl) rfl rfl (fun hq2 u2 => ?_)
  have hM1 := xMd_o (Mc' := 0) hM u2
  have k := fun fl' => k hq2 fl' ⟨_, _, _, _, _, _, _, hM1, hA, hN⟩ (u2.toS (by decide) (by decide))
  obtain ⟨g22, g23, g24, g25, g26, g27, g28, g29, g30, g31, g32, g33, g34, g35, g36, g37, g38, g39⟩ := id hM1
  have loop : ∀ n i fl', i + n = 12 → xG xs LS d 102 (9, [some (.ref 22), some (.int (nI (xcnt (xexp Mt Mg Mon) i))), some (.int (nI i))], []) (hq2, ks, fl') Q := by
    intro n
    induction n with
    | zero =>
      intro i fl' hi
      have e : i = 12 := by omega
      subst e
      refine xg_iload_n xa_M_exposed_9 rfl ?_
      refine xg_bipush (v := 12) xa_M_exposed_10 (by decide) ?_
      refine xg_icmp_ge xa_M_exposed_12 (fun c12 => ?_) (fun c12 => absurd (by decide) c12)
      refine xg_iload_n xa_M_exposed_52 rfl ?_
      refine xg_ireturn xa_M_exposed_53  ?_
      exact k _
    | succ n ih =>
      intro i fl' hi
      have hi12 : i < 12 := by omega
      have ex : xcnt (xexp Mt Mg Mon) (i + 1) = if xexp Mt Mg Mon i = true then xcnt (xexp Mt Mg Mon) i + 1 else xcnt (xexp Mt Mg Mon) i := rfl
      have no : ∀ fl', xexp Mt Mg Mon i = false → xG xs LS d 102 (46, [some (.ref 22), some (.int (nI (xcnt (xexp Mt Mg Mon) i))), some (.int (nI i))], []) (hq2, ks, fl') Q := by
        intro fl' q
        rw [if_neg (by rw [q]; decide)] at ex
        refine xg_iinc (L' := [_, _, _]) xa_M_exposed_46 rfl (xi_inc _) rfl ?_
        refine xg_goto xa_M_exposed_49 ?_
        rw [← ex]
        exact ih (i + 1) _ (by omega)
      unfold xexp at no
      refine xg_iload_n xa_M_exposed_9 rfl ?_
      refine xg_bipush (v := 12) xa_M_exposed_10 (by decide) ?_
      refine xg_icmp_ge xa_M_exposed_12 (fun c => absurd c (show ¬ nI 12 ≤ nI i from nI_ge (by omega) (by omega))) (fun _ => ?_)
      refine xg_aload_n xa_M_exposed_15 rfl ?_
      refine xg_getfield xa_M_exposed_16 (by assumption) rfl ?_
      refine xg_iload_n xa_M_exposed_19 rfl ?_
      refine xg_zald_n xa_M_exposed_20 (by assumption) rfl (by assumption) (by decide) ?_
      refine xg_if_eq xa_M_exposed_21 (fun c => no _ (by rw [(xz0 _).mp c]; rfl)) (fun c21 => ?_)
      refine xg_aload_n xa_M_exposed_24 rfl ?_
      refine xg_getfield xa_M_exposed_25 (by assumption) rfl ?_
      refine xg_iload_n xa_M_exposed_28 rfl ?_
      refine xg_zald_n xa_M_exposed_29 (by assumption) rfl (by assumption) (by decide) ?_
      refine xg_if_eq xa_M_exposed_30 (fun c => no _ (by rw [(xz0 _).mp c]; simp)) (fun c30 => ?_)
      refine xg_aload_n xa_M_exposed_33 rfl ?_
      refine xg_getfield xa_M_exposed_34 (by assumption) rfl ?_
      refine xg_iload_n xa_M_exposed_37 rfl ?_
      refine xg_iald_n xa_M_exposed_38 (by assumption) rfl (by assumption) (by decide) ?_
      refine xg_iconst (v := 2) xa_M_exposed_39 (by decide) ?_
      refine xg_icmp_ne xa_M_exposed_40 (fun c => no _ (by rw [decide_eq_false c]; simp)) (fun c40 => ?_)
      rw [if_pos (show xexp Mt Mg Mon i = true by unfold xexp; rw [xz1 c21, xz1 c30, decide_eq_true c40]; rfl)] at ex
      refine xg_iinc (L' := [_, _, _]) xa_M_exposed_43 rfl (xi_inc _) rfl ?_
      refine xg_iinc (L' := [_, _, _]) xa_M_exposed_46 rfl (xi_inc _) rfl ?_
      refine xg_goto xa_M_exposed_49 ?_
      rw [← ex]
      exact ih (i + 1) _ (by omega)
  refine xg_iconst (v := 0) xa_M_exposed_5 (by decide) ?_
  refine xg_istore_n (L' := [_, _, _]) xa_M_exposed_6 (Nat.le_of_ble_eq_true rfl) rfl ?_
  refine xg_iconst (v := 0) xa_M_exposed_7 (by decide) ?_
  refine xg_istore_n (L' := [_, _, _]) xa_M_exposed_8 (Nat.le_of_ble_eq_true rfl) rfl ?_
  exact loop 12 0 _ (by omega)
def cd_count (x : Int32) : Int32 := if x < 0 ∨ ¬ x ≤ 4 then 1 else 0
/-- what count answers -/
def xcou (n m : Nat) (t br lk : Nat → Bool) : Nat → Nat
  | 0 => n
  | 1 => m
  | 2 => xcnt t 12
  | 3 => xcnt br m
  | _ => xcnt lk m
theorem c_M_count {x : Int32} (hm : Mm ≤ 14) (hM : xMs h Mc Mn Mm Mh Me Ml Mbr Mlk Mt Mg Ma Mb Mw Mwk Msp Mon Mct)
    (k1 : cd_count x = 1 → ∀ h' fl', xMs h' 1 Mn Mm Mh Me Ml Mbr Mlk Mt Mg Ma Mb Mw Mwk Msp Mon Mct → xS h h' 22 40 → Q (.inl (some (.int 0))) (h', ks, fl'))
    (k0 : cd_count x = 0 → ∀ j h' fl', j ≤ 4 → x = nI j → xMs h' 0 Mn Mm Mh Me Ml Mbr Mlk Mt Mg Ma Mb Mw Mwk Msp Mon Mct → xS h h' 22 40 → Q (.inl (some (.int (nI (xcou Mn Mm Mt Mbr Mlk j))))) (h', ks, fl')) :
    xG xs LS d 103 (0, xm_entry xP 103 [.ref 22, .int x], []) (h, ks, fl) Q := by
  show xG xs LS d 103 (0, [some (.ref 22), some (.int x), none, none, none, none], []) (h, ks, fl) Q
  obtain ⟨Mp, Mfw, Mfs, MS, MZ, MA, MN, hM, hA, hN⟩ := hM
  obtain ⟨g22, g23, g24, g25, g26, g27, g28, g29, g30, g31, g32, g33, g34, g35, g36, g37, g38, g39⟩ := id hM
  unfold cd_count at k1 k0
  have bad : (x < 0 ∨ ¬ x ≤ 4) → xG xs LS d 103 (10, [some (.ref 22), some (.int x), none, none, none, none], [.ref 22]) (h, ks, fl) Q := by
    intro hc
    rw [if_pos hc] at k1
    refine xg_iconst (v := 1) xa_M_count_10 (by decide) ?_
    refine xg_goto xa_M_count_11 ?_
    refine xg_putf (fs' := [_, _, _, _, _, _, _, _, _, _, _, _, _, _, _, _, _, _, _, _, _, _, _, _]) xa_M_count_15 (by assumption) (Nat.le_of_ble_eq_true rfl) rfl rfl (fun h15 u15 => ?_)
    have hM1 := xMd_o (Mc' := 1) hM u15
    obtain ⟨g22, g23, g24, g25, g26, g27, g28, g29, g30, g31, g32, g33, g34, g35, g36, g37, g38, g39⟩ := id hM1
    refine xg_aload_n xa_M_count_18 rfl ?_
    refine xg_getfield xa_M_count_19 (by assumption) rfl ?_
    refine xg_if_le xa_M_count_22 (fun c => absurd c (by decide)) (fun _ => ?_)
    refine xg_iconst (v := 0) xa_M_count_25 (by decide) ?_
    refine xg_ireturn xa_M_count_26  ?_
    exact k1 rfl _ _ ⟨_, _, _, _, _, _, _, hM1, hA, hN⟩ (u15.toS (by decide) (by decide))
  refine xg_aload_n xa_M_count_0 rfl ?_
  refine xg_iload_n xa_M_count_1 rfl ?_
  refine xg_if_lt xa_M_count_2 (fun c => bad (Or.inl c)) (fun c2 => ?_)
  refine xg_iload_n xa_M_count_5 rfl ?_
  refine xg_iconst (v := 4) xa_M_count_6 (by decide) ?_
  refine xg_icmp_le xa_M_count_7 (fun c9 => ?_) (fun c => bad (Or.inr c))
  rw [if_neg (fun q => by
    rcases q with q | q
    · exact c2 q
    · exact q c9)] at k0
  obtain ⟨j, hj, rfl⟩ := nI_of2 (M := 4) (n := 4) (by decide) c2 c9
  refine xg_iconst (v := 0) xa_M_count_14 (by decide) ?_
  refine xg_putf (fs' := [_, _, _, _, _, _, _, _, _, _, _, _, _, _, _, _, _, _, _, _, _, _, _, _]) xa_M_count_15 (by assumption) (Nat.le_of_ble_eq_true rfl) rfl rfl (fun h15 u15 => ?_)
  have hM1 := xMd_o (Mc' := 0) hM u15
  have k := fun fl' => k0 rfl j h15 fl' hj rfl ⟨_, _, _, _, _, _, _, hM1, hA, hN⟩ (u15.toS (by decide) (by decide))
  clear bad k0 k1
  obtain ⟨g22, g23, g24, g25, g26, g27, g28, g29, g30, g31, g32, g33, g34, g35, g36, g37, g38, g39⟩ := id hM1
  refine xg_aload_n xa_M_count_18 rfl ?_
  refine xg_getfield xa_M_count_19 (by assumption) rfl ?_
  refine xg_if_le xa_M_count_22 (fun _ => ?_) (fun c => absurd (by decide) c)
  have fin : ∀ fl' j5, xG xs LS d 103 (120, [some (.ref 22), some (.int (nI j)), some (.int (nI (xcnt Mt 12))), some (.int (nI (xcnt Mbr Mm))), some (.int (nI (xcnt Mlk Mm))), j5], []) (h15, ks, fl') Q := by
    intro fl' j5
    have cases : j = 0 ∨ j = 1 ∨ j = 2 ∨ j = 3 ∨ j = 4 := by omega
    rcases cases with rfl | rfl | rfl | rfl | rfl
    · refine xg_iload_n xa_M_count_120 rfl ?_
      refine xg_if_ne xa_M_count_121 (fun c121 => absurd rfl c121) (fun c121 => ?_)
      refine xg_aload_n xa_M_count_124 rfl ?_
      refine xg_getfield xa_M_count_125 (by assumption) rfl ?_
      refine xg_goto xa_M_count_128 ?_
      refine xg_ireturn xa_M_count_163  ?_
      exact k _
    · refine xg_iload_n xa_M_count_120 rfl ?_
      refine xg_if_ne xa_M_count_121 (fun c121 => ?_) (fun c121 => absurd c121 (by decide))
      refine xg_iload_n xa_M_count_131 rfl ?_
      refine xg_iconst (v := 1) xa_M_count_132 (by decide) ?_
      refine xg_icmp_ne xa_M_count_133 (fun c133 => absurd rfl c133) (fun c133 => ?_)
      refine xg_aload_n xa_M_count_136 rfl ?_
      refine xg_getfield xa_M_count_137 (by assumption) rfl ?_
      refine xg_goto xa_M_count_140 ?_
      refine xg_ireturn xa_M_count_163  ?_
      exact k _
    · refine xg_iload_n xa_M_count_120 rfl ?_
      refine xg_if_ne xa_M_count_121 (fun c121 => ?_) (fun c121 => absurd c121 (by decide))
      refine xg_iload_n xa_M_count_131 rfl ?_
      refine xg_iconst (v := 1) xa_M_count_132 (by decide) ?_
      refine xg_icmp_ne xa_M_count_133 (fun c133 => ?_) (fun c133 => absurd c133 (by decide))
      refine xg_iload_n xa_M_count_143 rfl ?_
      refine xg_iconst (v := 2) xa_M_count_144 (by decide) ?_
      refine xg_icmp_ne xa_M_count_145 (fun c145 => absurd rfl c145) (fun c145 => ?_)
      refine xg_iload_n xa_M_count_148 rfl ?_
      refine xg_goto xa_M_count_149 ?_
      refine xg_ireturn xa_M_count_163  ?_
      exact k _
    · refine xg_iload_n xa_M_count_120 rfl ?_
      refine xg_if_ne xa_M_count_121 (fun c121 => ?_) (fun c121 => absurd c121 (by decide))
      refine xg_iload_n xa_M_count_131 rfl ?_
      refine xg_iconst (v := 1) xa_M_count_132 (by decide) ?_
      refine xg_icmp_ne xa_M_count_133 (fun c133 => ?_) (fun c133 => absurd c133 (by decide))
      refine xg_iload_n xa_M_count_143 rfl ?_
      refine xg_iconst (v := 2) xa_M_count_144 (by decide) ?_
      refine xg_icmp_ne xa_M_count_145 (fun c145 => ?_) (fun c145 => absurd c145 (by decide))
      refine xg_iload_n xa_M_count_152 rfl ?_
      refine xg_iconst (v := 3) xa_M_count_153 (by decide) ?_
      refine xg_icmp_ne xa_M_count_154 (fun c154 => absurd rfl c154) (fun c154 => ?_)
      refine xg_iload_n xa_M_count_157 rfl ?_
      refine xg_goto xa_M_count_158 ?_
      refine xg_ireturn xa_M_count_163  ?_
      exact k _
    · refine xg_iload_n xa_M_count_120 rfl ?_
      refine xg_if_ne xa_M_count_121 (fun c121 => ?_) (fun c121 => absurd c121 (by decide))
      refine xg_iload_n xa_M_count_131 rfl ?_
      refine xg_iconst (v := 1) xa_M_count_132 (by decide) ?_
      refine xg_icmp_ne xa_M_count_133 (fun c133 => ?_) (fun c133 => absurd c133 (by decide))
      refine xg_iload_n xa_M_count_143 rfl ?_
      refine xg_iconst (v := 2) xa_M_count_144 (by decide) ?_
      refine xg_icmp_ne xa_M_count_145 (fun c145 => ?_) (fun c145 => absurd c145 (by decide))
      refine xg_iload_n xa_M_count_152 rfl ?_
      refine xg_iconst (v := 3) xa_M_count_153 (by decide) ?_
      refine xg_icmp_ne xa_M_count_154 (fun c154 => ?_) (fun c154 => absurd c154 (by decide))
      refine xg_iload xa_M_count_161 rfl ?_
      refine xg_ireturn xa_M_count_163  ?_
      exact k _
  have loop2 : ∀ n i fl', i + n = Mm → xG xs LS d 103 (66, [some (.ref 22), some (.int (nI j)), some (.int (nI (xcnt Mt 12))), some (.int (nI (xcnt Mbr i))), some (.int (nI (xcnt Mlk i))), some (.int (nI i))], []) (h15, ks, fl') Q := by
    intro n
    induction n with
    | zero =>
      intro i fl' hi
      have e : i = Mm := by omega
      subst e
      refine xg_iload xa_M_count_66 rfl ?_
      refine xg_aload_n xa_M_count_68 rfl ?_
      refine xg_getfield xa_M_count_69 (by assumption) rfl ?_
      refine xg_icmp_ge xa_M_count_72 (fun c72 => ?_) (fun c72 => absurd (nI_le (by omega) (by omega)) c72)
      exact fin _ _
    | succ n ih =>
      intro i fl' hi
      have hi14 : i < 14 := by omega
      have e1 : xcnt Mbr (i + 1) = if Mbr i = true then xcnt Mbr i + 1 else xcnt Mbr i := rfl
      have e2 : xcnt Mlk (i + 1) = if Mlk i = true then xcnt Mlk i + 1 else xcnt Mlk i := rfl
      have second : ∀ fl', xG xs LS d 103 (92, [some (.ref 22), some (.int (nI j)), some (.int (nI (xcnt Mt 12))), some (.int (nI (xcnt Mbr i))), some (.int (nI (xcnt Mlk i))), some (.int (nI i))], [.int (nI (xcnt Mbr (i + 1)))]) (h15, ks, fl') Q := by
        intro fl'
        refine xg_istore_n (L' := [_, _, _, _, _, _]) xa_M_count_92 (Nat.le_of_ble_eq_true rfl) rfl ?_
        refine xg_aload_n xa_M_count_93 rfl ?_
        refine xg_getfield xa_M_count_94 (by assumption) rfl ?_
        refine xg_iload xa_M_count_97 rfl ?_
        refine xg_zald_n xa_M_count_99 (by assumption) rfl (by assumption) (by decide) ?_
        refine xg_if_eq xa_M_count_100 (fun c => ?_) (fun c => ?_)
        · rw [if_neg (by rw [(xz0 _).mp c]; decide)] at e2
          refine xg_iload xa_M_count_110 rfl ?_
          refine xg_istore (L' := [_, _, _, _, _, _]) xa_M_count_112 (Nat.le_of_ble_eq_true rfl) rfl ?_
          refine xg_iinc (L' := [_, _, _, _, _, _]) xa_M_count_114 rfl (xi_inc _) rfl ?_
          refine xg_goto xa_M_count_117 ?_
          rw [← e2]
          exact ih (i + 1) _ (by omega)
        · rw [if_pos (xz1 c)] at e2
          refine xg_iload xa_M_count_103 rfl ?_
          refine xg_iconst (v := 1) xa_M_count_105 (by decide) ?_
          refine xg_iadd xa_M_count_106 (nI_1 _) ?_
          refine xg_goto xa_M_count_107 ?_
          refine xg_istore (L' := [_, _, _, _, _, _]) xa_M_count_112 (Nat.le_of_ble_eq_true rfl) rfl ?_
          refine xg_iinc (L' := [_, _, _, _, _, _]) xa_M_count_114 rfl (xi_inc _) rfl ?_
          refine xg_goto xa_M_count_117 ?_
          rw [← e2]
          exact ih (i + 1) _ (by omega)
      refine xg_iload xa_M_count_66 rfl ?_
      refine xg_aload_n xa_M_count_68 rfl ?_
      refine xg_getfield xa_M_count_69 (by assumption) rfl ?_
      refine xg_icmp_ge xa_M_count_72 (fun c => absurd c (nI_ge (by omega) (by omega))) (fun _ => ?_)
      refine xg_aload_n xa_M_count_75 rfl ?_
      refine xg_getfield xa_M_count_76 (by assumption) rfl ?_
      refine xg_iload xa_M_count_79 rfl ?_
      refine xg_zald_n xa_M_count_81 (by assumption) rfl (by assumption) (by decide) ?_
      refine xg_if_eq xa_M_count_82 (fun c => ?_) (fun c => ?_)
      · rw [if_neg (by rw [(xz0 _).mp c]; decide)] at e1
        rw [e1] at second
        refine xg_iload_n xa_M_count_91 rfl ?_
        exact second _
      · rw [if_pos (xz1 c)] at e1
        rw [e1] at second
        refine xg_iload_n xa_M_count_85 rfl ?_
        refine xg_iconst (v := 1) xa_M_count_86 (by decide) ?_
        refine xg_iadd xa_M_count_87 (nI_1 _) ?_
        refine xg_goto xa_M_count_88 ?_
        exact second _
  have loop1 : ∀ n i fl', i + n = 12 → xG xs LS d 103 (37, [some (.ref 22), some (.int (nI j)), some (.int (nI (xcnt Mt i))), some (.int 0), some (.int 0), some (.int (nI i))], []) (h15, ks, fl') Q := by
    intro n
    induction n with
    | zero =>
      intro i fl' hi
      have e : i = 12 := by omega
      subst e
      refine xg_iload xa_M_count_37 rfl ?_
      refine xg_bipush (v := 12) xa_M_count_39 (by decide) ?_
      refine xg_icmp_ge xa_M_count_41 (fun c41 => ?_) (fun c41 => absurd (by decide) c41)
      refine xg_iconst (v := 0) xa_M_count_63 (by decide) ?_
      refine xg_istore (L' := [_, _, _, _, _, _]) xa_M_count_64 (Nat.le_of_ble_eq_true rfl) rfl ?_
      exact loop2 Mm 0 _ (by omega)
    | succ n ih =>
      intro i fl' hi
      have hi12 : i < 12 := by omega
      have e1 : xcnt Mt (i + 1) = if Mt i = true then xcnt Mt i + 1 else xcnt Mt i := rfl
      refine xg_iload xa_M_count_37 rfl ?_
      refine xg_bipush (v := 12) xa_M_count_39 (by decide) ?_
      refine xg_icmp_ge xa_M_count_41 (fun c => absurd c (show ¬ nI 12 ≤ nI i from nI_ge (by omega) (by omega))) (fun _ => ?_)
      refine xg_aload_n xa_M_count_44 rfl ?_
      refine xg_getfield xa_M_count_45 (by assumption) rfl ?_
      refine xg_iload xa_M_count_48 rfl ?_
      refine xg_zald_n xa_M_count_50 (by assumption) rfl (by assumption) (by decide) ?_
      refine xg_if_eq xa_M_count_51 (fun c => ?_) (fun c => ?_)
      · rw [if_neg (by rw [(xz0 _).mp c]; decide)] at e1
        refine xg_iinc (L' := [_, _, _, _, _, _]) xa_M_count_57 rfl (xi_inc _) rfl ?_
        refine xg_goto xa_M_count_60 ?_
        rw [← e1]
        exact ih (i + 1) _ (by omega)
      · rw [if_pos (xz1 c)] at e1
        refine xg_iinc (L' := [_, _, _, _, _, _]) xa_M_count_54 rfl (xi_inc _) rfl ?_
        refine xg_iinc (L' := [_, _, _, _, _, _]) xa_M_count_57 rfl (xi_inc _) rfl ?_
        refine xg_goto xa_M_count_60 ?_
        rw [← e1]
        exact ih (i + 1) _ (by omega)
  refine xg_iconst (v := 0) xa_M_count_27 (by decide) ?_
  refine xg_istore_n (L' := [_, _, _, _, _, _]) xa_M_count_28 (Nat.le_of_ble_eq_true rfl) rfl ?_
  refine xg_iconst (v := 0) xa_M_count_29 (by decide) ?_
  refine xg_istore_n (L' := [_, _, _, _, _, _]) xa_M_count_30 (Nat.le_of_ble_eq_true rfl) rfl ?_
  refine xg_iconst (v := 0) xa_M_count_31 (by decide) ?_
  refine xg_istore (L' := [_, _, _, _, _, _]) xa_M_count_32 (Nat.le_of_ble_eq_true rfl) rfl ?_
  refine xg_iconst (v := 0) xa_M_count_34 (by decide) ?_
  refine xg_istore (L' := [_, _, _, _, _, _]) xa_M_count_35 (Nat.le_of_ble_eq_true rfl) rfl ?_
  exact loop1 12 0 _ (by omega)
end XM10
end
section
/-! 50.graph: sums over fibres; walks, their sites, sets and flows. Pure. -/
section GS
/-- the sum of the first n -/
def gs (g : Nat → Int) : Nat → Int
  | 0 => 0
  | n + 1 => gs g n + g n
theorem gs_congr {g g' : Nat → Int} : ∀ n, (∀ i, i < n → g i = g' i) → gs g n = gs g' n
  | 0, _ => rfl
  | n + 1, h => by
    show gs g n + g n = gs g' n + g' n
    rw [gs_congr n (fun i hi => h i (by omega)), h n (by omega)]
theorem gs_le {g g' : Nat → Int} : ∀ n, (∀ i, i < n → g i ≤ g' i) → gs g n ≤ gs g' n
  | 0, _ => Int.le_refl _
  | n + 1, h => by
    have h1 := gs_le n (fun i hi => h i (by omega))
    have h2 := h n (by omega)
    show gs g n + g n ≤ gs g' n + g' n
    omega
theorem gs_add (g g' : Nat → Int) : ∀ n, gs (fun i => g i + g' i) n = gs g n + gs g' n
  | 0 => rfl
  | n + 1 => by
    have h1 := gs_add g g' n
    show gs (fun i => g i + g' i) n + (g n + g' n) = gs g n + g n + (gs g' n + g' n)
    omega
theorem gs_sub (g g' : Nat → Int) : ∀ n, gs (fun i => g i - g' i) n = gs g n - gs g' n
  | 0 => rfl
  | n + 1 => by
    have h1 := gs_sub g g' n
    show gs (fun i => g i - g' i) n + (g n - g' n) = gs g n + g n - (gs g' n + g' n)
    omega
theorem gs_zero : ∀ n, gs (fun _ => 0) n = 0
  | 0 => rfl
  | n + 1 => by
    show gs (fun _ => 0) n + 0 = 0
    rw [gs_zero n]
    rfl
theorem gs_mul (c : Int) (g : Nat → Int) : ∀ n, gs (fun i => c * g i) n = c * gs g n
  | 0 => by simp [gs]
  | n + 1 => by
    show gs (fun i => c * g i) n + c * g n = c * (gs g n + g n)
    rw [gs_mul c g n, Int.mul_add]
theorem gs_mulr (c : Int) (g : Nat → Int) (n : Nat) : gs (fun i => g i * c) n = gs g n * c := by
  rw [Int.mul_comm, ← gs_mul]
  exact gs_congr n (fun i _ => Int.mul_comm _ _)
theorem gs_comm (g : Nat → Nat → Int) (n : Nat) : ∀ m, gs (fun i => gs (g i) n) m = gs (fun j => gs (fun i => g i j) m) n
  | 0 => (gs_zero n).symm
  | m + 1 => by
    show gs (fun i => gs (g i) n) m + gs (g m) n = gs (fun j => gs (fun i => g i j) m + g m j) n
    rw [gs_comm g n m, gs_add]
/-- a one at k -/
def g1 (k i : Nat) : Int := if i = k then 1 else 0
theorem gs_pick (p : Nat → Int) (k : Nat) : ∀ n, gs (fun i => p i * g1 k i) n = if k < n then p k else 0
  | 0 => by simp [gs]
  | n + 1 => by
    show gs (fun i => p i * g1 k i) n + p n * g1 k n = _
    rw [gs_pick p k n]
    unfold g1
    by_cases h1 : n = k
    · subst h1
      simp
    · by_cases h2 : k < n
      · rw [if_pos h2, if_neg h1, if_pos (by omega)]
        simp
      · rw [if_neg h2, if_neg h1, if_neg (by omega)]
        simp
theorem gs_nonneg {g : Nat → Int} (n : Nat) (h : ∀ i, i < n → 0 ≤ g i) : 0 ≤ gs g n := by
  have h1 := gs_le (g := fun _ => 0) (g' := g) n h
  rw [gs_zero] at h1
  exact h1
theorem gs_pos {g : Nat → Int} : ∀ n, (∀ i, i < n → 0 ≤ g i) → ∀ k, k < n → 0 < g k → 0 < gs g n
  | 0, _, k, hk, _ => by omega
  | n + 1, h, k, hk, hp => by
    have h1 := gs_nonneg n (fun i hi => h i (by omega))
    have h2 := h n (by omega)
    show 0 < gs g n + g n
    by_cases e : k = n
    · subst e; omega
    · have h3 := gs_pos n (fun i hi => h i (by omega)) k (by omega) hp
      omega
end GS
section GW
variable {e : Nat → Nat} {m : Nat} {s : Nat → Bool}
/-- from u by the fibres of the list to v -/
def gw (e : Nat → Nat) (m : Nat) (s : Nat → Bool) : Nat → List Nat → Nat → Prop
  | u, [], v => u = v
  | u, f :: p, v => f < m ∧ s f = true ∧ (e (2 * f) = u ∨ e (2 * f + 1) = u) ∧ gw e m s (xoth e f u) p v
/-- the sites of a walk -/
def gv (e : Nat → Nat) : Nat → List Nat → List Nat
  | u, [] => [u]
  | u, f :: p => u :: gv e (xoth e f u) p
/-- a path: no site twice -/
def gp (e : Nat → Nat) (m : Nat) (s : Nat → Bool) (u v : Nat) (p : List Nat) : Prop := gw e m s u p v ∧ (gv e u p).Nodup
theorem gv_hd (u : Nat) (p : List Nat) : u ∈ gv e u p := by
  cases p with
  | nil => exact List.mem_singleton.mpr rfl
  | cons f p => exact List.mem_cons_self
theorem gv_len (p : List Nat) : ∀ u, (gv e u p).length = p.length + 1 := by
  induction p with
  | nil => intro u; rfl
  | cons f p ih => intro u; show (gv e (xoth e f u) p).length + 1 = _; rw [ih]; rfl
theorem gw_sub {s' : Nat → Bool} (h : ∀ f, s f = true → s' f = true) : ∀ p u v, gw e m s u p v → gw e m s' u p v := by
  intro p
  induction p with
  | nil => intro u v q; exact q
  | cons f p ih => intro u v q; exact ⟨q.1, h f q.2.1, q.2.2.1, ih _ _ q.2.2.2⟩
theorem gw_subp {s' : Nat → Bool} : ∀ p u v, (∀ f, f ∈ p → s' f = true) → gw e m s u p v → gw e m s' u p v := by
  intro p
  induction p with
  | nil => intro u v _ q; exact q
  | cons f p ih => intro u v h q; exact ⟨q.1, h f List.mem_cons_self, q.2.2.1, ih _ _ (fun g hg => h g (List.mem_cons_of_mem _ hg)) q.2.2.2⟩
theorem gw_mem : ∀ p u v, gw e m s u p v → ∀ f, f ∈ p → f < m ∧ s f = true := by
  intro p
  induction p with
  | nil => intro u v _ f hf; cases hf
  | cons g p ih =>
    intro u v q f hf
    rcases List.mem_cons.mp hf with rfl | hf
    · exact ⟨q.1, q.2.1⟩
    · exact ih _ _ q.2.2.2 f hf
theorem xoth_ends {f u : Nat} (h : e (2 * f) = u ∨ e (2 * f + 1) = u) (x : Nat) : (x = e (2 * f) ∨ x = e (2 * f + 1)) ↔ (x = u ∨ x = xoth e f u) := by
  unfold xoth
  by_cases c : e (2 * f) = u
  · rw [if_pos c, c]
  · rw [if_neg c]
    rcases h with h | h
    · exact absurd h c
    · rw [h]
      exact Or.comm
/-- the ends of a walk's fibres are among its sites -/
theorem gv_ends : ∀ p u v, gw e m s u p v → ∀ f, f ∈ p → ∀ x, (x = e (2 * f) ∨ x = e (2 * f + 1)) → x ∈ gv e u p := by
  intro p
  induction p with
  | nil => intro u v _ f hf; cases hf
  | cons g p ih =>
    intro u v q f hf x hx
    rcases List.mem_cons.mp hf with rfl | hf
    · rcases (xoth_ends q.2.2.1 x).mp hx with rfl | rfl
      · exact List.mem_cons_self
      · exact List.mem_cons_of_mem _ (gv_hd _ _)
    · exact List.mem_cons_of_mem _ (ih _ _ q.2.2.2 f hf x hx)
theorem gv_last : ∀ p u v, gw e m s u p v → v ∈ gv e u p := by
  intro p
  induction p with
  | nil => intro u v q; rw [show u = v from q]; exact gv_hd _ _
  | cons g p ih => intro u v q; exact List.mem_cons_of_mem _ (ih _ _ q.2.2.2)
theorem gp_nodup : ∀ p u v, gp e m s u v p → p.Nodup := by
  intro p
  induction p with
  | nil => intro u v _; exact List.nodup_nil
  | cons f p ih =>
    intro u v h
    have h2 : (u :: gv e (xoth e f u) p).Nodup := h.2
    rw [List.nodup_cons] at h2
    rw [List.nodup_cons]
    refine ⟨fun hf => h2.1 ?_, ih _ _ ⟨h.1.2.2.2, h2.2⟩⟩
    refine gv_ends p _ _ h.1.2.2.2 f hf u ?_
    rcases h.1.2.2.1 with q | q
    · exact Or.inl q.symm
    · exact Or.inr q.symm
/-- a walk cut at one of its sites -/
theorem gw_cut : ∀ p u v x, gw e m s u p v → x ∈ gv e u p → ∃ p1 p2, p = p1 ++ p2 ∧ gw e m s u p1 x ∧ gw e m s x p2 v ∧ (∀ y, y ∈ gv e u p1 → y ∈ gv e u p) ∧ ((gv e u p).Nodup → (gv e u p1).Nodup) := by
  intro p
  induction p with
  | nil =>
    intro u v x q hx
    have hx : x = u := List.mem_singleton.mp hx
    subst hx
    exact ⟨[], [], rfl, rfl, q, fun y hy => hy, fun h => h⟩
  | cons f p ih =>
    intro u v x q hx
    rcases List.mem_cons.mp hx with rfl | hx
    · refine ⟨[], f :: p, rfl, rfl, q, fun y hy => ?_, fun _ => ?_⟩
      · rw [List.mem_singleton.mp hy]
        exact List.mem_cons_self
      · exact List.nodup_cons.mpr ⟨List.not_mem_nil, List.nodup_nil⟩
    · obtain ⟨p1, p2, h1, h2, h3, h4, h5⟩ := ih _ _ x q.2.2.2 hx
      refine ⟨f :: p1, p2, by rw [h1]; rfl, ⟨q.1, q.2.1, q.2.2.1, h2⟩, h3, fun y hy => ?_, fun h => ?_⟩
      · rcases List.mem_cons.mp hy with rfl | hy
        · exact List.mem_cons_self
        · exact List.mem_cons_of_mem _ (h4 y hy)
      · have h : (u :: gv e (xoth e f u) p).Nodup := h
        rw [List.nodup_cons] at h
        exact List.nodup_cons.mpr ⟨fun hu => h.1 (h4 u hu), h5 h.2⟩
theorem gw_app : ∀ p q u v w, gw e m s u p v → gw e m s v q w → gw e m s u (p ++ q) w := by
  intro p
  induction p with
  | nil => intro q u v w h1 h2; rw [show u = v from h1]; exact h2
  | cons f p ih => intro q u v w h1 h2; exact ⟨h1.1, h1.2.1, h1.2.2.1, ih q _ v w h1.2.2.2 h2⟩
theorem gv_app1 : ∀ p f u v, gw e m s u p v → gv e u (p ++ [f]) = gv e u p ++ [xoth e f v] := by
  intro p
  induction p with
  | nil => intro f u v h1; rw [show u = v from h1]; rfl
  | cons g p ih => intro f u v h1; show u :: gv e (xoth e g u) (p ++ [f]) = _; rw [ih f _ v h1.2.2.2]; rfl
/-- what can be reached by paths is closed -/
theorem g_reach {a u f : Nat} {p : List Nat} (hp : gp e m s a u p) (hf : f < m) (hs : s f = true) (he : e (2 * f) = u ∨ e (2 * f + 1) = u) : ∃ p', gp e m s a (xoth e f u) p' := by
  by_cases c : xoth e f u ∈ gv e a p
  · obtain ⟨p1, p2, h1, h2, h3, h4, h5⟩ := gw_cut p a u _ hp.1 c
    exact ⟨p1, h2, h5 hp.2⟩
  · refine ⟨p ++ [f], gw_app p [f] a u _ hp.1 ⟨hf, hs, he, rfl⟩, ?_⟩
    rw [gv_app1 p f a u hp.1]
    rw [List.nodup_append]
    exact ⟨hp.2, List.nodup_cons.mpr ⟨List.not_mem_nil, List.nodup_nil⟩, fun x hx y hy hxy => by rw [List.mem_singleton.mp hy] at hxy; exact c (hxy ▸ hx)⟩
/-- either a path, or a set of sites that no fibre leaves -/
theorem g_cut {a b : Nat} (h : ¬ ∃ p, gp e m s a b p) : ∃ R : Nat → Bool, R a = true ∧ R b = false ∧ ∀ f, f < m → s f = true → R (e (2 * f)) = R (e (2 * f + 1)) := by
  have dec : ∀ v, Decidable (∃ p, gp e m s a v p) := fun v => Classical.propDecidable _
  refine ⟨fun v => @decide (∃ p, gp e m s a v p) (dec v), ?_, ?_, ?_⟩
  · exact @decide_eq_true _ (dec a) ⟨[], rfl, List.nodup_cons.mpr ⟨List.not_mem_nil, List.nodup_nil⟩⟩
  · exact @decide_eq_false _ (dec b) h
  · intro f hf hs
    have h1 : (∃ p, gp e m s a (e (2 * f)) p) → ∃ p, gp e m s a (e (2 * f + 1)) p := by
      rintro ⟨p, hp⟩
      have := g_reach hp hf hs (Or.inl rfl)
      unfold xoth at this
      rw [if_pos rfl] at this
      exact this
    have h2 : (∃ p, gp e m s a (e (2 * f + 1)) p) → ∃ p, gp e m s a (e (2 * f)) p := by
      rintro ⟨p, hp⟩
      have := g_reach hp hf hs (Or.inr rfl)
      unfold xoth at this
      by_cases c : e (2 * f) = e (2 * f + 1)
      · rw [c]
        exact ⟨p, hp⟩
      · rw [if_neg c] at this
        exact this
    simp only
    rw [@decide_eq_decide _ _ (dec _) (dec _)]
    exact ⟨h1, h2⟩
/-- the flow of a walk: 1 along a fibre, -1 against it -/
def gf (e : Nat → Nat) : Nat → List Nat → Nat → Int
  | _, [], _ => 0
  | u, f :: p, g => (if e (2 * f) = u then 1 else -1) * g1 f g + gf e (xoth e f u) p g
theorem gf_0 : ∀ p u g, ¬ g ∈ p → gf e u p g = 0 := by
  intro p
  induction p with
  | nil => intro u g _; rfl
  | cons f p ih =>
    intro u g h
    have h1 : ¬ g = f := fun q => h (q ▸ List.mem_cons_self)
    show _ * g1 f g + gf e (xoth e f u) p g = 0
    rw [ih _ g (fun q => h (List.mem_cons_of_mem _ q))]
    unfold g1
    rw [if_neg h1]
    simp
theorem gf_1 : ∀ p u g, p.Nodup → g ∈ p → gf e u p g = 1 ∨ gf e u p g = -1 := by
  intro p
  induction p with
  | nil => intro u g _ h; cases h
  | cons f p ih =>
    intro u g hn h
    rw [List.nodup_cons] at hn
    show _ * g1 f g + gf e (xoth e f u) p g = 1 ∨ _ * g1 f g + gf e (xoth e f u) p g = -1
    by_cases c : g = f
    · subst c
      rw [gf_0 p _ g hn.1]
      unfold g1
      rw [if_pos rfl]
      by_cases c : e (2 * g) = u
      · left; rw [if_pos c]; rfl
      · right; rw [if_neg c]; rfl
    · have hg : g ∈ p := by
        rcases List.mem_cons.mp h with q | q
        · exact absurd q c
        · exact q
      unfold g1
      rw [if_neg c, Int.mul_zero, Int.zero_add]
      exact ih _ g hn.2 hg
/-- sums along a walk are known by its ends -/
theorem g_tel (F : Nat → Int) : ∀ p u v, gw e m s u p v → gs (fun g => gf e u p g * (F (e (2 * g + 1)) - F (e (2 * g)))) m = F v - F u := by
  intro p
  induction p with
  | nil =>
    intro u v h
    rw [show u = v from h]
    have : gs (fun g => gf e v [] g * (F (e (2 * g + 1)) - F (e (2 * g)))) m = gs (fun _ => 0) m := gs_congr m (fun i _ => by show (0 : Int) * _ = 0; rw [Int.zero_mul])
    rw [this, gs_zero]
    omega
  | cons f p ih =>
    intro u v h
    have h1 : gs (fun g => gf e u (f :: p) g * (F (e (2 * g + 1)) - F (e (2 * g)))) m = gs (fun g => (if e (2 * f) = u then 1 else -1) * (F (e (2 * g + 1)) - F (e (2 * g))) * g1 f g) m + gs (fun g => gf e (xoth e f u) p g * (F (e (2 * g + 1)) - F (e (2 * g)))) m := by
      rw [← gs_add]
      refine gs_congr m (fun g _ => ?_)
      show ((if e (2 * f) = u then 1 else -1) * g1 f g + gf e (xoth e f u) p g) * _ = _
      rw [Int.add_mul, Int.mul_right_comm]
    rw [h1, ih _ v h.2.2.2, gs_pick (fun g => (if e (2 * f) = u then 1 else -1) * (F (e (2 * g + 1)) - F (e (2 * g)))) f m, if_pos h.1]
    unfold xoth
    by_cases c : e (2 * f) = u
    · rw [if_pos c, if_pos c, c]
      omega
    · rw [if_neg c, if_neg c]
      rcases h.2.2.1 with q | q
      · exact absurd q c
      · rw [q]
        omega
end GW
end
section
/-! 51.weight: sets of fibres by weight; the order of the model is the order of the weights. Pure. -/
section GM
/-- the set of a list of fibres -/
def gm : List Nat → Int32
  | [] => 0
  | f :: p => xbt f ||| gm p
theorem gm_b {p : List Nat} (hp : ∀ f, f ∈ p → f < 32) {g : Nat} (hg : g < 32) : xb (gm p) g = decide (g ∈ p) := by
  induction p with
  | nil =>
    show xb 0 g = _
    rw [xb_0]
    simp
  | cons f p ih =>
    show xb (xbt f ||| gm p) g = _
    rw [xb_or _ _ hg, xb_bt hg (hp f List.mem_cons_self), ih (fun x hx => hp x (List.mem_cons_of_mem _ hx))]
    by_cases c : g = f
    · simp [c]
    · simp [c]
theorem gm_low {p : List Nat} {n : Nat} (hn : n ≤ 32) (hp : ∀ f, f ∈ p → f < n) : xlow n (gm p) := by
  intro f h1 h2
  rw [gm_b (fun g hg => by have := hp g hg; omega) h2]
  exact decide_eq_false (fun q => by have := hp f q; omega)
theorem gm_ne {p : List Nat} (hp : ∀ f, f ∈ p → f < 32) (h : ¬ p = []) : ¬ gm p = 0 := by
  cases p with
  | nil => exact absurd rfl h
  | cons f p =>
    have hf := hp f List.mem_cons_self
    have : xb (gm (f :: p)) f = true := by
      rw [gm_b hp hf]
      exact decide_eq_true List.mem_cons_self
    exact xb_ne this
end GM
section GO
variable {l : Nat → Nat} {m : Nat}
/-- a fibre's weight -/
def gwt (l : Nat → Nat) (f : Nat) : Int := (l f : Int) * 16384 - ((2 ^ (13 - f) : Nat) : Int)
/-- the sum over a set -/
def gS (w : Nat → Int) (X : Int32) (m : Nat) : Int := gs (fun f => if xb X f = true then w f else 0) m
abbrev gW (l : Nat → Nat) (m : Nat) (X : Int32) : Int := gS (gwt l) X m
theorem gwt_pos {f : Nat} (hl : 1 ≤ l f) : 0 < gwt l f := by
  unfold gwt
  have : 2 ^ (13 - f) ≤ 2 ^ 13 := Nat.pow_le_pow_right (by omega) (by omega)
  omega
theorem gwt_le {f : Nat} (hl : l f ≤ 100) : gwt l f ≤ 1638400 := by
  unfold gwt
  generalize 2 ^ (13 - f) = P
  omega
theorem gW_split (l : Nat → Nat) (X : Int32) (m : Nat) : gW l m X = gS (fun f => (l f : Int)) X m * 16384 - gS (fun f => ((2 ^ (13 - f) : Nat) : Int)) X m := by
  unfold gW gS
  rw [← gs_mulr, ← gs_sub]
  refine gs_congr m (fun f _ => ?_)
  show (if xb X f = true then gwt l f else 0) = _
  by_cases c : xb X f = true
  · rw [if_pos c, if_pos c, if_pos c]
    rfl
  · rw [if_neg c, if_neg c, if_neg c]
    rfl
theorem gS_nn {w : Nat → Int} {X : Int32} (hw : ∀ f, f < m → 0 ≤ w f) : 0 ≤ gS w X m := by
  refine gs_nonneg m (fun f hf => ?_)
  by_cases c : xb X f = true
  · rw [if_pos c]; exact hw f hf
  · rw [if_neg c]; exact Int.le_refl _
theorem gpw_lt (X : Int32) : ∀ k, k ≤ 14 → gS (fun f => ((2 ^ (13 - f) : Nat) : Int)) X k ≤ 16384 - ((2 ^ (14 - k) : Nat) : Int) := by
  intro k
  induction k with
  | zero => intro _; exact Int.le_refl _
  | succ k ih =>
    intro hk
    have h1 := ih (by omega)
    show gS (fun f => ((2 ^ (13 - f) : Nat) : Int)) X k + (if xb X k = true then ((2 ^ (13 - k) : Nat) : Int) else 0) ≤ _
    have e : 2 ^ (14 - k) = 2 ^ (13 - k) + 2 ^ (13 - k) := by
      rw [show 14 - k = (13 - k) + 1 by omega, Nat.pow_succ]
      omega
    have e2 : 14 - (k + 1) = 13 - k := by omega
    rw [e2]
    rw [e] at h1
    clear e e2 ih
    generalize 2 ^ (13 - k) = P at *
    by_cases c : xb X k = true
    · rw [if_pos c]; omega
    · rw [if_neg c]; omega
theorem g_first {P : Nat → Prop} : ∀ n, (∃ f, f < n ∧ P f) → ∃ f, f < n ∧ P f ∧ ∀ g, g < f → ¬ P g := by
  intro n
  induction n with
  | zero => rintro ⟨f, hf, _⟩; omega
  | succ n ih =>
    rintro ⟨f, hf, hp⟩
    by_cases c : ∃ f, f < n ∧ P f
    · obtain ⟨f, h1, h2, h3⟩ := ih c
      exact ⟨f, by omega, h2, h3⟩
    · exact ⟨f, hf, hp, fun g hg q => c ⟨g, by omega, q⟩⟩
theorem g_diff {X Y : Int32} (hX : xlow m X) (hY : xlow m Y) (h : ¬ X = Y) : ∃ f, f < m ∧ ¬ xb X f = xb Y f ∧ ∀ g, g < f → xb X g = xb Y g := by
  have h1 : ∃ f, f < m ∧ ¬ xb X f = xb Y f := by
    apply Classical.byContradiction
    intro q
    refine h (xlow_ext hX hY (fun f hf => ?_))
    apply Classical.byContradiction
    intro q2
    exact q ⟨f, hf, q2⟩
  obtain ⟨f, h2, h3, h4⟩ := g_first m h1
  exact ⟨f, h2, h3, fun g hg => Classical.not_not.mp (h4 g hg)⟩
/-- the powers: the first difference decides -/
theorem gpw_gt {X Y : Int32} {f : Nat} (hx : xb X f = true) (hy : xb Y f = false) (hb : ∀ g, g < f → xb X g = xb Y g) : ∀ k, f < k → k ≤ 14 → gS (fun f => ((2 ^ (13 - f) : Nat) : Int)) Y k + ((2 ^ (14 - k) : Nat) : Int) ≤ gS (fun f => ((2 ^ (13 - f) : Nat) : Int)) X k := by
  intro k
  induction k with
  | zero => intro h; omega
  | succ k ih =>
    intro hk hk2
    show gS (fun f => ((2 ^ (13 - f) : Nat) : Int)) Y k + (if xb Y k = true then ((2 ^ (13 - k) : Nat) : Int) else 0) + _ ≤ gS (fun f => ((2 ^ (13 - f) : Nat) : Int)) X k + (if xb X k = true then ((2 ^ (13 - k) : Nat) : Int) else 0)
    have e2 : 14 - (k + 1) = 13 - k := by omega
    rw [e2]
    by_cases c : f = k
    · subst c
      rw [if_pos hx, if_neg (by rw [hy]; decide)]
      have : gS (fun f => ((2 ^ (13 - f) : Nat) : Int)) Y f = gS (fun f => ((2 ^ (13 - f) : Nat) : Int)) X f := gs_congr f (fun g hg => by show (if xb Y g = true then _ else _) = if xb X g = true then _ else _; rw [hb g hg])
      omega
    · have h1 := ih (by omega) (by omega)
      have e : 2 ^ (14 - k) = 2 ^ (13 - k) + 2 ^ (13 - k) := by
        rw [show 14 - k = (13 - k) + 1 by omega, Nat.pow_succ]
        omega
      rw [e] at h1
      clear e e2 ih
      generalize 2 ^ (13 - k) = P at *
      by_cases c1 : xb X k = true <;> by_cases c2 : xb Y k = true
      · rw [if_pos c1, if_pos c2]; omega
      · rw [if_pos c1, if_neg c2]; omega
      · rw [if_neg c1, if_pos c2]; omega
      · rw [if_neg c1, if_neg c2]; omega
theorem gW_inj (hm : m ≤ 14) {X Y : Int32} (hX : xlow m X) (hY : xlow m Y) (h : gW l m X = gW l m Y) : X = Y := by
  apply Classical.byContradiction
  intro hne
  obtain ⟨f, h1, h2, h3⟩ := g_diff hX hY hne
  rw [gW_split, gW_split] at h
  have a1 := gpw_lt X m hm
  have a2 := gpw_lt Y m hm
  have a3 : 0 ≤ gS (fun f => ((2 ^ (13 - f) : Nat) : Int)) X m := gS_nn (fun _ _ => Int.natCast_nonneg _)
  have a4 : 0 ≤ gS (fun f => ((2 ^ (13 - f) : Nat) : Int)) Y m := gS_nn (fun _ _ => Int.natCast_nonneg _)
  have a5 : 0 < 2 ^ (14 - m) := Nat.pow_pos (by omega)
  cases hx : xb X f with
  | true =>
    have hy : xb Y f = false := by cases hy : xb Y f with
      | false => rfl
      | true => exact absurd (hx.trans hy.symm) h2
    have := gpw_gt hx hy h3 m h1 hm
    omega
  | false =>
    have hy : xb Y f = true := by cases hy : xb Y f with
      | true => rfl
      | false => exact absurd (hx.trans hy.symm) h2
    have := gpw_gt hy hx (fun g hg => (h3 g hg).symm) m h1 hm
    omega
theorem xbf0_eq {X Y : Int32} {f : Nat} (h2 : ¬ xb X f = xb Y f) : ∀ n i, (∀ g, i ≤ g → g < f → xb X g = xb Y g) → i ≤ f → f < i + n → xbf0 X Y n i = (xb X f == decide (0 < (if xb X f = true then Y else X) >>> (nI f &&& 31))) := by
  intro n
  induction n with
  | zero => intro i _ h3 h4; omega
  | succ n ih =>
    intro i h1 h3 h4
    unfold xbf0
    by_cases c : i = f
    · subst c
      rw [if_neg h2]
    · rw [if_pos (h1 i (by omega) (by omega))]
      exact ih (i + 1) (fun g q1 q2 => h1 g (by omega) q2) (by omega) (by omega)
theorem xbf0_same {X : Int32} : ∀ n i, xbf0 X X n i = false := by
  intro n
  induction n with
  | zero => intro i; rfl
  | succ n ih =>
    intro i
    unfold xbf0
    rw [if_pos rfl]
    exact ih _
/-- of sets of the same length neither holds the other: the lesser goes on -/
theorem g_goes (hm : m ≤ 14) (hl : ∀ f, f < m → 1 ≤ l f) {X Y : Int32} (hY : xlow m Y) {f : Nat} (hf : f < m) (hx : xb X f = true) (hy : xb Y f = false) (hb : ∀ g, g < f → xb X g = xb Y g) (hlen : gS (fun f => (l f : Int)) X m = gS (fun f => (l f : Int)) Y m) : 0 < Y >>> (nI f &&& 31) := by
  rw [xb_sh (xlow_up hY hm) (by omega)]
  apply Classical.byContradiction
  intro hn
  have hno : ∀ g, f ≤ g → g < m → xb Y g = false := fun g q1 q2 => by
    cases q : xb Y g with
    | false => rfl
    | true => exact absurd ⟨g, q1, by omega, q⟩ hn
  have hpos : 0 < gs (fun g => (if xb X g = true then (l g : Int) else 0) - (if xb Y g = true then (l g : Int) else 0)) m := by
    refine gs_pos m (fun g hg => ?_) f hf ?_
    · by_cases c : g < f
      · rw [hb g c]; omega
      · rw [if_neg (show ¬ xb Y g = true by rw [hno g (by omega) hg]; decide)]
        by_cases c2 : xb X g = true
        · rw [if_pos c2]; omega
        · rw [if_neg c2]; omega
    · rw [if_pos hx, if_neg (by rw [hy]; decide)]
      have := hl f hf
      omega
  rw [gs_sub] at hpos
  have hlen' : gs (fun g => if xb X g = true then (l g : Int) else 0) m = gs (fun g => if xb Y g = true then (l g : Int) else 0) m := hlen
  omega
theorem g_order (hm : m ≤ 14) (hl : ∀ f, f < m → 1 ≤ l f) {X Y : Int32} (hX : xlow m X) (hY : xlow m Y) : (gS (fun f => (l f : Int)) X m < gS (fun f => (l f : Int)) Y m ∨ (gS (fun f => (l f : Int)) X m = gS (fun f => (l f : Int)) Y m ∧ xbef X Y = true)) ↔ gW l m X < gW l m Y := by
  rw [gW_split, gW_split]
  have a1 := gpw_lt X m hm
  have a2 := gpw_lt Y m hm
  have a3 : 0 ≤ gS (fun f => ((2 ^ (13 - f) : Nat) : Int)) X m := gS_nn (fun _ _ => Int.natCast_nonneg _)
  have a4 : 0 ≤ gS (fun f => ((2 ^ (13 - f) : Nat) : Int)) Y m := gS_nn (fun _ _ => Int.natCast_nonneg _)
  have a5 : 0 < 2 ^ (14 - m) := Nat.pow_pos (by omega)
  by_cases hlen : gS (fun f => (l f : Int)) X m = gS (fun f => (l f : Int)) Y m
  · rw [hlen]
    by_cases hXY : X = Y
    · subst hXY
      have : xbef X X = false := xbf0_same 14 0
      rw [this]
      constructor
      · rintro (h | ⟨_, h⟩)
        · omega
        · cases h
      · intro h; omega
    · obtain ⟨f, h1, h2, h3⟩ := g_diff hX hY hXY
      have hbe : xbef X Y = (xb X f == decide (0 < (if xb X f = true then Y else X) >>> (nI f &&& 31))) := xbf0_eq h2 14 0 (fun g _ hg => h3 g hg) (by omega) (by omega)
      cases hx : xb X f with
      | true =>
        have hy : xb Y f = false := by cases hy : xb Y f with
          | false => rfl
          | true => exact absurd (hx.trans hy.symm) h2
        have h4 := gpw_gt hx hy h3 m h1 hm
        have h5 := g_goes hm hl hY h1 hx hy h3 hlen
        rw [hx, if_pos rfl, decide_eq_true h5] at hbe
        rw [hbe]
        constructor
        · intro _; omega
        · intro _; exact Or.inr ⟨rfl, rfl⟩
      | false =>
        have hy : xb Y f = true := by cases hy : xb Y f with
          | true => rfl
          | false => exact absurd (hx.trans hy.symm) h2
        have h4 := gpw_gt hy hx (fun g hg => (h3 g hg).symm) m h1 hm
        have h5 := g_goes hm hl hX h1 hy hx (fun g hg => (h3 g hg).symm) hlen.symm
        rw [hx, if_neg (by decide), decide_eq_true h5] at hbe
        rw [hbe]
        constructor
        · rintro (h | ⟨_, h⟩)
          · omega
          · cases h
        · intro _; omega
  · constructor
    · rintro (h | ⟨h, _⟩)
      · omega
      · exact absurd h hlen
    · intro h
      left
      omega
/-- the length as a number -/
def glN (l : Nat → Nat) (X : Int32) : Nat → Nat
  | 0 => 0
  | n + 1 => if xb X n = true then glN l X n + l n else glN l X n
theorem xlen_N (l : Nat → Nat) (X : Int32) : ∀ n, xlen (fun j => nI (l j)) X n = nI (glN l X n) := by
  intro n
  induction n with
  | zero => rfl
  | succ n ih =>
    unfold xlen glN
    rw [ih]
    by_cases c : xb X n = true
    · rw [if_pos c, if_pos c, nI_add]
    · rw [if_neg c, if_neg c]
theorem glN_S (l : Nat → Nat) (X : Int32) : ∀ n, ((glN l X n : Nat) : Int) = gS (fun f => (l f : Int)) X n := by
  intro n
  induction n with
  | zero => rfl
  | succ n ih =>
    show ((if xb X n = true then glN l X n + l n else glN l X n : Nat) : Int) = gS (fun f => (l f : Int)) X n + (if xb X n = true then (l n : Int) else 0)
    by_cases c : xb X n = true
    · rw [if_pos c, if_pos c, Int.natCast_add, ih]
    · rw [if_neg c, if_neg c, ih]
      omega
theorem glN_le (hl : ∀ f, f < m → l f ≤ 100) (X : Int32) : ∀ n, n ≤ m → glN l X n ≤ 100 * n := by
  intro n
  induction n with
  | zero => intro _; exact Nat.le_refl _
  | succ n ih =>
    intro hn
    have h1 := ih (by omega)
    have h2 := hl n (by omega)
    unfold glN
    by_cases c : xb X n = true
    · rw [if_pos c]; omega
    · rw [if_neg c]; omega
/-- the model's order of paths is that of the weights -/
theorem xls_W (hm : m ≤ 14) (hl : ∀ f, f < m → 1 ≤ l f ∧ l f ≤ 100) {S Z : Nat → Int32} {p q : Nat} (hp : xlow m (S p)) (hq : xlow m (S q)) (zp : Z p = xlen (fun j => nI (l j)) (S p) m) (zq : Z q = xlen (fun j => nI (l j)) (S q) m) : xls S Z p q = true ↔ gW l m (S p) < gW l m (S q) := by
  rw [← g_order hm (fun f hf => (hl f hf).1) hp hq, ← glN_S, ← glN_S]
  unfold xls
  rw [zp, zq, xlen_N, xlen_N]
  have b1 := glN_le (fun f hf => (hl f hf).2) (S p) m (Nat.le_refl _)
  have b2 := glN_le (fun f hf => (hl f hf).2) (S q) m (Nat.le_refl _)
  have e1 : (nI (glN l (S p) m) < nI (glN l (S q) m)) ↔ glN l (S p) m < glN l (S q) m := nI_ltI (by omega) (by omega)
  have e2 : (nI (glN l (S p) m) = nI (glN l (S q) m)) ↔ glN l (S p) m = glN l (S q) m := nI_eq (by omega) (by omega)
  rw [Bool.or_eq_true, Bool.and_eq_true, decide_eq_true_iff, decide_eq_true_iff, e1, e2]
  constructor
  · rintro (h | ⟨h1, h2⟩)
    · left; omega
    · right; exact ⟨by omega, h2⟩
  · rintro (h | ⟨h1, h2⟩)
    · left; omega
    · right; exact ⟨by omega, h2⟩
/-- a list's sum is its set's -/
theorem gm_S (w : Nat → Int) {p : List Nat} (hp : ∀ f, f ∈ p → f < 32) (hm : m ≤ 32) : gS w (gm p) m = gs (fun f => if f ∈ p then w f else 0) m := by
  refine gs_congr m (fun f hf => ?_)
  rw [gm_b hp (by omega)]
  by_cases c : f ∈ p
  · rw [if_pos (decide_eq_true c), if_pos c]
  · rw [if_neg (by rw [decide_eq_false c]; decide), if_neg c]
/-- a subset weighs less -/
theorem gW_sub (hl : ∀ f, f < m → 1 ≤ l f) {X Y : Int32} (h : ∀ f, f < m → xb X f = true → xb Y f = true) : gW l m X ≤ gW l m Y := by
  refine gs_le m (fun f hf => ?_)
  by_cases c : xb X f = true
  · rw [if_pos c, if_pos (h f hf c)]
    exact Int.le_refl _
  · rw [if_neg c]
    have := gwt_pos (l := l) (f := f) (hl f hf)
    by_cases c2 : xb Y f = true
    · rw [if_pos c2]; omega
    · rw [if_neg c2]; exact Int.le_refl _
end GO
end
section
/-! 52.search: Bellman and Ford's search finds cheapest paths. Pure. -/
section GB
variable {e : Nat → Nat} {m n a : Nat} {P : Nat → Nat → Int32}
abbrev gT : Nat → Bool := fun _ => true
/-- every step is open -/
def go (e : Nat → Nat) (P : Nat → Nat → Int32) : Nat → List Nat → Prop
  | _, [] => True
  | u, f :: p => ¬ P f u = 2147483647 ∧ go e P (xoth e f u) p
/-- what a walk costs -/
def gc (e : Nat → Nat) (P : Nat → Nat → Int32) : Nat → List Nat → Int
  | _, [] => 0
  | u, f :: p => (P f u).toInt + gc e P (xoth e f u) p
theorem go_app {s : Nat → Bool} : ∀ p q u v, gw e m s u p v → (go e P u (p ++ q) ↔ go e P u p ∧ go e P v q) := by
  intro p
  induction p with
  | nil => intro q u v h; rw [show u = v from h]; exact ⟨fun h => ⟨trivial, h⟩, fun h => h.2⟩
  | cons f p ih =>
    intro q u v h
    have := ih q _ v h.2.2.2
    constructor
    · intro h2
      exact ⟨⟨h2.1, (this.mp h2.2).1⟩, (this.mp h2.2).2⟩
    · intro h2
      exact ⟨h2.1.1, this.mpr ⟨h2.1.2, h2.2⟩⟩
theorem gc_app {s : Nat → Bool} : ∀ p q u v, gw e m s u p v → gc e P u (p ++ q) = gc e P u p + gc e P v q := by
  intro p
  induction p with
  | nil => intro q u v h; rw [show u = v from h]; show gc e P v q = 0 + _; omega
  | cons f p ih =>
    intro q u v h
    show (P f u).toInt + gc e P (xoth e f u) (p ++ q) = (P f u).toInt + gc e P (xoth e f u) p + _
    rw [ih q _ v h.2.2.2]
    omega
theorem gc_pot {s : Nat → Bool} {F : Nat → Int} (hF : ∀ f u, f < m → (e (2 * f) = u ∨ e (2 * f + 1) = u) → ¬ P f u = 2147483647 → F (xoth e f u) ≤ F u + (P f u).toInt) : ∀ p u v, gw e m s u p v → go e P u p → F v ≤ F u + gc e P u p := by
  intro p
  induction p with
  | nil => intro u v h _; rw [show u = v from h]; show F v ≤ F v + 0; omega
  | cons f p ih =>
    intro u v h h2
    have h3 := ih _ v h.2.2.2 h2.2
    have h4 := hF f u h.1 h.2.2.1 h2.1
    show F v ≤ F u + ((P f u).toInt + gc e P (xoth e f u) p)
    omega
theorem gc_abs {s : Nat → Bool} {B : Int} (hB : ∀ f u, f < m → ¬ P f u = 2147483647 → -B ≤ (P f u).toInt ∧ (P f u).toInt ≤ B) : ∀ p u v, gw e m s u p v → go e P u p → -(B * (p.length : Int)) ≤ gc e P u p ∧ gc e P u p ≤ B * (p.length : Int) := by
  intro p
  induction p with
  | nil => intro u v _ _; show -(B * ((0 : Nat) : Int)) ≤ 0 ∧ 0 ≤ B * ((0 : Nat) : Int); simp
  | cons f p ih =>
    intro u v h h2
    have h3 := ih _ v h.2.2.2 h2.2
    have h4 := hB f u h.1 h2.1
    show -(B * ((p.length + 1 : Nat) : Int)) ≤ (P f u).toInt + gc e P (xoth e f u) p ∧ (P f u).toInt + gc e P (xoth e f u) p ≤ B * ((p.length + 1 : Nat) : Int)
    rw [Int.natCast_add, Int.mul_add]
    constructor
    · have : B * ((1 : Nat) : Int) = B := by simp
      omega
    · have : B * ((1 : Nat) : Int) = B := by simp
      omega
theorem g_nodup {n : Nat} {L : List Nat} (hn : L.Nodup) (hL : ∀ x, x ∈ L → x < n) : L.length ≤ n := by
  apply Classical.byContradiction
  intro hlen
  have hget : ∀ i, i < n + 1 → (L[i]?).getD 0 < n := by
    intro i hi
    have hil : i < L.length := by omega
    rw [List.getElem?_eq_getElem hil]
    exact hL _ (List.getElem_mem hil)
  obtain ⟨i, j, h1, h2, h3⟩ := xpig n (fun i => (L[i]?).getD 0) hget
  have hil : i < L.length := by omega
  have hjl : j < L.length := by omega
  have h3 : (L[i]?).getD 0 = (L[j]?).getD 0 := h3
  rw [List.getElem?_eq_getElem hil, List.getElem?_eq_getElem hjl] at h3
  exact (List.pairwise_iff_getElem.mp hn) i j hil hjl h1 h3
theorem gv_lt {s : Nat → Bool} (hE : ∀ f, f < m → e (2 * f) < n ∧ e (2 * f + 1) < n) : ∀ p u v, gw e m s u p v → u < n → ∀ x, x ∈ gv e u p → x < n := by
  intro p
  induction p with
  | nil => intro u v _ hu x hx; rw [List.mem_singleton.mp hx]; exact hu
  | cons f p ih =>
    intro u v h hu x hx
    rcases List.mem_cons.mp hx with rfl | hx
    · exact hu
    · refine ih _ v h.2.2.2 ?_ x hx
      unfold xoth
      by_cases c : e (2 * f) = u
      · rw [if_pos c]; exact (hE f h.1).2
      · rw [if_neg c]; exact (hE f h.1).1
theorem gp_len {s : Nat → Bool} (hE : ∀ f, f < m → e (2 * f) < n ∧ e (2 * f + 1) < n) {p : List Nat} {u v : Nat} (h : gw e m s u p v) (hn : (gv e u p).Nodup) (hu : u < n) : p.length + 1 ≤ n := by
  have := g_nodup hn (gv_lt hE p u v h hu)
  rw [gv_len] at this
  exact this
theorem gw_snoc {s : Nat → Bool} : ∀ p u v, gw e m s u p v → ¬ p = [] → ∃ p' f w, p = p' ++ [f] ∧ gw e m s u p' w ∧ f < m ∧ (e (2 * f) = w ∨ e (2 * f + 1) = w) ∧ xoth e f w = v := by
  intro p
  induction p with
  | nil => intro u v _ h; exact absurd rfl h
  | cons f p ih =>
    intro u v h _
    by_cases c : p = []
    · subst c
      exact ⟨[], f, u, rfl, rfl, h.1, h.2.2.1, h.2.2.2⟩
    · obtain ⟨p', g, w, h1, h2, h3, h4, h5⟩ := ih _ v h.2.2.2 c
      exact ⟨f :: p', g, w, by rw [h1]; rfl, ⟨h.1, h.2.1, h.2.2.1, h2⟩, h3, h4, h5⟩
theorem i32_add {x y : Int32} (h1 : -1000000000 ≤ x.toInt) (h2 : x.toInt ≤ 1000000000) (h3 : -1000000000 ≤ y.toInt) (h4 : y.toInt ≤ 1000000000) : (x + y).toInt = x.toInt + y.toInt := by
  rw [Int32.toInt_add]
  exact Int.bmod_eq_of_le (by omega) (by omega)
/-- what holds of the labels all the time -/
def gI (e : Nat → Nat) (m : Nat) (P : Nat → Nat → Int32) (a : Nat) (co wy : Nat → Int32) : Prop :=
  (∀ v, v < 7 → ¬ co v = 2147483647 → ∃ p, gw e m gT a p v ∧ (gv e a p).Nodup ∧ go e P a p ∧ (co v).toInt = gc e P a p ∧ wy v = gm p ∧ ∀ p1 p2 x, p = p1 ++ p2 → gw e m gT a p1 x → (co x).toInt ≤ gc e P a p1) ∧
  (∀ v, v < 7 → co v = 2147483647 → wy v = 0) ∧ (co a).toInt ≤ 0
/-- no arc makes it better -/
def gfe (e : Nat → Nat) (m : Nat) (P : Nat → Nat → Int32) (co : Nat → Int32) : Prop := ∀ f u, f < m → (e (2 * f) = u ∨ e (2 * f + 1) = u) → ¬ P f u = 2147483647 → ¬ co u = 2147483647 → (co (xoth e f u)).toInt ≤ (co u).toInt + (P f u).toInt
/-- as good as every walk of at most k steps -/
def gK (e : Nat → Nat) (m : Nat) (P : Nat → Nat → Int32) (a : Nat) (co : Nat → Int32) (k : Nat) : Prop := ∀ p v, gw e m gT a p v → go e P a p → p.length ≤ k → (co v).toInt ≤ gc e P a p
/-- what the search needs of the prices -/
def gH (e : Nat → Nat) (m n : Nat) (P : Nat → Nat → Int32) (a : Nat) : Prop :=
  m ≤ 14 ∧ n ≤ 7 ∧ a < n ∧ (∀ f, f < m → e (2 * f) < n ∧ e (2 * f + 1) < n ∧ ¬ e (2 * f) = e (2 * f + 1)) ∧ (∀ f u, f < m → ¬ P f u = 2147483647 → -1638400 ≤ (P f u).toInt ∧ (P f u).toInt ≤ 1638400) ∧
  ∃ F : Nat → Int, ∀ f u, f < m → (e (2 * f) = u ∨ e (2 * f + 1) = u) → ¬ P f u = 2147483647 → F (xoth e f u) ≤ F u + (P f u).toInt
theorem gI_bd (H : gH e m n P a) {co wy : Nat → Int32} (h : gI e m P a co wy) {v : Nat} (hv : v < 7) (hc : ¬ co v = 2147483647) : -9830400 ≤ (co v).toInt ∧ (co v).toInt ≤ 9830400 := by
  obtain ⟨h1, h2, h3, h4, h5, h6⟩ := H
  obtain ⟨p, p1, p2, p3, p4, p5, p6⟩ := h.1 v hv hc
  have hl := gp_len (fun f hf => ⟨(h4 f hf).1, (h4 f hf).2.1⟩) p1 p2 h3
  have hb := gc_abs (B := 1638400) h5 p a v p1 p3
  rw [p4]
  omega
theorem xoth_lt (H : gH e m n P a) {f u : Nat} (hf : f < m) : xoth e f u < 7 := by
  obtain ⟨h1, h2, h3, h4, h5, h6⟩ := H
  have := h4 f hf
  unfold xoth
  by_cases c : e (2 * f) = u
  · rw [if_pos c]; omega
  · rw [if_neg c]; omega
/-- one try: what holds goes on holding -/
theorem g_ext (H : gH e m n P a) {co wy : Nat → Int32} (h : gI e m P a co wy) {f u : Nat} (hf : f < m) (hu : e (2 * f) = u ∨ e (2 * f + 1) = u) :
    gI e m P a (xext co wy u f (xoth e f u) (P f u)).2.1 (xext co wy u f (xoth e f u) (P f u)).2.2 ∧ (∀ x, x < 7 → ((xext co wy u f (xoth e f u) (P f u)).2.1 x).toInt ≤ (co x).toInt) ∧
    (¬ P f u = 2147483647 → ¬ co u = 2147483647 → ((xext co wy u f (xoth e f u) (P f u)).2.1 (xoth e f u)).toInt ≤ (co u).toInt + (P f u).toInt) ∧ ((xext co wy u f (xoth e f u) (P f u)).1 = false → (xext co wy u f (xoth e f u) (P f u)).2.1 = co ∧ (xext co wy u f (xoth e f u) (P f u)).2.2 = wy) := by
  have hw7 := xoth_lt (u := u) H hf
  have hu7 : u < 7 := by
    have := H.2.2.2.1 f hf
    have := H.2.1
    rcases hu with q | q <;> omega
  have hMX : (2147483647 : Int32).toInt = 2147483647 := by decide
  by_cases hc : P f u = 2147483647 ∨ co u = 2147483647 ∨ ¬ co u + P f u < co (xoth e f u)
  · have e1 : xext co wy u f (xoth e f u) (P f u) = (false, co, wy) := by unfold xext; rw [if_pos hc]
    rw [e1]
    refine ⟨h, fun x _ => Int.le_refl _, fun n1 n2 => ?_, fun _ => ⟨rfl, rfl⟩⟩
    rcases hc with q | q | q
    · exact absurd q n1
    · exact absurd q n2
    · have b1 := gI_bd H h hu7 n2
      have b2 := H.2.2.2.2.1 f u hf n1
      rw [Int32.lt_iff_toInt_lt, i32_add (by omega) (by omega) (by omega) (by omega)] at q
      show (co (xoth e f u)).toInt ≤ _
      omega
  · have e1 : xext co wy u f (xoth e f u) (P f u) = (true, upd co (xoth e f u) (co u + P f u), upd wy (xoth e f u) (wy u ||| xbt f)) := by unfold xext; rw [if_neg hc]
    rw [e1]
    have n1 : ¬ P f u = 2147483647 := fun q => hc (Or.inl q)
    have n2 : ¬ co u = 2147483647 := fun q => hc (Or.inr (Or.inl q))
    have n3 : co u + P f u < co (xoth e f u) := Classical.not_not.mp (fun q => hc (Or.inr (Or.inr q)))
    have b1 := gI_bd H h hu7 n2
    have b2 := H.2.2.2.2.1 f u hf n1
    have es : (co u + P f u).toInt = (co u).toInt + (P f u).toInt := i32_add (by omega) (by omega) (by omega) (by omega)
    rw [Int32.lt_iff_toInt_lt, es] at n3
    have us : upd co (xoth e f u) (co u + P f u) (xoth e f u) = co u + P f u := if_pos rfl
    have un : ∀ x, ¬ x = xoth e f u → upd co (xoth e f u) (co u + P f u) x = co x := fun x hx => if_neg hx
    have ws : upd wy (xoth e f u) (wy u ||| xbt f) (xoth e f u) = wy u ||| xbt f := if_pos rfl
    have wn : ∀ x, ¬ x = xoth e f u → upd wy (xoth e f u) (wy u ||| xbt f) x = wy x := fun x hx => if_neg hx
    have mono : ∀ x, (upd co (xoth e f u) (co u + P f u) x).toInt ≤ (co x).toInt := by
      intro x
      by_cases c : x = xoth e f u
      · rw [c, us, es]; omega
      · rw [un x c]; exact Int.le_refl _
    obtain ⟨p, p1, p2, p3, p4, p5, p6⟩ := h.1 u hu7 n2
    have hnot : ¬ xoth e f u ∈ gv e a p := by
      intro hin
      obtain ⟨q1, q2, r1, r2, r3, r4, r5⟩ := gw_cut p a u _ p1 hin
      have s1 := p6 q1 q2 _ r1 r2
      obtain ⟨F, hF⟩ := H.2.2.2.2.2
      rw [r1] at p3 p4
      have s2 := ((go_app q1 q2 a _ r2).mp p3).2
      rw [gc_app q1 q2 a _ r2] at p4
      have s3 := gc_pot hF q2 _ u r3 s2
      have s4 := hF f u hf hu n1
      omega
    refine ⟨⟨?_, ?_, ?_⟩, fun x _ => mono x, fun _ _ => ?_, fun q => by cases q⟩
    · intro v hv hvc
      show ∃ p, gw e m gT a p v ∧ (gv e a p).Nodup ∧ go e P a p ∧ (upd co (xoth e f u) (co u + P f u) v).toInt = gc e P a p ∧ upd wy (xoth e f u) (wy u ||| xbt f) v = gm p ∧ ∀ p1 p2 x, p = p1 ++ p2 → gw e m gT a p1 x → (upd co (xoth e f u) (co u + P f u) x).toInt ≤ gc e P a p1
      have hvc : ¬ upd co (xoth e f u) (co u + P f u) v = 2147483647 := hvc
      by_cases c : v = xoth e f u
      · subst c
        refine ⟨p ++ [f], gw_app p [f] a u _ p1 ⟨hf, rfl, hu, rfl⟩, ?_, (go_app p [f] a u p1).mpr ⟨p3, n1, trivial⟩, ?_, ?_, ?_⟩
        · rw [gv_app1 p f a u p1, List.nodup_append]
          exact ⟨p2, List.nodup_cons.mpr ⟨List.not_mem_nil, List.nodup_nil⟩, fun x hx y hy hxy => by rw [List.mem_singleton.mp hy] at hxy; exact hnot (hxy ▸ hx)⟩
        · rw [us, es, gc_app p [f] a u p1, p4]
          show _ = gc e P a p + ((P f u).toInt + 0)
          omega
        · rw [ws, p5]
          have : ∀ q : List Nat, gm q ||| xbt f = gm (q ++ [f]) := by
            intro q
            induction q with
            | nil =>
              show 0 ||| xbt f = xbt f ||| 0
              exact Int32.or_comm _ _
            | cons g q ih =>
              show (xbt g ||| gm q) ||| xbt f = xbt g ||| gm (q ++ [f])
              rw [Int32.or_assoc, ih]
          exact this p
        · intro q1 q2 x hq hx
          by_cases c2 : q2 = []
          · rw [c2, List.append_nil] at hq
            subst hq
            have hxe : x = xoth e f u := by
              have g1 := gw_app p [f] a u _ p1 (show gw e m gT u [f] (xoth e f u) from ⟨hf, rfl, hu, rfl⟩)
              have uniq : ∀ (p : List Nat) (u x y : Nat), gw e m gT u p x → gw e m gT u p y → x = y := by
                intro p
                induction p with
                | nil => intro u x y h1 h2; exact (show u = x from h1).symm.trans h2
                | cons g p ih => intro u x y h1 h2; exact ih _ x y h1.2.2.2 h2.2.2.2
              exact uniq _ _ _ _ hx g1
            subst hxe
            rw [us, es, gc_app p [f] a u p1, p4]
            show _ ≤ gc e P a p + ((P f u).toInt + 0)
            omega
          · obtain ⟨q3, hq3⟩ : ∃ q3, p = q1 ++ q3 := by
              have := List.append_eq_append_iff.mp hq
              rcases this with ⟨z, z1, z2⟩ | ⟨z, z1, z2⟩
              · cases z with
                | nil => exact ⟨[], by rw [List.append_nil] at z1 ⊢; exact z1.symm⟩
                | cons y z =>
                  exfalso
                  have : ([f] : List Nat).length = (y :: z ++ q2).length := by rw [z2]
                  simp only [List.length_append, List.length_cons, List.length_nil] at this
                  have : q2.length = 0 := by omega
                  exact c2 (List.length_eq_zero_iff.mp this)
              · exact ⟨z, z1⟩
            have := p6 q1 q3 x hq3 hx
            have := mono x
            omega
      · rw [un v c] at hvc
        obtain ⟨q, q1, q2, q3, q4, q5, q6⟩ := h.1 v hv hvc
        exact ⟨q, q1, q2, q3, by rw [un v c]; exact q4, by rw [wn v c]; exact q5, fun r1 r2 x r3 r4 => by have := q6 r1 r2 x r3 r4; have := mono x; omega⟩
    · intro v hv hvc
      have hvc : upd co (xoth e f u) (co u + P f u) v = 2147483647 := hvc
      by_cases c : v = xoth e f u
      · exfalso
        rw [c, us] at hvc
        rw [hvc, hMX] at es
        omega
      · show upd wy (xoth e f u) (wy u ||| xbt f) v = 0
        rw [un v c] at hvc
        rw [wn v c]
        exact h.2.1 v hv hvc
    · have := mono a
      have := h.2.2
      show (upd co (xoth e f u) (co u + P f u) a).toInt ≤ 0
      omega
    · show (upd co (xoth e f u) (co u + P f u) (xoth e f u)).toInt ≤ _
      rw [us, es]
      exact Int.le_refl _
end GB
end
section
/-! 53.rounds: the search's rounds; the best path. Pure. -/
section GR
variable {e : Nat → Nat} {m n a : Nat} {on bk : Nat → Int32}
abbrev gsr (e : Nat → Nat) : Nat → Nat := fun f => e (2 * f)
abbrev gds (e : Nat → Nat) : Nat → Nat := fun f => e (2 * f + 1)
/-- the price of fibre f from u on -/
def gPr (e : Nat → Nat) (on bk : Nat → Int32) (f u : Nat) : Int32 := if e (2 * f) = u then on f else bk f
theorem g_rnd (H : gH e m n (gPr e on bk) a) : ∀ k i b co wy, i + k = m → gI e m (gPr e on bk) a co wy →
    gI e m (gPr e on bk) a (xrnd (gsr e) (gds e) on bk k i b co wy).2.1 (xrnd (gsr e) (gds e) on bk k i b co wy).2.2 ∧ (∀ x, x < 7 → ((xrnd (gsr e) (gds e) on bk k i b co wy).2.1 x).toInt ≤ (co x).toInt) ∧
    (∀ f u, i ≤ f → f < m → (e (2 * f) = u ∨ e (2 * f + 1) = u) → ¬ gPr e on bk f u = 2147483647 → ¬ co u = 2147483647 → ((xrnd (gsr e) (gds e) on bk k i b co wy).2.1 (xoth e f u)).toInt ≤ (co u).toInt + (gPr e on bk f u).toInt) ∧
    ((xrnd (gsr e) (gds e) on bk k i b co wy).1 = false → b = false ∧ (xrnd (gsr e) (gds e) on bk k i b co wy).2.1 = co) := by
  intro k
  induction k with
  | zero =>
    intro i b co wy hi h
    exact ⟨h, fun x _ => Int.le_refl _, fun f u h1 h2 => by omega, fun q => ⟨q, rfl⟩⟩
  | succ k ih =>
    intro i b co wy hi h
    have him : i < m := by omega
    have hne := (H.2.2.2.1 i him).2.2
    have hMX : (2147483647 : Int32).toInt = 2147483647 := by decide
    have keep : ∀ {co co' wy : Nat → Int32} {u : Nat}, gI e m (gPr e on bk) a co wy → u < 7 → (co' u).toInt ≤ (co u).toInt → ¬ co u = 2147483647 → ¬ co' u = 2147483647 := by
      intro co co' wy u h hu hle hc q
      have := gI_bd H h hu hc
      rw [q, hMX] at hle
      omega
    have o1 : xoth e i (e (2 * i)) = e (2 * i + 1) := if_pos rfl
    have o2 : xoth e i (e (2 * i + 1)) = e (2 * i) := if_neg hne
    have p1 : gPr e on bk i (e (2 * i)) = on i := if_pos rfl
    have p2 : gPr e on bk i (e (2 * i + 1)) = bk i := if_neg hne
    obtain ⟨a1, a2, a3, a4⟩ := g_ext H h him (Or.inl (rfl : e (2 * i) = e (2 * i)))
    rw [o1, p1] at a1 a2 a3 a4
    generalize hx1 : xext co wy (e (2 * i)) i (e (2 * i + 1)) (on i) = x1 at *
    obtain ⟨b1, b2, b3, b4⟩ := g_ext H a1 him (Or.inr (rfl : e (2 * i + 1) = e (2 * i + 1)))
    rw [o2, p2] at b1 b2 b3 b4
    have ex : xrnd (gsr e) (gds e) on bk (k + 1) i b co wy = xrnd (gsr e) (gds e) on bk k (i + 1) (b || x1.1 || (xext x1.2.1 x1.2.2 (e (2 * i + 1)) i (e (2 * i)) (bk i)).1) (xext x1.2.1 x1.2.2 (e (2 * i + 1)) i (e (2 * i)) (bk i)).2.1 (xext x1.2.1 x1.2.2 (e (2 * i + 1)) i (e (2 * i)) (bk i)).2.2 := by
      rw [← hx1]
      rfl
    rw [ex]
    generalize hx2 : xext x1.2.1 x1.2.2 (e (2 * i + 1)) i (e (2 * i)) (bk i) = x2 at *
    obtain ⟨c1, c2, c3, c4⟩ := ih (i + 1) (b || x1.1 || x2.1) x2.2.1 x2.2.2 (by omega) b1
    generalize hx3 : xrnd (gsr e) (gds e) on bk k (i + 1) (b || x1.1 || x2.1) x2.2.1 x2.2.2 = x3 at *
    have lt7 : ∀ f, f < m → e (2 * f) < 7 ∧ e (2 * f + 1) < 7 := fun f hf => by
      have := H.2.2.2.1 f hf
      have := H.2.1
      omega
    refine ⟨c1, fun x hx => ?_, ?_, ?_⟩
    · have q1 := c2 x hx
      have q2 := b2 x hx
      have q3 := a2 x hx
      omega
    · intro f u h1 h2 h3 h4 h5
      have hu7 : u < 7 := by
        have := lt7 f h2
        rcases h3 with q | q <;> omega
      have hw7 := xoth_lt (u := u) H h2
      by_cases c : f = i
      · subst c
        rcases h3 with q | q
        · subst q
          rw [o1, p1]
          rw [p1] at h4
          have q1 := a3 h4 h5
          have q2 := b2 _ (lt7 f h2).2
          have q3 := c2 _ (lt7 f h2).2
          omega
        · subst q
          rw [o2, p2]
          rw [p2] at h4
          have q0 := a2 _ hu7
          have q1 := b3 h4 (keep h hu7 q0 h5)
          have q3 := c2 _ (lt7 f h2).1
          omega
      · have q0 := a2 _ hu7
        have q1 := b2 _ hu7
        have q2 := c3 f u (by omega) h2 h3 h4 (keep a1 hu7 q1 (keep h hu7 q0 h5))
        omega
    · intro q
      obtain ⟨d1, d2⟩ := c4 q
      rw [Bool.or_eq_false_iff, Bool.or_eq_false_iff] at d1
      exact ⟨d1.1.1, d2.trans ((b4 d1.2).1.trans (a4 d1.1.2).1)⟩
theorem g_bfr (H : gH e m n (gPr e on bk) a) : ∀ k j b co wy, j + k ≤ 6 → gI e m (gPr e on bk) a co wy → gK e m (gPr e on bk) a co j → (b = false → gfe e m (gPr e on bk) co) →
    gI e m (gPr e on bk) a (xbf (gsr e) (gds e) on bk m k b co wy).1 (xbf (gsr e) (gds e) on bk m k b co wy).2 ∧ (gfe e m (gPr e on bk) (xbf (gsr e) (gds e) on bk m k b co wy).1 ∨ gK e m (gPr e on bk) a (xbf (gsr e) (gds e) on bk m k b co wy).1 (j + k)) := by
  intro k
  induction k with
  | zero => intro j b co wy _ h hk _; exact ⟨h, Or.inr hk⟩
  | succ k ih =>
    intro j b co wy hjk h hk hb
    cases b with
    | false => exact ⟨h, Or.inl (hb rfl)⟩
    | true =>
      obtain ⟨a1, a2, a3, a4⟩ := g_rnd H m 0 false co wy (by omega) h
      have ex : xbf (gsr e) (gds e) on bk m (k + 1) true co wy = xbf (gsr e) (gds e) on bk m k (xrnd (gsr e) (gds e) on bk m 0 false co wy).1 (xrnd (gsr e) (gds e) on bk m 0 false co wy).2.1 (xrnd (gsr e) (gds e) on bk m 0 false co wy).2.2 := rfl
      rw [ex]
      generalize xrnd (gsr e) (gds e) on bk m 0 false co wy = x at *
      have := ih (j + 1) x.1 x.2.1 x.2.2 (by omega) a1 ?_ ?_
      · rw [show j + (k + 1) = j + 1 + k by omega]
        exact this
      · intro p v hp ho hl
        by_cases c : p = []
        · subst c
          have := hk [] v hp ho (by simp)
          have hv : a = v := hp
          have := a2 v (by have := H.2.1; have := H.2.2.1; omega)
          omega
        · obtain ⟨p', f, u, h1, h2, h3, h4, h5⟩ := gw_snoc p a v hp c
          rw [h1] at ho hl ⊢
          rw [gc_app p' [f] a u h2]
          have ho' := (go_app p' [f] a u h2).mp ho
          rw [List.length_append] at hl
          have hl' : p'.length ≤ j := by simp at hl; omega
          have q1 := hk p' u h2 ho'.1 hl'
          have hMX : (2147483647 : Int32).toInt = 2147483647 := by decide
          -- the label of u is there
          have hu7 : u < 7 := by
            have := H.2.2.2.1 f h3
            have := H.2.1
            rcases h4 with q | q <;> omega
          by_cases cu : co u = 2147483647
          · exfalso
            rw [cu, hMX] at q1
            have hb := gc_abs (B := 1638400) H.2.2.2.2.1 p' a u h2 ho'.1
            omega
          · have q2 := a3 f u (by omega) h3 h4 ho'.2.1 cu
            rw [h5] at q2
            have k3 : gc e (gPr e on bk) u [f] = (gPr e on bk f u).toInt := by show _ + (0 : Int) = _; omega
            rw [k3]
            omega
      · intro q f u h1 h2 h3 h4
        obtain ⟨_, d2⟩ := a4 q
        have := a3 f u (by omega) h1 h2 h3 (by rw [d2] at h4; exact h4)
        rw [d2] at this ⊢
        exact this
/-- the search, done: labels that are paths, and no arc makes them better -/
theorem g_cw (H : gH e m n (gPr e on bk) a) (co wy : Nat → Int32) : gI e m (gPr e on bk) a (xcw (gsr e) (gds e) on bk n m a co wy).1 (xcw (gsr e) (gds e) on bk n m a co wy).2 ∧ gfe e m (gPr e on bk) (xcw (gsr e) (gds e) on bk n m a co wy).1 := by
  have hMX : (2147483647 : Int32).toInt = 2147483647 := by decide
  have h7 := H.2.1
  have han := H.2.2.1
  have c0a : upd (xfill co 7 2147483647) a 0 a = 0 := if_pos rfl
  have c0n : ∀ v, v < 7 → ¬ v = a → upd (xfill co 7 2147483647) a 0 v = 2147483647 := fun v hv hva => (if_neg hva).trans (if_pos hv)
  have w0 : ∀ v, v < 7 → xfill wy 7 0 v = 0 := fun v hv => if_pos hv
  have start : gI e m (gPr e on bk) a (upd (xfill co 7 2147483647) a 0) (xfill wy 7 0) := by
    refine ⟨fun v hv hc => ?_, fun v hv _ => w0 v hv, by rw [c0a]; decide⟩
    have hva : v = a := by
      apply Classical.byContradiction
      intro q
      exact hc (c0n v hv q)
    subst hva
    refine ⟨[], rfl, List.nodup_cons.mpr ⟨List.not_mem_nil, List.nodup_nil⟩, trivial, by rw [c0a]; rfl, w0 v hv, fun p1 p2 x hp hx => ?_⟩
    have : p1 = [] := (List.append_eq_nil_iff.mp hp.symm).1
    subst this
    have hx : v = x := hx
    subst hx
    rw [c0a]
    exact Int.le_refl _
  have K0 : gK e m (gPr e on bk) a (upd (xfill co 7 2147483647) a 0) 0 := by
    intro p v hp _ hl
    have : p = [] := List.length_eq_zero_iff.mp (by omega)
    subst this
    have hv : a = v := hp
    subst hv
    rw [c0a]
    exact Int.le_refl _
  have := g_bfr H (n - 1) 0 true _ _ (by omega) start K0 (fun q => by cases q)
  obtain ⟨h1, h2⟩ := this
  show gI e m (gPr e on bk) a (xbf (gsr e) (gds e) on bk m (n - 1) true (upd (xfill co 7 2147483647) a 0) (xfill wy 7 0)).1 (xbf (gsr e) (gds e) on bk m (n - 1) true (upd (xfill co 7 2147483647) a 0) (xfill wy 7 0)).2 ∧ gfe e m (gPr e on bk) (xbf (gsr e) (gds e) on bk m (n - 1) true (upd (xfill co 7 2147483647) a 0) (xfill wy 7 0)).1
  generalize xbf (gsr e) (gds e) on bk m (n - 1) true (upd (xfill co 7 2147483647) a 0) (xfill wy 7 0) = r at *
  refine ⟨h1, ?_⟩
  rcases h2 with h2 | h2
  · exact h2
  · intro f u hf hu hP hc
    have hE : ∀ f, f < m → e (2 * f) < n ∧ e (2 * f + 1) < n := fun f hf => ⟨(H.2.2.2.1 f hf).1, (H.2.2.2.1 f hf).2.1⟩
    have hu7 : u < 7 := by
      have := hE f hf
      rcases hu with q | q <;> omega
    obtain ⟨p, p1, p2, p3, p4, p5, p6⟩ := h1.1 u hu7 hc
    by_cases c : xoth e f u ∈ gv e a p
    · obtain ⟨q1, q2, r1, r2, r3, r4, r5⟩ := gw_cut p a u _ p1 c
      have s1 := p6 q1 q2 _ r1 r2
      obtain ⟨F, hF⟩ := H.2.2.2.2.2
      rw [r1] at p3 p4
      have s2 := ((go_app q1 q2 a _ r2).mp p3).2
      rw [gc_app q1 q2 a _ r2] at p4
      have s3 := gc_pot hF q2 _ u r3 s2
      have s4 := hF f u hf hu hP
      omega
    · have t1 : gw e m gT a (p ++ [f]) (xoth e f u) := gw_app p [f] a u _ p1 ⟨hf, rfl, hu, rfl⟩
      have t2 : (gv e a (p ++ [f])).Nodup := by
        rw [gv_app1 p f a u p1, List.nodup_append]
        exact ⟨p2, List.nodup_cons.mpr ⟨List.not_mem_nil, List.nodup_nil⟩, fun x hx y hy hxy => by rw [List.mem_singleton.mp hy] at hxy; exact c (hxy ▸ hx)⟩
      have t3 := gp_len hE t1 t2 han
      have t4 := h2 (p ++ [f]) _ t1 ((go_app p [f] a u p1).mpr ⟨p3, hP, trivial⟩) (by omega)
      rw [gc_app p [f] a u p1] at t4
      have k3 : gc e (gPr e on bk) u [f] = (gPr e on bk f u).toInt := by show _ + (0 : Int) = _; omega
      rw [k3] at t4
      omega
/-- what is not reached, when b is not -/
theorem g_lost {P : Nat → Nat → Int32} (H : gH e m n P a) {co wy : Nat → Int32} {b : Nat} (hI : gI e m P a co wy) (hf : gfe e m P co) (hb : b < n) (hab : ¬ a = b) (h0 : wy b = 0) : ∃ R : Nat → Bool, R a = true ∧ R b = false ∧ ∀ f u, f < m → (e (2 * f) = u ∨ e (2 * f + 1) = u) → ¬ P f u = 2147483647 → R u = true → R (xoth e f u) = true := by
  have hMX : (2147483647 : Int32).toInt = 2147483647 := by decide
  have h7 := H.2.1
  have hE : ∀ f, f < m → e (2 * f) < n ∧ e (2 * f + 1) < n := fun f hf => ⟨(H.2.2.2.1 f hf).1, (H.2.2.2.1 f hf).2.1⟩
  refine ⟨fun v => decide (¬ co v = 2147483647), ?_, ?_, ?_⟩
  · refine decide_eq_true (fun q => ?_)
    have := hI.2.2
    rw [q, hMX] at this
    omega
  · refine decide_eq_false (fun q => ?_)
    obtain ⟨p, p1, p2, p3, p4, p5, p6⟩ := hI.1 b (by omega) q
    rw [h0] at p5
    have hm := H.1
    refine gm_ne (fun f hf => by have := (gw_mem p a b p1 f hf).1; omega) (fun z => ?_) p5.symm
    subst z
    exact hab p1
  · intro f u h1 h2 h3 h4
    have hu : ¬ co u = 2147483647 := of_decide_eq_true h4
    have hu7 : u < 7 := by
      have := hE f h1
      rcases h2 with q | q <;> omega
    refine decide_eq_true (fun q => ?_)
    have q1 := hf f u h1 h2 h3 hu
    have q2 := gI_bd H hI hu7 hu
    have q3 := H.2.2.2.2.1 f u h1 h3
    rw [q, hMX] at q1
    omega
/-- the cost of a path whose prices do not ask for the direction -/
theorem gc_sum {P : Nat → Nat → Int32} {s : Nat → Bool} {w : Nat → Int} (hP : ∀ f u, f < m → ¬ P f u = 2147483647 → (P f u).toInt = w f) : ∀ p u v, gw e m s u p v → go e P u p → p.Nodup → gc e P u p = gs (fun f => if f ∈ p then w f else 0) m := by
  intro p
  induction p with
  | nil =>
    intro u v _ _ _
    have : gs (fun f => if f ∈ ([] : List Nat) then w f else 0) m = gs (fun _ => 0) m := gs_congr m (fun i _ => if_neg List.not_mem_nil)
    rw [this, gs_zero]
    rfl
  | cons g p ih =>
    intro u v h ho hn
    rw [List.nodup_cons] at hn
    have h1 : gs (fun f => if f ∈ g :: p then w f else 0) m = gs (fun f => w f * g1 g f) m + gs (fun f => if f ∈ p then w f else 0) m := by
      rw [← gs_add]
      refine gs_congr m (fun f _ => ?_)
      unfold g1
      by_cases c : f = g
      · subst c
        rw [if_pos List.mem_cons_self, if_pos rfl, if_neg hn.1]
        omega
      · by_cases c2 : f ∈ p
        · rw [if_pos (List.mem_cons_of_mem _ c2), if_neg c, if_pos c2]
          omega
        · rw [if_neg (fun q => by rcases List.mem_cons.mp q with q | q; exact c q; exact c2 q), if_neg c, if_neg c2]
          omega
    rw [h1, gs_pick, if_pos h.1, ← ih _ v h.2.2.2 ho.2 hn.2]
    show (P g u).toInt + _ = _
    rw [hP g u h.1 ho.1]
/-- the weight, as the class counts it -/
theorem xwt_I {l : Nat → Nat} {f : Nat} (hf : f < 14) (h1 : 1 ≤ l f) (h2 : l f ≤ 100) : (xwt (fun j => nI (l j)) f).toInt = gwt l f := by
  unfold xwt gwt
  have e1 : nI (l f) <<< ((14 : Int32) &&& 31) = nI (l f * 2 ^ 14) := pk_shlN _ 14 (by decide) (by omega)
  have e2 : (1 : Int32) <<< ((13 - nI f) &&& 31) = nI (2 ^ (13 - f)) := (by decide +kernel : ∀ f, f < 14 → (1 : Int32) <<< ((13 - nI f) &&& 31) = nI (2 ^ (13 - f))) f hf
  have e3 : 2 ^ (13 - f) ≤ 2 ^ 13 := Nat.pow_le_pow_right (by omega) (by omega)
  show (nI (l f) <<< ((14 : Int32) &&& 31) - (1 : Int32) <<< ((13 - nI f) &&& 31)).toInt = _
  rw [e1, e2, Int32.toInt_sub, nI_toInt (by omega), nI_toInt (by omega)]
  generalize 2 ^ (13 - f) = Z at *
  rw [Int.bmod_eq_of_le (by omega) (by omega)]
  omega
end GR
end
section
/-! 54.best: the best path, and what a pair is. Pure. -/
section GP
variable {e l : Nat → Nat} {m n a b : Nat} {on bk co wy : Nat → Int32} {s : Int32}
/-- a net that keeps the document's bounds -/
def gG (e l : Nat → Nat) (m n : Nat) : Prop := m ≤ 14 ∧ n ≤ 7 ∧ ∀ f, f < m → e (2 * f) < n ∧ e (2 * f + 1) < n ∧ ¬ e (2 * f) = e (2 * f + 1) ∧ 1 ≤ l f ∧ l f ≤ 100
abbrev gln (l : Nat → Nat) : Nat → Int32 := fun j => nI (l j)
abbrev gP1 (e l : Nat → Nat) (m : Nat) (on bk : Nat → Int32) (s : Int32) : Nat → Nat → Int32 := gPr e (xopn (xpr s (gln l)) on m) (xopn (xpr s (gln l)) bk m)
theorem gP1_eq {f u : Nat} (hf : f < m) : gP1 e l m on bk s f u = xpr s (gln l) f := by
  unfold gP1 gPr xopn
  by_cases c : e (2 * f) = u
  · rw [if_pos c, if_pos hf]
  · rw [if_neg c, if_pos hf]
theorem xwt_ne (G : gG e l m n) {f : Nat} (hf : f < m) : ¬ xwt (gln l) f = 2147483647 := by
  intro q
  have hM : (2147483647 : Int32).toInt = 2147483647 := by decide
  have h1 := xwt_I (l := l) (f := f) (by have := G.1; omega) (G.2.2 f hf).2.2.2.1 (G.2.2 f hf).2.2.2.2
  rw [q, hM] at h1
  have := gwt_le (l := l) (f := f) (G.2.2 f hf).2.2.2.2
  omega
theorem gP1_open (G : gG e l m n) {f u : Nat} (hf : f < m) : (¬ gP1 e l m on bk s f u = 2147483647 ↔ xb s f = true) ∧ (¬ gP1 e l m on bk s f u = 2147483647 → (gP1 e l m on bk s f u).toInt = gwt l f) := by
  rw [gP1_eq hf]
  unfold xpr
  by_cases c : xb s f = true
  · rw [if_pos c]
    exact ⟨⟨fun _ => c, fun _ => xwt_ne G hf⟩, fun _ => xwt_I (by have := G.1; omega) (G.2.2 f hf).2.2.2.1 (G.2.2 f hf).2.2.2.2⟩
  · rw [if_neg c]
    exact ⟨⟨fun q => absurd rfl q, fun q => absurd q c⟩, fun q => absurd rfl q⟩
theorem gH1 (G : gG e l m n) (ha : a < n) : gH e m n (gP1 e l m on bk s) a := by
  refine ⟨G.1, G.2.1, ha, fun f hf => ⟨(G.2.2 f hf).1, (G.2.2 f hf).2.1, (G.2.2 f hf).2.2.1⟩, fun f u hf ho => ?_, fun _ => 0, fun f u hf _ ho => ?_⟩
  · rw [(gP1_open G hf).2 ho]
    have h1 := gwt_le (l := l) (f := f) (G.2.2 f hf).2.2.2.2
    have h2 := gwt_pos (l := l) (f := f) (G.2.2 f hf).2.2.2.1
    omega
  · rw [(gP1_open G hf).2 ho]
    have h2 := gwt_pos (l := l) (f := f) (G.2.2 f hf).2.2.2.1
    show (0 : Int) ≤ 0 + gwt l f
    omega
theorem i32_max (x : Int32) : x.toInt ≤ 2147483647 := by
  have := Int32.toInt_lt x
  omega
/-- the labels of a search are a potential, if no price is below 0 -/
theorem g_potD (G : gG e l m n) (hf : gfe e m (gP1 e l m on bk s) co) : ∀ f u, f < m → (e (2 * f) = u ∨ e (2 * f + 1) = u) → xb s f = true → (co (xoth e f u)).toInt ≤ (co u).toInt + gwt l f := by
  intro f u h1 h2 h3
  have ho := (gP1_open (e := e) (on := on) (bk := bk) (s := s) (u := u) G h1).1.mpr h3
  have hv := (gP1_open (e := e) (on := on) (bk := bk) (s := s) (u := u) G h1).2 ho
  by_cases c : co u = 2147483647
  · rw [c, show (2147483647 : Int32).toInt = 2147483647 from by decide]
    have h2 := gwt_pos (l := l) (f := f) (G.2.2 f h1).2.2.2.1
    have := i32_max (co (xoth e f u))
    omega
  · have := hf f u h1 h2 ho c
    rw [hv] at this
    exact this
theorem gw_open {P : Nat → Nat → Int32} {t : Nat → Bool} (hP : ∀ f u, f < m → ¬ P f u = 2147483647 → t f = true) : ∀ p u v, gw e m gT u p v → go e P u p → gw e m t u p v := by
  intro p
  induction p with
  | nil => intro u v h _; exact h
  | cons f p ih => intro u v h ho; exact ⟨h.1, hP f u h.1 ho.1, h.2.2.1, ih _ v h.2.2.2 ho.2⟩
theorem go_open {P : Nat → Nat → Int32} {t : Nat → Bool} (hP : ∀ f u, f < m → t f = true → ¬ P f u = 2147483647) : ∀ p u v, gw e m t u p v → go e P u p := by
  intro p
  induction p with
  | nil => intro u v _; exact trivial
  | cons f p ih => intro u v h; exact ⟨hP f u h.1 h.2.1, ih _ v h.2.2.2⟩
theorem gw_R {t : Nat → Bool} {R : Nat → Bool} (hR : ∀ f u, f < m → t f = true → (e (2 * f) = u ∨ e (2 * f + 1) = u) → R u = true → R (xoth e f u) = true) : ∀ p u v, gw e m t u p v → R u = true → R v = true := by
  intro p
  induction p with
  | nil => intro u v h hu; rw [← show u = v from h]; exact hu
  | cons f p ih => intro u v h hu; exact ih _ v h.2.2.2 (hR f u h.1 h.2.1 h.2.2.1 hu)
theorem gp_32 (G : gG e l m n) {t : Nat → Bool} {p : List Nat} {u v : Nat} (h : gw e m t u p v) : ∀ f, f ∈ p → f < 32 := fun f hf => by
  have := (gw_mem p u v h f hf).1
  have := G.1
  omega
/-- the cost of a path, by its set -/
theorem gc_W (G : gG e l m n) {P : Nat → Nat → Int32} {t : Nat → Bool} {p : List Nat} {u v : Nat} (hP : ∀ f u, f < m → ¬ P f u = 2147483647 → (P f u).toInt = gwt l f) (h : gp e m t u v p) (ho : go e P u p) : gc e P u p = gW l m (gm p) := by
  rw [gc_sum hP p u v h.1 ho (gp_nodup p u v h), ← gm_S (gwt l) (gp_32 G h.1) (by have := G.1; omega)]
/-- what bestPath answers -/
theorem g_path (G : gG e l m n) (ha : a < n) (hb : b < n) (hab : ¬ a = b) :
    ((xbp (gsr e) (gds e) (gln l) n m on bk co wy s a).2 b = 0 → ¬ ∃ p, gp e m (xb s) a b p) ∧
    (¬ (xbp (gsr e) (gds e) (gln l) n m on bk co wy s a).2 b = 0 → ∃ p, gp e m (xb s) a b p ∧ (xbp (gsr e) (gds e) (gln l) n m on bk co wy s a).2 b = gm p ∧ ((xbp (gsr e) (gds e) (gln l) n m on bk co wy s a).1 b).toInt = gW l m (gm p) ∧ ∀ q, gp e m (xb s) a b q → gW l m (gm p) ≤ gW l m (gm q)) := by
  have H := gH1 (e := e) (on := on) (bk := bk) (s := s) G ha
  obtain ⟨hI, hf⟩ := g_cw H co wy
  show ((xcw (gsr e) (gds e) (xopn (xpr s (gln l)) on m) (xopn (xpr s (gln l)) bk m) n m a co wy).2 b = 0 → _) ∧ (¬ (xcw (gsr e) (gds e) (xopn (xpr s (gln l)) on m) (xopn (xpr s (gln l)) bk m) n m a co wy).2 b = 0 → ∃ p, _ ∧ (xcw (gsr e) (gds e) (xopn (xpr s (gln l)) on m) (xopn (xpr s (gln l)) bk m) n m a co wy).2 b = gm p ∧ ((xcw (gsr e) (gds e) (xopn (xpr s (gln l)) on m) (xopn (xpr s (gln l)) bk m) n m a co wy).1 b).toInt = _ ∧ _)
  generalize xcw (gsr e) (gds e) (xopn (xpr s (gln l)) on m) (xopn (xpr s (gln l)) bk m) n m a co wy = r at *
  constructor
  · rintro h0 ⟨p, hp⟩
    obtain ⟨R, r1, r2, r3⟩ := g_lost H hI hf hb hab h0
    have := gw_R (R := R) (fun f u q1 q2 q3 q4 => r3 f u q1 q3 ((gP1_open G q1).1.mpr q2) q4) p a b hp.1 r1
    rw [this] at r2
    cases r2
  · intro h0
    have hc : ¬ r.1 b = 2147483647 := fun q => h0 (hI.2.1 b (by have := G.2.1; omega) q)
    obtain ⟨p, p1, p2, p3, p4, p5, p6⟩ := hI.1 b (by have := G.2.1; omega) hc
    have hw := gw_open (t := xb s) (fun f u q1 q2 => (gP1_open G q1).1.mp q2) p a b p1 p3
    have hg : gp e m (xb s) a b p := ⟨hw, p2⟩
    have e1 := gc_W G (P := gP1 e l m on bk s) (fun f u q1 q2 => (gP1_open G q1).2 q2) hg p3
    refine ⟨p, hg, p5, p4.trans e1, fun q hq => ?_⟩
    have hoq := go_open (P := gP1 e l m on bk s) (fun f u q1 q2 => (gP1_open G q1).1.mpr q2) q a b hq.1
    have e2 := gc_W G (P := gP1 e l m on bk s) (fun f u q1 q2 => (gP1_open G q1).2 q2) hq hoq
    have e3 := gc_pot (P := gP1 e l m on bk s) (F := fun v => (r.1 v).toInt) (fun f u q1 q2 q3 => by
      have := g_potD G hf f u q1 q2 ((gP1_open G q1).1.mp q3)
      rw [(gP1_open G q1).2 q3]
      exact this) q a b hq.1 hoq
    have e4 := hI.2.2
    have e3 : (r.1 b).toInt ≤ (r.1 a).toInt + gc e (gP1 e l m on bk s) a q := e3
    have e0 : (r.1 b).toInt = gW l m (gm p) := p4.trans e1
    rw [e2, e0] at e3
    omega
/-- T carries two units from a to b, by the flow h -/
def g2 (e : Nat → Nat) (m a b : Nat) (T : Int32) (h : Nat → Int) : Prop := (∀ f, f < m → xb T f = true → h f = 1 ∨ h f = -1) ∧ (∀ f, f < m → xb T f = false → h f = 0) ∧ ∀ F : Nat → Int, gs (fun g => h g * (F (e (2 * g + 1)) - F (e (2 * g)))) m = 2 * (F b - F a)
theorem g2_pair (G : gG e l m n) {X Y : List Nat} {t : Nat → Bool} (hX : gp e m t a b X) (hY : gp e m t a b Y) (hd : ∀ f, f ∈ X → ¬ f ∈ Y) : g2 e m a b (gm X ||| gm Y) (fun f => gf e a X f + gf e a Y f) := by
  have hm := G.1
  have hb : ∀ f, f < m → xb (gm X ||| gm Y) f = (decide (f ∈ X) || decide (f ∈ Y)) := fun f hf => by rw [xb_or _ _ (by omega), gm_b (gp_32 G hX.1) (by omega), gm_b (gp_32 G hY.1) (by omega)]
  refine ⟨fun f hf h => ?_, fun f hf h => ?_, fun F => ?_⟩
  · rw [hb f hf, Bool.or_eq_true, decide_eq_true_iff, decide_eq_true_iff] at h
    show gf e a X f + gf e a Y f = 1 ∨ gf e a X f + gf e a Y f = -1
    rcases h with h | h
    · rw [gf_0 Y a f (hd f h), Int.add_zero]
      exact gf_1 X a f (gp_nodup X a b hX) h
    · rw [gf_0 X a f (fun q => hd f q h), Int.zero_add]
      exact gf_1 Y a f (gp_nodup Y a b hY) h
  · rw [hb f hf, Bool.or_eq_false_iff, decide_eq_false_iff_not, decide_eq_false_iff_not] at h
    show gf e a X f + gf e a Y f = 0
    rw [gf_0 X a f h.1, gf_0 Y a f h.2]
    rfl
  · have h1 : gs (fun g => (gf e a X g + gf e a Y g) * (F (e (2 * g + 1)) - F (e (2 * g)))) m = gs (fun g => gf e a X g * (F (e (2 * g + 1)) - F (e (2 * g)))) m + gs (fun g => gf e a Y g * (F (e (2 * g + 1)) - F (e (2 * g)))) m := by
      rw [← gs_add]
      exact gs_congr m (fun g _ => Int.add_mul _ _ _)
    rw [h1, g_tel F X a b hX.1, g_tel F Y a b hY.1]
    omega
/-- where two units go, there is a path .. -/
theorem g2_path {T : Int32} {h : Nat → Int} (hT : g2 e m a b T h) : ∃ X, gp e m (xb T) a b X := by
  apply Classical.byContradiction
  intro hn
  obtain ⟨R, r1, r2, r3⟩ := g_cut hn
  have h1 := hT.2.2 (fun v => if R v = true then 1 else 0)
  have h2 : gs (fun g => h g * ((if R (e (2 * g + 1)) = true then 1 else 0) - (if R (e (2 * g)) = true then 1 else 0))) m = gs (fun _ => 0) m := by
    refine gs_congr m (fun g hg => ?_)
    cases hb : xb T g with
    | false => rw [hT.2.1 g hg hb, Int.zero_mul]
    | true => rw [r3 g hg hb, Int.sub_self, Int.mul_zero]
  rw [gs_zero] at h2
  have h1 : gs (fun g => h g * ((if R (e (2 * g + 1)) = true then 1 else 0) - (if R (e (2 * g)) = true then 1 else 0))) m = 2 * ((if R b = true then 1 else 0) - (if R a = true then 1 else 0)) := h1
  rw [h2, r1, r2] at h1
  exact absurd h1 (by decide)
theorem gs_even {g : Nat → Int} : ∀ k, (∀ i, i < k → ∃ z, g i = 2 * z) → ∃ z, gs g k = 2 * z := by
  intro k
  induction k with
  | zero => intro _; exact ⟨0, rfl⟩
  | succ k ih =>
    intro h
    obtain ⟨z, hz⟩ := ih (fun i hi => h i (by omega))
    obtain ⟨y, hy⟩ := h k (by omega)
    exact ⟨z + y, by show gs g k + g k = _; omega⟩
/-- .. and without one path's fibres there is another -/
theorem g2_rest {T : Int32} {h : Nat → Int} {X : List Nat} (hT : g2 e m a b T h) (hX : gp e m (xb T) a b X) : ∃ Y, gp e m (fun f => xb T f && !decide (f ∈ X)) a b Y := by
  apply Classical.byContradiction
  intro hn
  obtain ⟨R, r1, r2, r3⟩ := g_cut hn
  have h1 := hT.2.2 (fun v => if R v = true then 1 else 0)
  have h2 := g_tel (fun v => if R v = true then 1 else 0) X a b hX.1
  have h3 : ∃ z, gs (fun g => h g * ((if R (e (2 * g + 1)) = true then 1 else 0) - (if R (e (2 * g)) = true then 1 else 0)) - gf e a X g * ((if R (e (2 * g + 1)) = true then 1 else 0) - (if R (e (2 * g)) = true then 1 else 0))) m = 2 * z := by
    refine gs_even m (fun g hg => ?_)
    by_cases c : g ∈ X
    · have hb := (gw_mem X a b hX.1 g c).2
      have q1 := hT.1 g hg hb
      have q2 := gf_1 (e := e) X a g (gp_nodup X a b hX) c
      rw [← Int.sub_mul]
      generalize (if R (e (2 * g + 1)) = true then (1 : Int) else 0) - (if R (e (2 * g)) = true then 1 else 0) = D
      rcases q1 with q1 | q1 <;> rcases q2 with q2 | q2 <;> rw [q1, q2]
      · exact ⟨0, by omega⟩
      · exact ⟨D, by omega⟩
      · exact ⟨-D, by omega⟩
      · exact ⟨0, by omega⟩
    · rw [gf_0 X a g c]
      cases hb : xb T g with
      | false => rw [hT.2.1 g hg hb]; exact ⟨0, by omega⟩
      | true =>
        rw [r3 g hg (by show (xb T g && !decide (g ∈ X)) = true; rw [hb, decide_eq_false c]; rfl)]
        refine ⟨0, ?_⟩
        rw [Int.sub_self, Int.mul_zero, Int.zero_mul]
        rfl
  obtain ⟨z, hz⟩ := h3
  rw [gs_sub] at hz
  have h1 : gs (fun g => h g * ((if R (e (2 * g + 1)) = true then 1 else 0) - (if R (e (2 * g)) = true then 1 else 0))) m = 2 * ((if R b = true then 1 else 0) - (if R a = true then 1 else 0)) := h1
  have h2 : gs (fun g => gf e a X g * ((if R (e (2 * g + 1)) = true then 1 else 0) - (if R (e (2 * g)) = true then 1 else 0))) m = (if R b = true then 1 else 0) - (if R a = true then 1 else 0) := h2
  rw [h1, h2, r1, r2] at hz
  simp only [if_true, Bool.false_eq_true, if_false] at hz
  omega
/-- the sum of two sets without a common fibre -/
theorem gW_or {X Y : List Nat} (hX : ∀ f, f ∈ X → f < 32) (hY : ∀ f, f ∈ Y → f < 32) (hm : m ≤ 14) (hd : ∀ f, f ∈ X → ¬ f ∈ Y) : gW l m (gm X ||| gm Y) = gW l m (gm X) + gW l m (gm Y) := by
  unfold gW gS
  rw [← gs_add]
  refine gs_congr m (fun f hf => ?_)
  rw [xb_or _ _ (by omega), gm_b hX (by omega), gm_b hY (by omega)]
  by_cases c1 : f ∈ X
  · rw [decide_eq_true c1, decide_eq_false (hd f c1)]
    simp
  · rw [decide_eq_false c1]
    simp
end GP
end
section
/-! 55.pair: the best pair. Pure. -/
section GQ
variable {e l : Nat → Nat} {m n a b : Nat} {on bk co wy : Nat → Int32} {s : Int32}
theorem xfst_uniq {p : Nat → Bool} {f : Nat} (hp : p f = true) : ∀ k i, i ≤ f → f < i + k → (∀ g, i ≤ g → g < i + k → ¬ g = f → p g = false) → xfst p k i = some f := by
  intro k
  induction k with
  | zero => intro i h1 h2; omega
  | succ k ih =>
    intro i h1 h2 h3
    unfold xfst
    by_cases c : i = f
    · subst c
      rw [if_pos hp]
    · rw [if_neg (by rw [h3 i (by omega) (by omega) c]; decide)]
      exact ih (i + 1) (by omega) (by omega) (fun g q1 q2 q3 => h3 g (by omega) (by omega) q3)
abbrev gfr (e : Nat → Nat) : Nat → Int32 := fun f => nI (e (2 * f))
abbrev gto (e : Nat → Nat) : Nat → Int32 := fun f => nI (e (2 * f + 1))
theorem gm_tail {f : Nat} {p : List Nat} (hp : ∀ g, g ∈ f :: p → g < 32) (hf : ¬ f ∈ p) : gm (f :: p) ^^^ xbt f = gm p := by
  refine xb_ext (fun g hg => ?_)
  have hf32 := hp f List.mem_cons_self
  rw [xb_xor _ _ hg, gm_b hp hg, gm_b (fun g hg => hp g (List.mem_cons_of_mem _ hg)) hg, xb_bt hg hf32]
  by_cases c : g = f
  · subst c
    rw [decide_eq_true List.mem_cons_self, decide_eq_true rfl, decide_eq_false hf]
    rfl
  · rw [decide_eq_false c]
    by_cases c2 : g ∈ p
    · rw [decide_eq_true (List.mem_cons_of_mem _ c2), decide_eq_true c2]
      rfl
    · rw [decide_eq_false (fun q => by rcases List.mem_cons.mp q with q | q; exact c q; exact c2 q), decide_eq_false c2]
      rfl
/-- the fibre of a path that ends at its first site: its first one -/
theorem g_touch (G : gG e l m n) {f u v : Nat} {p : List Nat} {t : Nat → Bool} (hu : u < n) (h : gp e m t u v (f :: p)) : xfst (xtch (gfr e) (gto e) (gm (f :: p)) (nI u)) m 0 = some f := by
  have hm := G.1
  have hn := G.2.1
  have h32 := gp_32 G h.1
  have hnd : (u :: gv e (xoth e f u) p).Nodup := h.2
  rw [List.nodup_cons] at hnd
  have eq : ∀ j, e j < n → (nI (e j) = nI u ↔ e j = u) := fun j hj => nI_eq (by omega) (by omega)
  refine xfst_uniq ?_ m 0 (by omega) (by have := h.1.1; omega) (fun g _ hg hne => ?_)
  · unfold xtch
    rw [gm_b h32 (h32 f List.mem_cons_self), decide_eq_true List.mem_cons_self, Bool.true_and, Bool.or_eq_true, decide_eq_true_iff, decide_eq_true_iff]
    rcases h.1.2.2.1 with q | q
    · exact Or.inl (by show nI (e (2 * f)) = nI u; rw [q])
    · exact Or.inr (by show nI (e (2 * f + 1)) = nI u; rw [q])
  · unfold xtch
    rw [gm_b h32 (by omega)]
    by_cases c : g ∈ p
    · have hgm := G.2.2 g (by omega)
      have no : ∀ x, (x = e (2 * g) ∨ x = e (2 * g + 1)) → ¬ x = u := fun x hx q => hnd.1 (q ▸ gv_ends p _ v h.1.2.2.2 g c x hx)
      rw [decide_eq_false (show ¬ gfr e g = nI u from fun q => no _ (Or.inl rfl) ((eq (2 * g) hgm.1).mp q)), decide_eq_false (show ¬ gto e g = nI u from fun q => no _ (Or.inr rfl) ((eq (2 * g + 1) hgm.2.1).mp q))]
      simp
    · rw [decide_eq_false (fun q => by rcases List.mem_cons.mp q with q | q; exact hne q; exact c q)]
      rfl
theorem g_oth (G : gG e l m n) {f u : Nat} (hf : f < m) (hu : u < n) : (if gfr e f = nI u then gto e f else gfr e f) = nI (xoth e f u) := by
  have hn := G.2.1
  have := (G.2.2 f hf).1
  have eq : nI (e (2 * f)) = nI u ↔ e (2 * f) = u := nI_eq (by omega) (by omega)
  unfold xoth
  by_cases c : e (2 * f) = u
  · rw [if_pos (show gfr e f = nI u from eq.mpr c), if_pos c]
  · rw [if_neg (show ¬ gfr e f = nI u from fun q => c (eq.mp q)), if_neg c]
theorem g_xlt (G : gG e l m n) {f u : Nat} (hf : f < m) : xoth e f u < n := by
  unfold xoth
  by_cases c : e (2 * f) = u
  · rw [if_pos c]; exact (G.2.2 f hf).2.1
  · rw [if_neg c]; exact (G.2.2 f hf).1
/-- the first path turned round -/
theorem g_obo (G : gG e l m n) {t : Nat → Bool} : ∀ p u v k on bk, u < n → gp e m t u v p → p.length ≤ k →
    (∀ f, ¬ f ∈ p → (xobo (gfr e) (gto e) (gln l) m k (gm p) (nI u) on bk).1 f = on f ∧ (xobo (gfr e) (gto e) (gln l) m k (gm p) (nI u) on bk).2 f = bk f) ∧
    (∀ f, f ∈ p → (gf e u p f = 1 → (xobo (gfr e) (gto e) (gln l) m k (gm p) (nI u) on bk).1 f = 2147483647 ∧ (xobo (gfr e) (gto e) (gln l) m k (gm p) (nI u) on bk).2 f = -(xwt (gln l) f)) ∧
      (gf e u p f = -1 → (xobo (gfr e) (gto e) (gln l) m k (gm p) (nI u) on bk).1 f = -(xwt (gln l) f) ∧ (xobo (gfr e) (gto e) (gln l) m k (gm p) (nI u) on bk).2 f = 2147483647)) := by
  intro p
  induction p with
  | nil =>
    intro u v k on bk hu h hl
    have e0 : xobo (gfr e) (gto e) (gln l) m k (gm []) (nI u) on bk = (on, bk) := by
      cases k with
      | zero => rfl
      | succ k =>
        unfold xobo
        have : xfst (xtch (gfr e) (gto e) (gm []) (nI u)) m 0 = none := by
          cases hx : xfst (xtch (gfr e) (gto e) (gm []) (nI u)) m 0 with
          | none => rfl
          | some f =>
            have := (xfst_spec _ _ _ hx).2.2.1
            unfold xtch at this
            rw [show gm [] = 0 from rfl, xb_0] at this
            cases this
        rw [this]
    rw [e0]
    exact ⟨fun f _ => ⟨rfl, rfl⟩, fun f hf => by cases hf⟩
  | cons f p ih =>
    intro u v k on bk hu h hl
    cases k with
    | zero => cases hl
    | succ k =>
      have hnd := gp_nodup _ _ _ h
      rw [List.nodup_cons] at hnd
      have hnd2 : (u :: gv e (xoth e f u) p).Nodup := h.2
      rw [List.nodup_cons] at hnd2
      have h32 := gp_32 G h.1
      have hfm := h.1.1
      have hn := G.2.1
      have := (G.2.2 f hfm).1
      have eq : (gfr e f = nI u) ↔ e (2 * f) = u := nI_eq (by omega) (by omega)
      have ex : xobo (gfr e) (gto e) (gln l) m (k + 1) (gm (f :: p)) (nI u) on bk = xobo (gfr e) (gto e) (gln l) m k (gm p) (nI (xoth e f u)) (upd on f (if gfr e f = nI u then 2147483647 else -(xwt (gln l) f))) (upd bk f (if gfr e f = nI u then -(xwt (gln l) f) else 2147483647)) := by
        show (match xfst (xtch (gfr e) (gto e) (gm (f :: p)) (nI u)) m 0 with
          | none => (on, bk)
          | some f => xobo (gfr e) (gto e) (gln l) m k (gm _ ^^^ xbt f) (if gfr e f = nI u then gto e f else gfr e f) (upd on f (if gfr e f = nI u then 2147483647 else -(xwt (gln l) f))) (upd bk f (if gfr e f = nI u then -(xwt (gln l) f) else 2147483647))) = _
        rw [g_touch G hu h]
        simp only
        rw [gm_tail h32 hnd.1, g_oth G hfm hu]
      rw [ex]
      obtain ⟨i1, i2⟩ := ih (xoth e f u) v k (upd on f (if gfr e f = nI u then 2147483647 else -(xwt (gln l) f))) (upd bk f (if gfr e f = nI u then -(xwt (gln l) f) else 2147483647)) (g_xlt G hfm) ⟨h.1.2.2.2, hnd2.2⟩ (by simp at hl; omega)
      have gff : gf e u (f :: p) f = if e (2 * f) = u then 1 else -1 := by
        show _ * g1 f f + gf e (xoth e f u) p f = _
        rw [gf_0 p _ f hnd.1]
        unfold g1
        rw [if_pos rfl]
        omega
      have gfn : ∀ g, ¬ g = f → gf e u (f :: p) g = gf e (xoth e f u) p g := by
        intro g hg
        show _ * g1 f g + gf e (xoth e f u) p g = _
        unfold g1
        rw [if_neg hg]
        omega
      refine ⟨fun g hg => ?_, fun g hg => ?_⟩
      · obtain ⟨j1, j2⟩ := i1 g (fun q => hg (List.mem_cons_of_mem _ q))
        have hgf : ¬ g = f := fun q => hg (q ▸ List.mem_cons_self)
        exact ⟨j1.trans (if_neg hgf), j2.trans (if_neg hgf)⟩
      · by_cases c : g = f
        · subst c
          obtain ⟨j1, j2⟩ := i1 g hnd.1
          rw [j1, j2, gff]
          have us : ∀ (on : Nat → Int32) x, upd on g x g = x := fun _ _ => if_pos rfl
          rw [us, us]
          by_cases c2 : e (2 * g) = u
          · rw [if_pos c2, if_pos (eq.mpr c2), if_pos (eq.mpr c2)]
            exact ⟨fun _ => ⟨rfl, rfl⟩, fun q => absurd q (by decide)⟩
          · rw [if_neg c2, if_neg (fun q => c2 (eq.mp q)), if_neg (fun q => c2 (eq.mp q))]
            exact ⟨fun q => absurd q (by decide), fun _ => ⟨rfl, rfl⟩⟩
        · rw [gfn g c]
          exact i2 g (by rcases List.mem_cons.mp hg with q | q; exact absurd q c; exact q)
theorem gs_all0 {g : Nat → Int} (k : Nat) (h : ∀ i, i < k → 0 ≤ g i) (h0 : gs g k = 0) : ∀ i, i < k → g i = 0 := by
  intro i hi
  have h1 := h i hi
  apply Classical.byContradiction
  intro q
  have := gs_pos k h i hi (by omega)
  omega
theorem gs_ne {g : Nat → Int} {k : Nat} (h : ¬ gs g k = 0) : ∃ i, i < k ∧ ¬ g i = 0 := by
  apply Classical.byContradiction
  intro q
  have : gs g k = gs (fun _ => 0) k := gs_congr k (fun i hi => by
    apply Classical.byContradiction
    intro z
    exact q ⟨i, hi, z⟩)
  rw [gs_zero] at this
  exact h this
theorem gs_two {g : Nat → Int} : ∀ k, (∀ i, i < k → g i ≤ 0) → ∀ x y, x < k → y < k → ¬ x = y → g x ≤ -1 → g y ≤ -1 → gs g k ≤ -2 := by
  intro k h x y hx hy hxy gx gy
  have h1 : 0 ≤ gs (fun i => -(g i) - g1 x i - g1 y i) k := gs_nonneg k (fun i hi => by
    have := h i hi
    unfold g1
    by_cases c1 : i = x
    · subst c1
      rw [if_pos rfl, if_neg hxy]
      omega
    · by_cases c2 : i = y
      · subst c2
        rw [if_pos rfl, if_neg c1]
        omega
      · rw [if_neg c1, if_neg c2]
        omega)
  rw [gs_sub, gs_sub] at h1
  have h2 : gs (fun i => -(g i)) k = -(gs g k) := by
    have := gs_mul (-1) g k
    have e : gs (fun i => -(g i)) k = gs (fun i => -1 * g i) k := gs_congr k (fun i _ => by omega)
    rw [e, this]
    omega
  have h3 : ∀ z, z < k → gs (fun i => g1 z i) k = 1 := fun z hz => by
    have e : gs (fun i => g1 z i) k = gs (fun i => 1 * g1 z i) k := gs_congr k (fun i _ => by omega)
    rw [e, gs_pick (fun _ => 1) z k, if_pos hz]
  have e1 : gs (g1 x) k = 1 := h3 x hx
  have e2 : gs (g1 y) k = 1 := h3 y hy
  rw [h2, e1, e2] at h1
  omega
/-- two paths without a common fibre -/
def gpp (e : Nat → Nat) (m : Nat) (t : Nat → Bool) (a b : Nat) (X Y : List Nat) : Prop := gp e m t a b X ∧ gp e m t a b Y ∧ ∀ f, f ∈ X → ¬ f ∈ Y
/-- everything that reaches back from b along a path is reached -/
theorem g_fin {t : Nat → Bool} {D : Nat → Int} {A : Nat → Prop} {b : Nat} (hne : ∀ f, f < m → ¬ e (2 * f) = e (2 * f + 1)) (hA : ∀ f, f < m → (D f = 1 → A (e (2 * f + 1)) → A (e (2 * f))) ∧ (D f = -1 → A (e (2 * f)) → A (e (2 * f + 1)))) (hb : A b) : ∀ q u, gw e m t u q b → q.Nodup → (∀ f, f ∈ q → gf e u q f = D f) → ∀ x, x ∈ gv e u q → A x := by
  intro q
  induction q with
  | nil => intro u h _ _ x hx; rw [List.mem_singleton.mp hx, show u = b from h]; exact hb
  | cons f q ih =>
    intro u h hn hD x hx
    rw [List.nodup_cons] at hn
    have hq := ih (xoth e f u) h.2.2.2 hn.2 (fun g hg => by
      rw [← hD g (List.mem_cons_of_mem _ hg)]
      show _ = _ * g1 f g + gf e (xoth e f u) q g
      have : ¬ g = f := fun z => hn.1 (z ▸ hg)
      unfold g1
      rw [if_neg this]
      omega)
    rcases List.mem_cons.mp hx with rfl | hx
    · have hd := hD f List.mem_cons_self
      have hd : (if e (2 * f) = x then 1 else -1) * g1 f f + gf e (xoth e f x) q f = D f := hd
      rw [gf_0 q _ f hn.1] at hd
      unfold g1 at hd
      rw [if_pos rfl] at hd
      have hh := hq _ (gv_hd (e := e) (xoth e f x) q)
      by_cases c : e (2 * f) = x
      · rw [if_pos c] at hd
        unfold xoth at hh
        rw [if_pos c] at hh
        rw [← c]
        exact (hA f h.1).1 (by omega) hh
      · rw [if_neg c] at hd
        unfold xoth at hh
        rw [if_neg c] at hh
        rcases h.2.2.1 with z | z
        · exact absurd z c
        · rw [← z]
          exact (hA f h.1).2 (by omega) hh
    · exact hq x hx
end GQ
end
section
/-! 56.pair2: the best pair is the best. Pure. -/
section GX
variable {e l : Nat → Nat} {m n a b : Nat} {on bk co wy : Nat → Int32} {s : Int32}
theorem xwt_neg (G : gG e l m n) {f : Nat} (hf : f < m) : (-(xwt (gln l) f)).toInt = -(gwt l f) ∧ ¬ -(xwt (gln l) f) = 2147483647 := by
  have h1 := xwt_I (l := l) (f := f) (by have := G.1; omega) (G.2.2 f hf).2.2.2.1 (G.2.2 f hf).2.2.2.2
  have h2 := gwt_le (l := l) (f := f) (G.2.2 f hf).2.2.2.2
  have h3 := gwt_pos (l := l) (f := f) (G.2.2 f hf).2.2.2.1
  have h4 : (-(xwt (gln l) f)).toInt = -(gwt l f) := by
    rw [Int32.toInt_neg, h1, Int.bmod_eq_of_le (by omega) (by omega)]
  refine ⟨h4, fun q => ?_⟩
  rw [q, show (2147483647 : Int32).toInt = 2147483647 from by decide] at h4
  omega
/-- what the second search starts from -/
def gP2 (e l : Nat → Nat) (m : Nat) (on bk : Nat → Int32) (s : Int32) (a : Nat) (p : List Nat) : Nat → Nat → Int32 :=
  gPr e (xobo (gfr e) (gto e) (gln l) m 7 (gm p) (nI a) (xopn (xpr s (gln l)) on m) (xopn (xpr s (gln l)) bk m)).1 (xobo (gfr e) (gto e) (gln l) m 7 (gm p) (nI a) (xopn (xpr s (gln l)) on m) (xopn (xpr s (gln l)) bk m)).2
theorem gP2_out (G : gG e l m n) (ha : a < n) {p : List Nat} {t : Nat → Bool} (hp : gp e m t a b p) {f u : Nat} (hf : ¬ f ∈ p) : gP2 e l m on bk s a p f u = gP1 e l m on bk s f u := by
  have hl := gp_len (fun f hf => ⟨(G.2.2 f hf).1, (G.2.2 f hf).2.1⟩) hp.1 hp.2 ha
  obtain ⟨h1, h2⟩ := g_obo G p a b 7 (xopn (xpr s (gln l)) on m) (xopn (xpr s (gln l)) bk m) ha hp (by have := G.2.1; omega)
  unfold gP2 gP1 gPr
  rw [(h1 f hf).1, (h1 f hf).2]
theorem gP2_in (G : gG e l m n) (ha : a < n) {p : List Nat} {t : Nat → Bool} (hp : gp e m t a b p) {f : Nat} (hf : f ∈ p) :
    (gf e a p f = 1 ∧ (∀ u, gP2 e l m on bk s a p f u = if e (2 * f) = u then 2147483647 else -(xwt (gln l) f))) ∨ (gf e a p f = -1 ∧ (∀ u, gP2 e l m on bk s a p f u = if e (2 * f) = u then -(xwt (gln l) f) else 2147483647)) := by
  have hl := gp_len (fun f hf => ⟨(G.2.2 f hf).1, (G.2.2 f hf).2.1⟩) hp.1 hp.2 ha
  obtain ⟨h1, h2⟩ := g_obo G p a b 7 (xopn (xpr s (gln l)) on m) (xopn (xpr s (gln l)) bk m) ha hp (by have := G.2.1; omega)
  rcases gf_1 (e := e) p a f (gp_nodup p a b hp) hf with q | q
  · left
    refine ⟨q, fun u => ?_⟩
    unfold gP2 gPr
    rw [((h2 f hf).1 q).1, ((h2 f hf).1 q).2]
  · right
    refine ⟨q, fun u => ?_⟩
    unfold gP2 gPr
    rw [((h2 f hf).2 q).1, ((h2 f hf).2 q).2]
/-- open arcs of the second search: what they cost, and which way they go -/
theorem gP2_open (G : gG e l m n) (ha : a < n) {p : List Nat} (hp : gp e m (xb s) a b p) {f u : Nat} (hf : f < m) (ho : ¬ gP2 e l m on bk s a p f u = 2147483647) :
    xb s f = true ∧ (gP2 e l m on bk s a p f u).toInt = (if f ∈ p then -(gwt l f) else gwt l f) ∧ (f ∈ p → (e (2 * f) = u ∨ e (2 * f + 1) = u) → (if e (2 * f) = u then 1 else -1) = -(gf e a p f)) := by
  by_cases c : f ∈ p
  · rw [if_pos c]
    refine ⟨(gw_mem p a b hp.1 f c).2, ?_⟩
    rcases gP2_in (l := l) (on := on) (bk := bk) (s := s) G ha hp c with ⟨q1, q2⟩ | ⟨q1, q2⟩
    · rw [q2 u] at ho ⊢
      by_cases c2 : e (2 * f) = u
      · rw [if_pos c2] at ho
        exact absurd rfl ho
      · rw [if_neg c2, if_neg c2, q1]
        exact ⟨(xwt_neg G hf).1, fun _ _ => rfl⟩
    · rw [q2 u] at ho ⊢
      by_cases c2 : e (2 * f) = u
      · rw [if_pos c2, if_pos c2, q1]
        exact ⟨(xwt_neg G hf).1, fun _ _ => rfl⟩
      · rw [if_neg c2] at ho
        exact absurd rfl ho
  · rw [if_neg c]
    rw [gP2_out G ha hp c] at ho ⊢
    exact ⟨(gP1_open G hf).1.mp ho, (gP1_open G hf).2 ho, fun q => absurd q c⟩
theorem gP2_back (G : gG e l m n) (ha : a < n) {p : List Nat} (hp : gp e m (xb s) a b p) {f : Nat} (hf : f ∈ p) :
    (gf e a p f = 1 → ¬ gP2 e l m on bk s a p f (e (2 * f + 1)) = 2147483647) ∧ (gf e a p f = -1 → ¬ gP2 e l m on bk s a p f (e (2 * f)) = 2147483647) := by
  have hfm := (gw_mem p a b hp.1 f hf).1
  have hne := (G.2.2 f hfm).2.2.1
  rcases gP2_in (l := l) (on := on) (bk := bk) (s := s) G ha hp hf with ⟨q1, q2⟩ | ⟨q1, q2⟩
  · refine ⟨fun _ => ?_, fun q => by rw [q1] at q; exact absurd q (by decide)⟩
    rw [q2, if_neg hne]
    exact (xwt_neg G hfm).2
  · refine ⟨fun q => by rw [q1] at q; exact absurd q (by decide), fun _ => ?_⟩
    rw [q2, if_pos rfl]
    exact (xwt_neg G hfm).2
/-- along a cheapest path every arc is tight -/
theorem g_tight (G : gG e l m n) {D : Nat → Int} (hD : ∀ f u, f < m → (e (2 * f) = u ∨ e (2 * f + 1) = u) → xb s f = true → D (xoth e f u) ≤ D u + gwt l f) {p : List Nat} (hp : gp e m (xb s) a b p) (ha0 : D a ≤ 0) (hb0 : D b = gW l m (gm p)) {f : Nat} (hf : f ∈ p) : gf e a p f * (D (e (2 * f + 1)) - D (e (2 * f))) = gwt l f := by
  have hm := G.1
  have h1 := g_tel D p a b hp.1
  have h2 := gm_S (m := m) (gwt l) (gp_32 G hp.1) (by omega)
  have nn : ∀ g, g < m → 0 ≤ (if g ∈ p then gwt l g else 0) - gf e a p g * (D (e (2 * g + 1)) - D (e (2 * g))) := by
    intro g hg
    by_cases c : g ∈ p
    · rw [if_pos c]
      have hs := (gw_mem p a b hp.1 g c).2
      have hne := (G.2.2 g hg).2.2.1
      have u1 := hD g (e (2 * g)) hg (Or.inl rfl) hs
      have u2 := hD g (e (2 * g + 1)) hg (Or.inr rfl) hs
      unfold xoth at u1 u2
      rw [if_pos rfl] at u1
      rw [if_neg hne] at u2
      rcases gf_1 (e := e) p a g (gp_nodup p a b hp) c with q | q <;> rw [q] <;> omega
    · rw [if_neg c, gf_0 p a g c]
      omega
  have s0 : gs (fun g => (if g ∈ p then gwt l g else 0) - gf e a p g * (D (e (2 * g + 1)) - D (e (2 * g)))) m = gW l m (gm p) - (D b - D a) := by
    rw [gs_sub, h1, ← h2]
  have s1 := gs_nonneg m nn
  have := gs_all0 m nn (by omega) f (gw_mem p a b hp.1 f hf).1
  rw [if_pos hf] at this
  omega
theorem gH2 (G : gG e l m n) (ha : a < n) {p : List Nat} (hp : gp e m (xb s) a b p) {D : Nat → Int} (hD : ∀ f u, f < m → (e (2 * f) = u ∨ e (2 * f + 1) = u) → xb s f = true → D (xoth e f u) ≤ D u + gwt l f) (ha0 : D a ≤ 0) (hb0 : D b = gW l m (gm p)) : gH e m n (gP2 e l m on bk s a p) a := by
  refine ⟨G.1, G.2.1, ha, fun f hf => ⟨(G.2.2 f hf).1, (G.2.2 f hf).2.1, (G.2.2 f hf).2.2.1⟩, fun f u hf ho => ?_, D, fun f u hf hu ho => ?_⟩
  · have h1 := gwt_le (l := l) (f := f) (G.2.2 f hf).2.2.2.2
    have h2 := gwt_pos (l := l) (f := f) (G.2.2 f hf).2.2.2.1
    rw [(gP2_open G ha hp hf ho).2.1]
    by_cases c : f ∈ p
    · rw [if_pos c]; omega
    · rw [if_neg c]; omega
  · obtain ⟨o1, o2, o3⟩ := gP2_open G ha hp hf ho
    rw [o2]
    by_cases c : f ∈ p
    · rw [if_pos c]
      have t := g_tight G hD hp ha0 hb0 c
      have o3 := o3 c hu
      unfold xoth
      by_cases c2 : e (2 * f) = u
      · rw [if_pos c2] at o3 ⊢
        rw [show gf e a p f = -1 by omega] at t
        rw [c2] at t
        omega
      · rw [if_neg c2] at o3 ⊢
        rw [show gf e a p f = 1 by omega] at t
        rcases hu with z | z
        · exact absurd z c2
        · rw [z] at t
          omega
    · rw [if_neg c]
      exact hD f u hf hu o1
/-- where the second search does not reach b, no two paths go without a common fibre -/
theorem g_nopair (G : gG e l m n) (ha : a < n) {p : List Nat} (hp : gp e m (xb s) a b p) {R : Nat → Bool} (r1 : R a = true) (r2 : R b = false) (r3 : ∀ f u, f < m → (e (2 * f) = u ∨ e (2 * f + 1) = u) → ¬ gP2 e l m on bk s a p f u = 2147483647 → R u = true → R (xoth e f u) = true) : ¬ ∃ X Y, gpp e m (xb s) a b X Y := by
  rintro ⟨X, Y, hX, hY, hd⟩
  -- the steps of R
  have dz : ∀ f, f < m → xb s f = true → ¬ f ∈ p → R (e (2 * f)) = R (e (2 * f + 1)) := by
    intro f hf hs hc
    have hne := (G.2.2 f hf).2.2.1
    have o : ∀ u, ¬ gP2 e l m on bk s a p f u = 2147483647 := fun u => by rw [gP2_out G ha hp hc]; exact (gP1_open G hf).1.mpr hs
    have u1 := r3 f (e (2 * f)) hf (Or.inl rfl) (o _)
    have u2 := r3 f (e (2 * f + 1)) hf (Or.inr rfl) (o _)
    unfold xoth at u1 u2
    rw [if_pos rfl] at u1
    rw [if_neg hne] at u2
    cases h1 : R (e (2 * f)) with
    | true => rw [u1 h1]
    | false =>
      cases h2 : R (e (2 * f + 1)) with
      | false => rfl
      | true => rw [u2 h2] at h1; cases h1
  have dp : ∀ f, f ∈ p → gf e a p f * ((if R (e (2 * f + 1)) = true then 1 else 0) - (if R (e (2 * f)) = true then 1 else 0)) ≤ 0 ∧ (¬ R (e (2 * f)) = R (e (2 * f + 1)) → gf e a p f * ((if R (e (2 * f + 1)) = true then 1 else 0) - (if R (e (2 * f)) = true then 1 else 0)) ≤ -1) := by
    intro f hf
    have hfm := (gw_mem p a b hp.1 f hf).1
    have hne := (G.2.2 f hfm).2.2.1
    obtain ⟨b1, b2⟩ := gP2_back (l := l) (on := on) (bk := bk) G ha hp hf
    rcases gf_1 (e := e) p a f (gp_nodup p a b hp) hf with q | q
    · have u2 := r3 f (e (2 * f + 1)) hfm (Or.inr rfl) (b1 q)
      unfold xoth at u2
      rw [if_neg hne] at u2
      rw [q]
      cases h1 : R (e (2 * f)) <;> cases h2 : R (e (2 * f + 1))
      · simp
      · rw [u2 h2] at h1; cases h1
      · simp
      · simp
    · have u1 := r3 f (e (2 * f)) hfm (Or.inl rfl) (b2 q)
      unfold xoth at u1
      rw [if_pos rfl] at u1
      rw [q]
      cases h1 : R (e (2 * f)) <;> cases h2 : R (e (2 * f + 1))
      · simp
      · simp
      · rw [u1 h1] at h2; cases h2
      · simp
  have tel : ∀ Z : List Nat, gp e m (xb s) a b Z → gs (fun g => gf e a Z g * ((if R (e (2 * g + 1)) = true then 1 else 0) - (if R (e (2 * g)) = true then 1 else 0))) m = -1 := by
    intro Z hZ
    have := g_tel (fun v => if R v = true then (1 : Int) else 0) Z a b hZ.1
    have this : gs (fun g => gf e a Z g * ((if R (e (2 * g + 1)) = true then 1 else 0) - (if R (e (2 * g)) = true then 1 else 0))) m = (if R b = true then 1 else 0) - (if R a = true then 1 else 0) := this
    rw [this, r1, r2]
    rfl
  have cross : ∀ Z : List Nat, gp e m (xb s) a b Z → ∃ f, f < m ∧ f ∈ Z ∧ f ∈ p ∧ ¬ R (e (2 * f)) = R (e (2 * f + 1)) := by
    intro Z hZ
    obtain ⟨f, hf, hne⟩ := gs_ne (show ¬ gs (fun g => gf e a Z g * ((if R (e (2 * g + 1)) = true then 1 else 0) - (if R (e (2 * g)) = true then 1 else 0))) m = 0 by rw [tel Z hZ]; decide)
    have hfZ : f ∈ Z := by
      apply Classical.byContradiction
      intro q
      rw [gf_0 Z a f q, Int.zero_mul] at hne
      exact hne rfl
    have hR : ¬ R (e (2 * f)) = R (e (2 * f + 1)) := by
      intro q
      rw [q, Int.sub_self, Int.mul_zero] at hne
      exact hne rfl
    refine ⟨f, hf, hfZ, ?_, hR⟩
    apply Classical.byContradiction
    intro q
    exact hR (dz f hf (gw_mem Z a b hZ.1 f hfZ).2 q)
  obtain ⟨f, f1, f2, f3, f4⟩ := cross X hX
  obtain ⟨g, g1', g2', g3', g4'⟩ := cross Y hY
  have hfg : ¬ f = g := fun q => hd f f2 (q ▸ g2')
  have := gs_two m (g := fun g => gf e a p g * ((if R (e (2 * g + 1)) = true then 1 else 0) - (if R (e (2 * g)) = true then 1 else 0))) (fun i hi => by
    by_cases c : i ∈ p
    · exact (dp i c).1
    · show gf e a p i * _ ≤ 0
      rw [gf_0 p a i c]
      omega) f g f1 g1' hfg ((dp f f3).2 f4) ((dp g g3').2 g4')
  rw [tel p hp] at this
  omega
/-- a pair is no cheaper than what the two searches give -/
theorem g_lower (G : gG e l m n) (ha : a < n) (hb : b < n) {p : List Nat} (hp : gp e m (xb s) a b p) (H : gH e m n (gP2 e l m on bk s a p) a) {co2 wy2 : Nat → Int32} (hI : gI e m (gP2 e l m on bk s a p) a co2 wy2) (hf : gfe e m (gP2 e l m on bk s a p) co2) (hc : ¬ co2 b = 2147483647) {X Y : List Nat} (hXY : gpp e m (xb s) a b X Y) : gW l m (gm p) + (co2 b).toInt ≤ gW l m (gm X ||| gm Y) := by
  obtain ⟨hX, hY, hd⟩ := hXY
  have hm := G.1
  have h7 := G.2.1
  have hMX : (2147483647 : Int32).toInt = 2147483647 := by decide
  have lt7 : ∀ f, f < m → e (2 * f) < 7 ∧ e (2 * f + 1) < 7 := fun f hf => by have := G.2.2 f hf; omega
  -- the label of a is 0
  have ca : (co2 a).toInt = 0 := by
    have hca : ¬ co2 a = 2147483647 := fun q => by
      have := hI.2.2
      rw [q, hMX] at this
      omega
    obtain ⟨q, q1, q2, q3, q4, q5, q6⟩ := hI.1 a (by omega) hca
    cases q with
    | nil => exact q4
    | cons f q =>
      exfalso
      have q2 : (a :: gv e (xoth e f a) q).Nodup := q2
      rw [List.nodup_cons] at q2
      exact q2.1 (gv_last q _ a q1.2.2.2)
  -- where a fibre can be gone both ways, its labels differ by its weight at most
  have fr : ∀ f u, f < m → (e (2 * f) = u ∨ e (2 * f + 1) = u) → ¬ gP2 e l m on bk s a p f u = 2147483647 → ¬ co2 u = 2147483647 → ¬ co2 (xoth e f u) = 2147483647 ∧ (co2 (xoth e f u)).toInt ≤ (co2 u).toInt + (gP2 e l m on bk s a p f u).toInt := by
    intro f u h1 h2 h3 h4
    have q1 := hf f u h1 h2 h3 h4
    have q2 := gI_bd H hI (by have := lt7 f h1; rcases h2 with q | q <;> omega) h4
    have q3 := H.2.2.2.2.1 f u h1 h3
    refine ⟨fun q => ?_, q1⟩
    rw [q, hMX] at q1
    omega
  have both : ∀ f, f < m → xb s f = true → ¬ f ∈ p → (co2 (e (2 * f + 1))).toInt - (co2 (e (2 * f))).toInt ≤ gwt l f ∧ -(gwt l f) ≤ (co2 (e (2 * f + 1))).toInt - (co2 (e (2 * f))).toInt := by
    intro f h1 h2 h3
    have hne := (G.2.2 f h1).2.2.1
    have wp := gwt_pos (l := l) (f := f) (G.2.2 f h1).2.2.2.1
    have o : ∀ u, ¬ gP2 e l m on bk s a p f u = 2147483647 := fun u => by rw [gP2_out G ha hp h3]; exact (gP1_open G h1).1.mpr h2
    have ov : ∀ u, (gP2 e l m on bk s a p f u).toInt = gwt l f := fun u => by
      have := (gP2_open G ha hp h1 (o u)).2.1
      rw [if_neg h3] at this
      exact this
    have u1 := fr f (e (2 * f)) h1 (Or.inl rfl) (o _)
    have u2 := fr f (e (2 * f + 1)) h1 (Or.inr rfl) (o _)
    rw [ov] at u1 u2
    unfold xoth at u1 u2
    rw [if_pos rfl] at u1
    rw [if_neg hne] at u2
    by_cases c1 : co2 (e (2 * f)) = 2147483647
    · by_cases c2 : co2 (e (2 * f + 1)) = 2147483647
      · rw [c1, c2]; omega
      · exact absurd c1 (u2 c2).1
    · have w1 := u1 c1
      have w2 := u2 w1.1
      omega
  have fin := g_fin (A := fun v => ¬ co2 v = 2147483647) (D := fun f => if f ∈ p then gf e a p f else 0) (b := b) (m := m) (e := e) (t := xb s) (fun f hf => (G.2.2 f hf).2.2.1) (fun f hfm => by
    by_cases c : f ∈ p
    · have hne := (G.2.2 f hfm).2.2.1
      obtain ⟨b1, b2⟩ := gP2_back (l := l) (on := on) (bk := bk) G ha hp c
      simp only [if_pos c]
      refine ⟨fun q hA => ?_, fun q hA => ?_⟩
      · have := (fr f (e (2 * f + 1)) hfm (Or.inr rfl) (b1 q) hA).1
        unfold xoth at this
        rw [if_neg hne] at this
        exact this
      · have := (fr f (e (2 * f)) hfm (Or.inl rfl) (b2 q) hA).1
        unfold xoth at this
        rw [if_pos rfl] at this
        exact this
    · simp only [if_neg c]
      exact ⟨fun q => absurd q (by decide), fun q => absurd q (by decide)⟩) hc p a hp.1 (gp_nodup p a b hp) (fun f hf => (if_pos hf).symm)
  have back : ∀ f, f ∈ p → gwt l f ≤ gf e a p f * ((co2 (e (2 * f + 1))).toInt - (co2 (e (2 * f))).toInt) := by
    intro f hfp
    have hfm := (gw_mem p a b hp.1 f hfp).1
    have hne := (G.2.2 f hfm).2.2.1
    have f1 := fin (e (2 * f)) (gv_ends p a b hp.1 f hfp _ (Or.inl rfl))
    have f2 := fin (e (2 * f + 1)) (gv_ends p a b hp.1 f hfp _ (Or.inr rfl))
    obtain ⟨b1, b2⟩ := gP2_back (l := l) (on := on) (bk := bk) G ha hp hfp
    rcases gf_1 (e := e) p a f (gp_nodup p a b hp) hfp with q | q
    · have w := (fr f (e (2 * f + 1)) hfm (Or.inr rfl) (b1 q) f2).2
      rw [(gP2_open G ha hp hfm (b1 q)).2.1, if_pos hfp] at w
      unfold xoth at w
      rw [if_neg hne] at w
      rw [q]
      omega
    · have w := (fr f (e (2 * f)) hfm (Or.inl rfl) (b2 q) f1).2
      rw [(gP2_open G ha hp hfm (b2 q)).2.1, if_pos hfp] at w
      unfold xoth at w
      rw [if_pos rfl] at w
      rw [q]
      omega
  -- the sums
  have t1 := g_tel (fun v => (co2 v).toInt) p a b hp.1
  have t2 := g_tel (fun v => (co2 v).toInt) X a b hX.1
  have t3 := g_tel (fun v => (co2 v).toInt) Y a b hY.1
  have t1 : gs (fun g => gf e a p g * ((co2 (e (2 * g + 1))).toInt - (co2 (e (2 * g))).toInt)) m = (co2 b).toInt - (co2 a).toInt := t1
  have t2 : gs (fun g => gf e a X g * ((co2 (e (2 * g + 1))).toInt - (co2 (e (2 * g))).toInt)) m = (co2 b).toInt - (co2 a).toInt := t2
  have t3 : gs (fun g => gf e a Y g * ((co2 (e (2 * g + 1))).toInt - (co2 (e (2 * g))).toInt)) m = (co2 b).toInt - (co2 a).toInt := t3
  have wp : gW l m (gm p) = gs (fun f => if f ∈ p then gwt l f else 0) m := gm_S (m := m) (gwt l) (gp_32 G hp.1) (by omega)
  have wx : gW l m (gm X) = gs (fun f => if f ∈ X then gwt l f else 0) m := gm_S (m := m) (gwt l) (gp_32 G hX.1) (by omega)
  have wy : gW l m (gm Y) = gs (fun f => if f ∈ Y then gwt l f else 0) m := gm_S (m := m) (gwt l) (gp_32 G hY.1) (by omega)
  have wor := gW_or (l := l) (gp_32 G hX.1) (gp_32 G hY.1) hm hd
  have main : gs (fun g => (if g ∈ p then gwt l g else 0) - gf e a p g * ((co2 (e (2 * g + 1))).toInt - (co2 (e (2 * g))).toInt)) m ≤
      gs (fun g => ((if g ∈ X then gwt l g else 0) + (if g ∈ Y then gwt l g else 0)) - (gf e a X g * ((co2 (e (2 * g + 1))).toInt - (co2 (e (2 * g))).toInt) + gf e a Y g * ((co2 (e (2 * g + 1))).toInt - (co2 (e (2 * g))).toInt))) m := by
    refine gs_le m (fun g hg => ?_)
    have wpos := gwt_pos (l := l) (f := g) (G.2.2 g hg).2.2.2.1
    -- one of the two at most
    have one : ∀ Z : List Nat, gp e m (xb s) a b Z → g ∈ Z → (if g ∈ p then gwt l g else 0) - gf e a p g * ((co2 (e (2 * g + 1))).toInt - (co2 (e (2 * g))).toInt) ≤ gwt l g - gf e a Z g * ((co2 (e (2 * g + 1))).toInt - (co2 (e (2 * g))).toInt) := by
      intro Z hZ hgZ
      have hs := (gw_mem Z a b hZ.1 g hgZ).2
      by_cases c : g ∈ p
      · rw [if_pos c]
        have bk := back g c
        rcases gf_1 (e := e) p a g (gp_nodup p a b hp) c with q1 | q1 <;> rcases gf_1 (e := e) Z a g (gp_nodup Z a b hZ) hgZ with q2 | q2 <;> rw [q1] at bk ⊢ <;> rw [q2] <;> omega
      · rw [if_neg c, gf_0 p a g c]
        have bo := both g hg hs c
        rcases gf_1 (e := e) Z a g (gp_nodup Z a b hZ) hgZ with q2 | q2 <;> rw [q2] <;> omega
    by_cases cX : g ∈ X
    · have cY := hd g cX
      rw [if_pos cX, if_neg cY, gf_0 Y a g cY]
      have := one X hX cX
      omega
    · rw [if_neg cX, gf_0 X a g cX]
      by_cases cY : g ∈ Y
      · rw [if_pos cY]
        have := one Y hY cY
        omega
      · rw [if_neg cY, gf_0 Y a g cY]
        by_cases c : g ∈ p
        · rw [if_pos c]
          have := back g c
          omega
        · rw [if_neg c, gf_0 p a g c]
          omega
  rw [gs_sub, gs_sub, gs_add, gs_add, t1, t2, t3] at main
  rw [wor]
  omega
end GX
end
