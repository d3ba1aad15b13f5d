section
-- ===== PART A: goes FIRST, ahead of the names: the tables' words, and 'selects' of the private methods out of them =====
/-- a private method of a class that the tables say can be made, by its rows of tables_1 -/
def lw_okq (q : MethodName × Nat) : Prop := (q.1.cls ≠ "java/lang/invoke/MethodHandle" ∧ q.1.cls ≠ "java/lang/invoke/VarHandle") ∧ Cond.instantiable q.1.cls q.2 ∈ tables_1 ∧ Cond.privateMethod q.1 ∈ tables_1 ∧ Cond.instanceMethod q.1 ∈ tables_1
theorem lw_p0 : lw_okq (⟨"LastScale$Book", "beginWith", "(I)V"⟩, 9) := ⟨⟨by decide +kernel, by decide +kernel⟩, List.mem_of_getElem? (i := 38) (by decide +kernel), List.mem_of_getElem? (i := 46) (by decide +kernel), List.mem_of_getElem? (i := 47) (by decide +kernel)⟩
theorem lw_p1 : lw_okq (⟨"LastScale$Pad", "put", "(I)V"⟩, 2) := ⟨⟨by decide +kernel, by decide +kernel⟩, List.mem_of_getElem? (i := 22) (by decide +kernel), List.mem_of_getElem? (i := 213) (by decide +kernel), List.mem_of_getElem? (i := 214) (by decide +kernel)⟩
theorem lw_p2 : lw_okq (⟨"LastScale$Pad", "clear", "()V"⟩, 2) := ⟨⟨by decide +kernel, by decide +kernel⟩, List.mem_of_getElem? (i := 22) (by decide +kernel), List.mem_of_getElem? (i := 221) (by decide +kernel), List.mem_of_getElem? (i := 222) (by decide +kernel)⟩
theorem lw_p3 : lw_okq (⟨"LastScale$Pad", "firstFault", "(I)I"⟩, 2) := ⟨⟨by decide +kernel, by decide +kernel⟩, List.mem_of_getElem? (i := 22) (by decide +kernel), List.mem_of_getElem? (i := 229) (by decide +kernel), List.mem_of_getElem? (i := 230) (by decide +kernel)⟩
theorem lw_p4 : lw_okq (⟨"LastScale$Pad", "mayStand", "(II)Z"⟩, 2) := ⟨⟨by decide +kernel, by decide +kernel⟩, List.mem_of_getElem? (i := 22) (by decide +kernel), List.mem_of_getElem? (i := 233) (by decide +kernel), List.mem_of_getElem? (i := 234) (by decide +kernel)⟩
theorem lw_p5 : lw_okq (⟨"LastScale$Book", "write", "(LLastScale$Pad;)V"⟩, 9) := ⟨⟨by decide +kernel, by decide +kernel⟩, List.mem_of_getElem? (i := 38) (by decide +kernel), List.mem_of_getElem? (i := 241) (by decide +kernel), List.mem_of_getElem? (i := 242) (by decide +kernel)⟩
theorem lw_p6 : lw_okq (⟨"LastScale$Pad", "sackAt", "(I)I"⟩, 2) := ⟨⟨by decide +kernel, by decide +kernel⟩, List.mem_of_getElem? (i := 22) (by decide +kernel), List.mem_of_getElem? (i := 245) (by decide +kernel), List.mem_of_getElem? (i := 246) (by decide +kernel)⟩
theorem lw_p7 : lw_okq (⟨"LastScale$Pad", "howAt", "(I)I"⟩, 2) := ⟨⟨by decide +kernel, by decide +kernel⟩, List.mem_of_getElem? (i := 22) (by decide +kernel), List.mem_of_getElem? (i := 249) (by decide +kernel), List.mem_of_getElem? (i := 250) (by decide +kernel)⟩
theorem lw_p8 : lw_okq (⟨"LastScale$Book", "addSaying", "(III)V"⟩, 9) := ⟨⟨by decide +kernel, by decide +kernel⟩, List.mem_of_getElem? (i := 38) (by decide +kernel), List.mem_of_getElem? (i := 253) (by decide +kernel), List.mem_of_getElem? (i := 254) (by decide +kernel)⟩
theorem lw_p9 : lw_okq (⟨"LastScale$Book", "has", "(I)Z"⟩, 9) := ⟨⟨by decide +kernel, by decide +kernel⟩, List.mem_of_getElem? (i := 38) (by decide +kernel), List.mem_of_getElem? (i := 269) (by decide +kernel), List.mem_of_getElem? (i := 270) (by decide +kernel)⟩
theorem lw_p10 : lw_okq (⟨"LastScale", "readBook", "()Z"⟩, 8) := ⟨⟨by decide +kernel, by decide +kernel⟩, List.mem_of_getElem? (i := 14) (by decide +kernel), List.mem_of_getElem? (i := 273) (by decide +kernel), List.mem_of_getElem? (i := 274) (by decide +kernel)⟩
theorem lw_p11 : lw_okq (⟨"LastScale$Relation", "read", "(LLastScale$Book;I)V"⟩, 4) := ⟨⟨by decide +kernel, by decide +kernel⟩, List.mem_of_getElem? (i := 98) (by decide +kernel), List.mem_of_getElem? (i := 277) (by decide +kernel), List.mem_of_getElem? (i := 278) (by decide +kernel)⟩
theorem lw_p12 : lw_okq (⟨"LastScale$Relation", "believe", "([I)V"⟩, 4) := ⟨⟨by decide +kernel, by decide +kernel⟩, List.mem_of_getElem? (i := 98) (by decide +kernel), List.mem_of_getElem? (i := 281) (by decide +kernel), List.mem_of_getElem? (i := 282) (by decide +kernel)⟩
theorem lw_p13 : lw_okq (⟨"LastScale$Relation", "close", "()V"⟩, 4) := ⟨⟨by decide +kernel, by decide +kernel⟩, List.mem_of_getElem? (i := 98) (by decide +kernel), List.mem_of_getElem? (i := 285) (by decide +kernel), List.mem_of_getElem? (i := 286) (by decide +kernel)⟩
theorem lw_p14 : lw_okq (⟨"LastScale$Relation", "isNoLess", "(II)Z"⟩, 4) := ⟨⟨by decide +kernel, by decide +kernel⟩, List.mem_of_getElem? (i := 98) (by decide +kernel), List.mem_of_getElem? (i := 289) (by decide +kernel), List.mem_of_getElem? (i := 290) (by decide +kernel)⟩
theorem lw_p15 : lw_okq (⟨"LastScale$Relation", "contradicts", "([I)Z"⟩, 4) := ⟨⟨by decide +kernel, by decide +kernel⟩, List.mem_of_getElem? (i := 98) (by decide +kernel), List.mem_of_getElem? (i := 293) (by decide +kernel), List.mem_of_getElem? (i := 294) (by decide +kernel)⟩
def lw_privs_1 : List (MethodName × Nat) := [(⟨"LastScale$Book", "beginWith", "(I)V"⟩, 9), (⟨"LastScale$Pad", "put", "(I)V"⟩, 2), (⟨"LastScale$Pad", "clear", "()V"⟩, 2), (⟨"LastScale$Pad", "firstFault", "(I)I"⟩, 2), (⟨"LastScale$Pad", "mayStand", "(II)Z"⟩, 2), (⟨"LastScale$Book", "write", "(LLastScale$Pad;)V"⟩, 9), (⟨"LastScale$Pad", "sackAt", "(I)I"⟩, 2), (⟨"LastScale$Pad", "howAt", "(I)I"⟩, 2), (⟨"LastScale$Book", "addSaying", "(III)V"⟩, 9), (⟨"LastScale$Book", "has", "(I)Z"⟩, 9), (⟨"LastScale", "readBook", "()Z"⟩, 8), (⟨"LastScale$Relation", "read", "(LLastScale$Book;I)V"⟩, 4), (⟨"LastScale$Relation", "believe", "([I)V"⟩, 4), (⟨"LastScale$Relation", "close", "()V"⟩, 4), (⟨"LastScale$Relation", "isNoLess", "(II)Z"⟩, 4), (⟨"LastScale$Relation", "contradicts", "([I)Z"⟩, 4)]
theorem lw_r1 : ∀ q ∈ lw_privs_1, lw_okq q := List.forall_mem_cons.mpr ⟨lw_p0, List.forall_mem_cons.mpr ⟨lw_p1, List.forall_mem_cons.mpr ⟨lw_p2, List.forall_mem_cons.mpr ⟨lw_p3, List.forall_mem_cons.mpr ⟨lw_p4, List.forall_mem_cons.mpr ⟨lw_p5, List.forall_mem_cons.mpr ⟨lw_p6, List.forall_mem_cons.mpr ⟨lw_p7, List.forall_mem_cons.mpr ⟨lw_p8, List.forall_mem_cons.mpr ⟨lw_p9, List.forall_mem_cons.mpr ⟨lw_p10, List.forall_mem_cons.mpr ⟨lw_p11, List.forall_mem_cons.mpr ⟨lw_p12, List.forall_mem_cons.mpr ⟨lw_p13, List.forall_mem_cons.mpr ⟨lw_p14, List.forall_mem_cons.mpr ⟨lw_p15, fun _ h => absurd h List.not_mem_nil⟩⟩⟩⟩⟩⟩⟩⟩⟩⟩⟩⟩⟩⟩⟩⟩
theorem lw_p16 : lw_okq (⟨"LastScale$Relation", "against", "(II)I"⟩, 4) := ⟨⟨by decide +kernel, by decide +kernel⟩, List.mem_of_getElem? (i := 98) (by decide +kernel), List.mem_of_getElem? (i := 297) (by decide +kernel), List.mem_of_getElem? (i := 298) (by decide +kernel)⟩
theorem lw_p17 : lw_okq (⟨"LastScale$Relation", "isAlike", "(II)Z"⟩, 4) := ⟨⟨by decide +kernel, by decide +kernel⟩, List.mem_of_getElem? (i := 98) (by decide +kernel), List.mem_of_getElem? (i := 301) (by decide +kernel), List.mem_of_getElem? (i := 302) (by decide +kernel)⟩
theorem lw_p18 : lw_okq (⟨"LastScale$Relation", "openPairs", "()I"⟩, 4) := ⟨⟨by decide +kernel, by decide +kernel⟩, List.mem_of_getElem? (i := 98) (by decide +kernel), List.mem_of_getElem? (i := 309) (by decide +kernel), List.mem_of_getElem? (i := 310) (by decide +kernel)⟩
theorem lw_p19 : lw_okq (⟨"LastScale$Relation", "groupCount", "()I"⟩, 4) := ⟨⟨by decide +kernel, by decide +kernel⟩, List.mem_of_getElem? (i := 98) (by decide +kernel), List.mem_of_getElem? (i := 314) (by decide +kernel), List.mem_of_getElem? (i := 315) (by decide +kernel)⟩
theorem lw_p20 : lw_okq (⟨"LastScale$Relation", "leaders", "()I"⟩, 4) := ⟨⟨by decide +kernel, by decide +kernel⟩, List.mem_of_getElem? (i := 98) (by decide +kernel), List.mem_of_getElem? (i := 318) (by decide +kernel), List.mem_of_getElem? (i := 319) (by decide +kernel)⟩
theorem lw_p21 : lw_okq (⟨"LastScale$Relation", "isLeader", "(I)Z"⟩, 4) := ⟨⟨by decide +kernel, by decide +kernel⟩, List.mem_of_getElem? (i := 98) (by decide +kernel), List.mem_of_getElem? (i := 322) (by decide +kernel), List.mem_of_getElem? (i := 323) (by decide +kernel)⟩
theorem lw_p22 : lw_okq (⟨"LastScale$Relation", "leastRank", "(I)I"⟩, 4) := ⟨⟨by decide +kernel, by decide +kernel⟩, List.mem_of_getElem? (i := 98) (by decide +kernel), List.mem_of_getElem? (i := 339) (by decide +kernel), List.mem_of_getElem? (i := 340) (by decide +kernel)⟩
theorem lw_p23 : lw_okq (⟨"LastScale$Relation", "heavierLeaders", "(I)I"⟩, 4) := ⟨⟨by decide +kernel, by decide +kernel⟩, List.mem_of_getElem? (i := 98) (by decide +kernel), List.mem_of_getElem? (i := 343) (by decide +kernel), List.mem_of_getElem? (i := 344) (by decide +kernel)⟩
theorem lw_p24 : lw_okq (⟨"LastScale$Relation", "isHeavier", "(II)Z"⟩, 4) := ⟨⟨by decide +kernel, by decide +kernel⟩, List.mem_of_getElem? (i := 98) (by decide +kernel), List.mem_of_getElem? (i := 347) (by decide +kernel), List.mem_of_getElem? (i := 348) (by decide +kernel)⟩
theorem lw_p25 : lw_okq (⟨"LastScale$Relation", "greatestRank", "(I)I"⟩, 4) := ⟨⟨by decide +kernel, by decide +kernel⟩, List.mem_of_getElem? (i := 98) (by decide +kernel), List.mem_of_getElem? (i := 351) (by decide +kernel), List.mem_of_getElem? (i := 352) (by decide +kernel)⟩
theorem lw_p26 : lw_okq (⟨"LastScale$Relation", "orderCount", "()I"⟩, 4) := ⟨⟨by decide +kernel, by decide +kernel⟩, List.mem_of_getElem? (i := 98) (by decide +kernel), List.mem_of_getElem? (i := 360) (by decide +kernel), List.mem_of_getElem? (i := 361) (by decide +kernel)⟩
theorem lw_p27 : lw_okq (⟨"LastScale$Relation", "waysToBegin", "(I)I"⟩, 4) := ⟨⟨by decide +kernel, by decide +kernel⟩, List.mem_of_getElem? (i := 98) (by decide +kernel), List.mem_of_getElem? (i := 364) (by decide +kernel), List.mem_of_getElem? (i := 365) (by decide +kernel)⟩
theorem lw_p28 : lw_okq (⟨"LastScale", "paymentOfAll", "(I)I"⟩, 8) := ⟨⟨by decide +kernel, by decide +kernel⟩, List.mem_of_getElem? (i := 14) (by decide +kernel), List.mem_of_getElem? (i := 376) (by decide +kernel), List.mem_of_getElem? (i := 377) (by decide +kernel)⟩
theorem lw_p29 : lw_okq (⟨"LastScale", "paymentOf", "(II)I"⟩, 8) := ⟨⟨by decide +kernel, by decide +kernel⟩, List.mem_of_getElem? (i := 14) (by decide +kernel), List.mem_of_getElem? (i := 380) (by decide +kernel), List.mem_of_getElem? (i := 381) (by decide +kernel)⟩
theorem lw_p30 : lw_okq (⟨"LastScale", "plannerFor", "(I)LLastScale$Planner;"⟩, 8) := ⟨⟨by decide +kernel, by decide +kernel⟩, List.mem_of_getElem? (i := 14) (by decide +kernel), List.mem_of_getElem? (i := 394) (by decide +kernel), List.mem_of_getElem? (i := 395) (by decide +kernel)⟩
theorem lw_p31 : lw_okq (⟨"LastScale$Relation", "groupOf", "(I)I"⟩, 4) := ⟨⟨by decide +kernel, by decide +kernel⟩, List.mem_of_getElem? (i := 98) (by decide +kernel), List.mem_of_getElem? (i := 417) (by decide +kernel), List.mem_of_getElem? (i := 418) (by decide +kernel)⟩
def lw_privs_2 : List (MethodName × Nat) := [(⟨"LastScale$Relation", "against", "(II)I"⟩, 4), (⟨"LastScale$Relation", "isAlike", "(II)Z"⟩, 4), (⟨"LastScale$Relation", "openPairs", "()I"⟩, 4), (⟨"LastScale$Relation", "groupCount", "()I"⟩, 4), (⟨"LastScale$Relation", "leaders", "()I"⟩, 4), (⟨"LastScale$Relation", "isLeader", "(I)Z"⟩, 4), (⟨"LastScale$Relation", "leastRank", "(I)I"⟩, 4), (⟨"LastScale$Relation", "heavierLeaders", "(I)I"⟩, 4), (⟨"LastScale$Relation", "isHeavier", "(II)Z"⟩, 4), (⟨"LastScale$Relation", "greatestRank", "(I)I"⟩, 4), (⟨"LastScale$Relation", "orderCount", "()I"⟩, 4), (⟨"LastScale$Relation", "waysToBegin", "(I)I"⟩, 4), (⟨"LastScale", "paymentOfAll", "(I)I"⟩, 8), (⟨"LastScale", "paymentOf", "(II)I"⟩, 8), (⟨"LastScale", "plannerFor", "(I)LLastScale$Planner;"⟩, 8), (⟨"LastScale$Relation", "groupOf", "(I)I"⟩, 4)]
theorem lw_r2 : ∀ q ∈ lw_privs_2, lw_okq q := List.forall_mem_cons.mpr ⟨lw_p16, List.forall_mem_cons.mpr ⟨lw_p17, List.forall_mem_cons.mpr ⟨lw_p18, List.forall_mem_cons.mpr ⟨lw_p19, List.forall_mem_cons.mpr ⟨lw_p20, List.forall_mem_cons.mpr ⟨lw_p21, List.forall_mem_cons.mpr ⟨lw_p22, List.forall_mem_cons.mpr ⟨lw_p23, List.forall_mem_cons.mpr ⟨lw_p24, List.forall_mem_cons.mpr ⟨lw_p25, List.forall_mem_cons.mpr ⟨lw_p26, List.forall_mem_cons.mpr ⟨lw_p27, List.forall_mem_cons.mpr ⟨lw_p28, List.forall_mem_cons.mpr ⟨lw_p29, List.forall_mem_cons.mpr ⟨lw_p30, List.forall_mem_cons.mpr ⟨lw_p31, fun _ h => absurd h List.not_mem_nil⟩⟩⟩⟩⟩⟩⟩⟩⟩⟩⟩⟩⟩⟩⟩⟩
theorem lw_p32 : lw_okq (⟨"LastScale", "groupOrder", "(I)I"⟩, 8) := ⟨⟨by decide +kernel, by decide +kernel⟩, List.mem_of_getElem? (i := 14) (by decide +kernel), List.mem_of_getElem? (i := 421) (by decide +kernel), List.mem_of_getElem? (i := 422) (by decide +kernel)⟩
theorem lw_p33 : lw_okq (⟨"LastScale$Relation", "leaderOf", "(I)I"⟩, 4) := ⟨⟨by decide +kernel, by decide +kernel⟩, List.mem_of_getElem? (i := 98) (by decide +kernel), List.mem_of_getElem? (i := 425) (by decide +kernel), List.mem_of_getElem? (i := 426) (by decide +kernel)⟩
theorem lw_p34 : lw_okq (⟨"LastScale$Planner", "fewestLifts", "(II)I"⟩, 3) := ⟨⟨by decide +kernel, by decide +kernel⟩, List.mem_of_getElem? (i := 397) (by decide +kernel), List.mem_of_getElem? (i := 433) (by decide +kernel), List.mem_of_getElem? (i := 434) (by decide +kernel)⟩
theorem lw_p35 : lw_okq (⟨"LastScale$Planner", "isWhole", "(I)Z"⟩, 3) := ⟨⟨by decide +kernel, by decide +kernel⟩, List.mem_of_getElem? (i := 397) (by decide +kernel), List.mem_of_getElem? (i := 437) (by decide +kernel), List.mem_of_getElem? (i := 438) (by decide +kernel)⟩
theorem lw_p36 : lw_okq (⟨"LastScale$Planner", "costs", "(II)I"⟩, 3) := ⟨⟨by decide +kernel, by decide +kernel⟩, List.mem_of_getElem? (i := 397) (by decide +kernel), List.mem_of_getElem? (i := 442) (by decide +kernel), List.mem_of_getElem? (i := 443) (by decide +kernel)⟩
theorem lw_p37 : lw_okq (⟨"LastScale$Planner", "codeOf", "(I)I"⟩, 3) := ⟨⟨by decide +kernel, by decide +kernel⟩, List.mem_of_getElem? (i := 397) (by decide +kernel), List.mem_of_getElem? (i := 446) (by decide +kernel), List.mem_of_getElem? (i := 447) (by decide +kernel)⟩
theorem lw_p38 : lw_okq (⟨"LastScale$Planner", "findCosts", "(II)I"⟩, 3) := ⟨⟨by decide +kernel, by decide +kernel⟩, List.mem_of_getElem? (i := 397) (by decide +kernel), List.mem_of_getElem? (i := 451) (by decide +kernel), List.mem_of_getElem? (i := 452) (by decide +kernel)⟩
theorem lw_p39 : lw_okq (⟨"LastScale$Planner", "joined", "(III)I"⟩, 3) := ⟨⟨by decide +kernel, by decide +kernel⟩, List.mem_of_getElem? (i := 397) (by decide +kernel), List.mem_of_getElem? (i := 458) (by decide +kernel), List.mem_of_getElem? (i := 459) (by decide +kernel)⟩
theorem lw_p40 : lw_okq (⟨"LastScale$Planner", "withDetours", "(II)I"⟩, 3) := ⟨⟨by decide +kernel, by decide +kernel⟩, List.mem_of_getElem? (i := 397) (by decide +kernel), List.mem_of_getElem? (i := 471) (by decide +kernel), List.mem_of_getElem? (i := 472) (by decide +kernel)⟩
theorem lw_p41 : lw_okq (⟨"LastScale$Planner", "costOfLaying", "(III)I"⟩, 3) := ⟨⟨by decide +kernel, by decide +kernel⟩, List.mem_of_getElem? (i := 397) (by decide +kernel), List.mem_of_getElem? (i := 475) (by decide +kernel), List.mem_of_getElem? (i := 476) (by decide +kernel)⟩
theorem lw_p42 : lw_okq (⟨"LastScale$Planner", "firstOf", "(III)I"⟩, 3) := ⟨⟨by decide +kernel, by decide +kernel⟩, List.mem_of_getElem? (i := 397) (by decide +kernel), List.mem_of_getElem? (i := 479) (by decide +kernel), List.mem_of_getElem? (i := 480) (by decide +kernel)⟩
theorem lw_p43 : lw_okq (⟨"LastScale$Spans", "settle", "(LLastScale$Book;)Z"⟩, 3) := ⟨⟨by decide +kernel, by decide +kernel⟩, List.mem_of_getElem? (i := 119) (by decide +kernel), List.mem_of_getElem? (i := 495) (by decide +kernel), List.mem_of_getElem? (i := 496) (by decide +kernel)⟩
theorem lw_p44 : lw_okq (⟨"LastScale$Spans", "hear", "([II)V"⟩, 3) := ⟨⟨by decide +kernel, by decide +kernel⟩, List.mem_of_getElem? (i := 119) (by decide +kernel), List.mem_of_getElem? (i := 502) (by decide +kernel), List.mem_of_getElem? (i := 503) (by decide +kernel)⟩
theorem lw_p45 : lw_okq (⟨"LastScale$Spans", "keepAbove", "(III)V"⟩, 3) := ⟨⟨by decide +kernel, by decide +kernel⟩, List.mem_of_getElem? (i := 119) (by decide +kernel), List.mem_of_getElem? (i := 506) (by decide +kernel), List.mem_of_getElem? (i := 507) (by decide +kernel)⟩
theorem lw_p46 : lw_okq (⟨"LastScale$Spans", "allFit", "(I)Z"⟩, 3) := ⟨⟨by decide +kernel, by decide +kernel⟩, List.mem_of_getElem? (i := 119) (by decide +kernel), List.mem_of_getElem? (i := 510) (by decide +kernel), List.mem_of_getElem? (i := 511) (by decide +kernel)⟩
theorem lw_p47 : lw_okq (⟨"LastScale$FalseSayings", "find", "(LLastScale$Book;LLastScale$Relation;)V"⟩, 3) := ⟨⟨by decide +kernel, by decide +kernel⟩, List.mem_of_getElem? (i := 137) (by decide +kernel), List.mem_of_getElem? (i := 518) (by decide +kernel), List.mem_of_getElem? (i := 519) (by decide +kernel)⟩
def lw_privs_3 : List (MethodName × Nat) := [(⟨"LastScale", "groupOrder", "(I)I"⟩, 8), (⟨"LastScale$Relation", "leaderOf", "(I)I"⟩, 4), (⟨"LastScale$Planner", "fewestLifts", "(II)I"⟩, 3), (⟨"LastScale$Planner", "isWhole", "(I)Z"⟩, 3), (⟨"LastScale$Planner", "costs", "(II)I"⟩, 3), (⟨"LastScale$Planner", "codeOf", "(I)I"⟩, 3), (⟨"LastScale$Planner", "findCosts", "(II)I"⟩, 3), (⟨"LastScale$Planner", "joined", "(III)I"⟩, 3), (⟨"LastScale$Planner", "withDetours", "(II)I"⟩, 3), (⟨"LastScale$Planner", "costOfLaying", "(III)I"⟩, 3), (⟨"LastScale$Planner", "firstOf", "(III)I"⟩, 3), (⟨"LastScale$Spans", "settle", "(LLastScale$Book;)Z"⟩, 3), (⟨"LastScale$Spans", "hear", "([II)V"⟩, 3), (⟨"LastScale$Spans", "keepAbove", "(III)V"⟩, 3), (⟨"LastScale$Spans", "allFit", "(I)Z"⟩, 3), (⟨"LastScale$FalseSayings", "find", "(LLastScale$Book;LLastScale$Relation;)V"⟩, 3)]
theorem lw_r3 : ∀ q ∈ lw_privs_3, lw_okq q := List.forall_mem_cons.mpr ⟨lw_p32, List.forall_mem_cons.mpr ⟨lw_p33, List.forall_mem_cons.mpr ⟨lw_p34, List.forall_mem_cons.mpr ⟨lw_p35, List.forall_mem_cons.mpr ⟨lw_p36, List.forall_mem_cons.mpr ⟨lw_p37, List.forall_mem_cons.mpr ⟨lw_p38, List.forall_mem_cons.mpr ⟨lw_p39, List.forall_mem_cons.mpr ⟨lw_p40, List.forall_mem_cons.mpr ⟨lw_p41, List.forall_mem_cons.mpr ⟨lw_p42, List.forall_mem_cons.mpr ⟨lw_p43, List.forall_mem_cons.mpr ⟨lw_p44, List.forall_mem_cons.mpr ⟨lw_p45, List.forall_mem_cons.mpr ⟨lw_p46, List.forall_mem_cons.mpr ⟨lw_p47, fun _ h => absurd h List.not_mem_nil⟩⟩⟩⟩⟩⟩⟩⟩⟩⟩⟩⟩⟩⟩⟩⟩
theorem lw_p48 : lw_okq (⟨"LastScale$FalseSayings", "take", "(II)V"⟩, 3) := ⟨⟨by decide +kernel, by decide +kernel⟩, List.mem_of_getElem? (i := 137) (by decide +kernel), List.mem_of_getElem? (i := 524) (by decide +kernel), List.mem_of_getElem? (i := 525) (by decide +kernel)⟩
theorem lw_p49 : lw_okq (⟨"LastScale$WeighedLine", "readNumber", "(II)Z"⟩, 4) := ⟨⟨by decide +kernel, by decide +kernel⟩, List.mem_of_getElem? (i := 156) (by decide +kernel), List.mem_of_getElem? (i := 536) (by decide +kernel), List.mem_of_getElem? (i := 537) (by decide +kernel)⟩
theorem lw_p50 : lw_okq (⟨"LastScale$WeighedLine", "pairsLeftOpen", "([I)I"⟩, 4) := ⟨⟨by decide +kernel, by decide +kernel⟩, List.mem_of_getElem? (i := 156) (by decide +kernel), List.mem_of_getElem? (i := 540) (by decide +kernel), List.mem_of_getElem? (i := 541) (by decide +kernel)⟩
theorem lw_p51 : lw_okq (⟨"LastScale$WeighedLine", "findExtreme", "([IIZ)V"⟩, 4) := ⟨⟨by decide +kernel, by decide +kernel⟩, List.mem_of_getElem? (i := 156) (by decide +kernel), List.mem_of_getElem? (i := 551) (by decide +kernel), List.mem_of_getElem? (i := 552) (by decide +kernel)⟩
theorem lw_p52 : lw_okq (⟨"LastScale$WeighedLine", "number", "()I"⟩, 4) := ⟨⟨by decide +kernel, by decide +kernel⟩, List.mem_of_getElem? (i := 156) (by decide +kernel), List.mem_of_getElem? (i := 555) (by decide +kernel), List.mem_of_getElem? (i := 556) (by decide +kernel)⟩
theorem lw_p53 : lw_okq (⟨"LastScale$WeighedLine", "advance", "()Z"⟩, 4) := ⟨⟨by decide +kernel, by decide +kernel⟩, List.mem_of_getElem? (i := 156) (by decide +kernel), List.mem_of_getElem? (i := 560) (by decide +kernel), List.mem_of_getElem? (i := 561) (by decide +kernel)⟩
theorem lw_p54 : lw_okq (⟨"LastScale$WeighedLine", "swap", "(II)V"⟩, 4) := ⟨⟨by decide +kernel, by decide +kernel⟩, List.mem_of_getElem? (i := 156) (by decide +kernel), List.mem_of_getElem? (i := 564) (by decide +kernel), List.mem_of_getElem? (i := 565) (by decide +kernel)⟩
theorem lw_p55 : lw_okq (⟨"LastScale$Book", "copyFrom", "(LLastScale$Book;)V"⟩, 9) := ⟨⟨by decide +kernel, by decide +kernel⟩, List.mem_of_getElem? (i := 38) (by decide +kernel), List.mem_of_getElem? (i := 572) (by decide +kernel), List.mem_of_getElem? (i := 573) (by decide +kernel)⟩
theorem lw_p56 : lw_okq (⟨"LastScale", "toldOfRow", "(I)I"⟩, 8) := ⟨⟨by decide +kernel, by decide +kernel⟩, List.mem_of_getElem? (i := 14) (by decide +kernel), List.mem_of_getElem? (i := 585) (by decide +kernel), List.mem_of_getElem? (i := 586) (by decide +kernel)⟩
theorem lw_p57 : lw_okq (⟨"LastScaleModel", "faultOf", "()I"⟩, 27) := ⟨⟨by decide +kernel, by decide +kernel⟩, List.mem_of_getElem? (i := 589) (by decide +kernel), List.mem_of_getElem? (i := 698) (by decide +kernel), List.mem_of_getElem? (i := 699) (by decide +kernel)⟩
theorem lw_p58 : lw_okq (⟨"LastScaleModel", "isSack", "(I)Z"⟩, 27) := ⟨⟨by decide +kernel, by decide +kernel⟩, List.mem_of_getElem? (i := 589) (by decide +kernel), List.mem_of_getElem? (i := 702) (by decide +kernel), List.mem_of_getElem? (i := 703) (by decide +kernel)⟩
theorem lw_p59 : lw_okq (⟨"LastScaleModel", "followAll", "()Z"⟩, 27) := ⟨⟨by decide +kernel, by decide +kernel⟩, List.mem_of_getElem? (i := 589) (by decide +kernel), List.mem_of_getElem? (i := 722) (by decide +kernel), List.mem_of_getElem? (i := 723) (by decide +kernel)⟩
theorem lw_p60 : lw_okq (⟨"LastScaleModel", "follow", "(I)Z"⟩, 27) := ⟨⟨by decide +kernel, by decide +kernel⟩, List.mem_of_getElem? (i := 589) (by decide +kernel), List.mem_of_getElem? (i := 726) (by decide +kernel), List.mem_of_getElem? (i := 727) (by decide +kernel)⟩
theorem lw_p61 : lw_okq (⟨"LastScaleModel", "clear", "()V"⟩, 27) := ⟨⟨by decide +kernel, by decide +kernel⟩, List.mem_of_getElem? (i := 589) (by decide +kernel), List.mem_of_getElem? (i := 730) (by decide +kernel), List.mem_of_getElem? (i := 731) (by decide +kernel)⟩
theorem lw_p62 : lw_okq (⟨"LastScaleModel", "put", "(III)V"⟩, 27) := ⟨⟨by decide +kernel, by decide +kernel⟩, List.mem_of_getElem? (i := 589) (by decide +kernel), List.mem_of_getElem? (i := 734) (by decide +kernel), List.mem_of_getElem? (i := 735) (by decide +kernel)⟩
theorem lw_p63 : lw_okq (⟨"LastScaleModel", "close", "()Z"⟩, 27) := ⟨⟨by decide +kernel, by decide +kernel⟩, List.mem_of_getElem? (i := 589) (by decide +kernel), List.mem_of_getElem? (i := 738) (by decide +kernel), List.mem_of_getElem? (i := 739) (by decide +kernel)⟩
def lw_privs_4 : List (MethodName × Nat) := [(⟨"LastScale$FalseSayings", "take", "(II)V"⟩, 3), (⟨"LastScale$WeighedLine", "readNumber", "(II)Z"⟩, 4), (⟨"LastScale$WeighedLine", "pairsLeftOpen", "([I)I"⟩, 4), (⟨"LastScale$WeighedLine", "findExtreme", "([IIZ)V"⟩, 4), (⟨"LastScale$WeighedLine", "number", "()I"⟩, 4), (⟨"LastScale$WeighedLine", "advance", "()Z"⟩, 4), (⟨"LastScale$WeighedLine", "swap", "(II)V"⟩, 4), (⟨"LastScale$Book", "copyFrom", "(LLastScale$Book;)V"⟩, 9), (⟨"LastScale", "toldOfRow", "(I)I"⟩, 8), (⟨"LastScaleModel", "faultOf", "()I"⟩, 27), (⟨"LastScaleModel", "isSack", "(I)Z"⟩, 27), (⟨"LastScaleModel", "followAll", "()Z"⟩, 27), (⟨"LastScaleModel", "follow", "(I)Z"⟩, 27), (⟨"LastScaleModel", "clear", "()V"⟩, 27), (⟨"LastScaleModel", "put", "(III)V"⟩, 27), (⟨"LastScaleModel", "close", "()Z"⟩, 27)]
theorem lw_r4 : ∀ q ∈ lw_privs_4, lw_okq q := List.forall_mem_cons.mpr ⟨lw_p48, List.forall_mem_cons.mpr ⟨lw_p49, List.forall_mem_cons.mpr ⟨lw_p50, List.forall_mem_cons.mpr ⟨lw_p51, List.forall_mem_cons.mpr ⟨lw_p52, List.forall_mem_cons.mpr ⟨lw_p53, List.forall_mem_cons.mpr ⟨lw_p54, List.forall_mem_cons.mpr ⟨lw_p55, List.forall_mem_cons.mpr ⟨lw_p56, List.forall_mem_cons.mpr ⟨lw_p57, List.forall_mem_cons.mpr ⟨lw_p58, List.forall_mem_cons.mpr ⟨lw_p59, List.forall_mem_cons.mpr ⟨lw_p60, List.forall_mem_cons.mpr ⟨lw_p61, List.forall_mem_cons.mpr ⟨lw_p62, List.forall_mem_cons.mpr ⟨lw_p63, fun _ h => absurd h List.not_mem_nil⟩⟩⟩⟩⟩⟩⟩⟩⟩⟩⟩⟩⟩⟩⟩⟩
theorem lw_p64 : lw_okq (⟨"LastScaleModel", "layGroups", "()V"⟩, 27) := ⟨⟨by decide +kernel, by decide +kernel⟩, List.mem_of_getElem? (i := 589) (by decide +kernel), List.mem_of_getElem? (i := 746) (by decide +kernel), List.mem_of_getElem? (i := 747) (by decide +kernel)⟩
theorem lw_p65 : lw_okq (⟨"LastScaleModel", "openPairs", "()I"⟩, 27) := ⟨⟨by decide +kernel, by decide +kernel⟩, List.mem_of_getElem? (i := 589) (by decide +kernel), List.mem_of_getElem? (i := 750) (by decide +kernel), List.mem_of_getElem? (i := 751) (by decide +kernel)⟩
theorem lw_p66 : lw_okq (⟨"LastScaleModel", "isOpen", "(II)Z"⟩, 27) := ⟨⟨by decide +kernel, by decide +kernel⟩, List.mem_of_getElem? (i := 589) (by decide +kernel), List.mem_of_getElem? (i := 754) (by decide +kernel), List.mem_of_getElem? (i := 755) (by decide +kernel)⟩
theorem lw_p67 : lw_okq (⟨"LastScaleModel", "rankOf", "(II)I"⟩, 27) := ⟨⟨by decide +kernel, by decide +kernel⟩, List.mem_of_getElem? (i := 589) (by decide +kernel), List.mem_of_getElem? (i := 762) (by decide +kernel), List.mem_of_getElem? (i := 763) (by decide +kernel)⟩
theorem lw_p68 : lw_okq (⟨"LastScaleModel", "paysOf", "(II)I"⟩, 27) := ⟨⟨by decide +kernel, by decide +kernel⟩, List.mem_of_getElem? (i := 589) (by decide +kernel), List.mem_of_getElem? (i := 778) (by decide +kernel), List.mem_of_getElem? (i := 779) (by decide +kernel)⟩
theorem lw_p69 : lw_okq (⟨"LastScaleModel", "layStands", "(II)V"⟩, 27) := ⟨⟨by decide +kernel, by decide +kernel⟩, List.mem_of_getElem? (i := 589) (by decide +kernel), List.mem_of_getElem? (i := 786) (by decide +kernel), List.mem_of_getElem? (i := 787) (by decide +kernel)⟩
theorem lw_p70 : lw_okq (⟨"LastScaleModel", "stand", "(II)I"⟩, 27) := ⟨⟨by decide +kernel, by decide +kernel⟩, List.mem_of_getElem? (i := 589) (by decide +kernel), List.mem_of_getElem? (i := 790) (by decide +kernel), List.mem_of_getElem? (i := 791) (by decide +kernel)⟩
theorem lw_p71 : lw_okq (⟨"LastScaleModel", "isWhole", "(I)Z"⟩, 27) := ⟨⟨by decide +kernel, by decide +kernel⟩, List.mem_of_getElem? (i := 589) (by decide +kernel), List.mem_of_getElem? (i := 799) (by decide +kernel), List.mem_of_getElem? (i := 800) (by decide +kernel)⟩
theorem lw_p72 : lw_okq (⟨"LastScaleModel", "laid", "(III)I"⟩, 27) := ⟨⟨by decide +kernel, by decide +kernel⟩, List.mem_of_getElem? (i := 589) (by decide +kernel), List.mem_of_getElem? (i := 806) (by decide +kernel), List.mem_of_getElem? (i := 807) (by decide +kernel)⟩
theorem lw_p73 : lw_okq (⟨"LastScaleModel", "with", "(III)I"⟩, 27) := ⟨⟨by decide +kernel, by decide +kernel⟩, List.mem_of_getElem? (i := 589) (by decide +kernel), List.mem_of_getElem? (i := 810) (by decide +kernel), List.mem_of_getElem? (i := 811) (by decide +kernel)⟩
theorem lw_p74 : lw_okq (⟨"LastScaleModel", "layValues", "()V"⟩, 27) := ⟨⟨by decide +kernel, by decide +kernel⟩, List.mem_of_getElem? (i := 589) (by decide +kernel), List.mem_of_getElem? (i := 814) (by decide +kernel), List.mem_of_getElem? (i := 815) (by decide +kernel)⟩
theorem lw_p75 : lw_okq (⟨"LastScaleModel", "does", "(III)Z"⟩, 27) := ⟨⟨by decide +kernel, by decide +kernel⟩, List.mem_of_getElem? (i := 589) (by decide +kernel), List.mem_of_getElem? (i := 818) (by decide +kernel), List.mem_of_getElem? (i := 819) (by decide +kernel)⟩
theorem lw_p76 : lw_okq (⟨"LastScaleModel", "laySpans", "()Z"⟩, 27) := ⟨⟨by decide +kernel, by decide +kernel⟩, List.mem_of_getElem? (i := 589) (by decide +kernel), List.mem_of_getElem? (i := 834) (by decide +kernel), List.mem_of_getElem? (i := 835) (by decide +kernel)⟩
theorem lw_p77 : lw_okq (⟨"LastScaleModel", "canSpan", "()Z"⟩, 27) := ⟨⟨by decide +kernel, by decide +kernel⟩, List.mem_of_getElem? (i := 589) (by decide +kernel), List.mem_of_getElem? (i := 838) (by decide +kernel), List.mem_of_getElem? (i := 839) (by decide +kernel)⟩
theorem lw_p78 : lw_okq (⟨"LastScaleModel", "press", "(III)Z"⟩, 27) := ⟨⟨by decide +kernel, by decide +kernel⟩, List.mem_of_getElem? (i := 589) (by decide +kernel), List.mem_of_getElem? (i := 842) (by decide +kernel), List.mem_of_getElem? (i := 843) (by decide +kernel)⟩
theorem lw_p79 : lw_okq (⟨"LastScaleModel", "layOrder", "(II)Z"⟩, 27) := ⟨⟨by decide +kernel, by decide +kernel⟩, List.mem_of_getElem? (i := 589) (by decide +kernel), List.mem_of_getElem? (i := 861) (by decide +kernel), List.mem_of_getElem? (i := 862) (by decide +kernel)⟩
def lw_privs_5 : List (MethodName × Nat) := [(⟨"LastScaleModel", "layGroups", "()V"⟩, 27), (⟨"LastScaleModel", "openPairs", "()I"⟩, 27), (⟨"LastScaleModel", "isOpen", "(II)Z"⟩, 27), (⟨"LastScaleModel", "rankOf", "(II)I"⟩, 27), (⟨"LastScaleModel", "paysOf", "(II)I"⟩, 27), (⟨"LastScaleModel", "layStands", "(II)V"⟩, 27), (⟨"LastScaleModel", "stand", "(II)I"⟩, 27), (⟨"LastScaleModel", "isWhole", "(I)Z"⟩, 27), (⟨"LastScaleModel", "laid", "(III)I"⟩, 27), (⟨"LastScaleModel", "with", "(III)I"⟩, 27), (⟨"LastScaleModel", "layValues", "()V"⟩, 27), (⟨"LastScaleModel", "does", "(III)Z"⟩, 27), (⟨"LastScaleModel", "laySpans", "()Z"⟩, 27), (⟨"LastScaleModel", "canSpan", "()Z"⟩, 27), (⟨"LastScaleModel", "press", "(III)Z"⟩, 27), (⟨"LastScaleModel", "layOrder", "(II)Z"⟩, 27)]
theorem lw_r5 : ∀ q ∈ lw_privs_5, lw_okq q := List.forall_mem_cons.mpr ⟨lw_p64, List.forall_mem_cons.mpr ⟨lw_p65, List.forall_mem_cons.mpr ⟨lw_p66, List.forall_mem_cons.mpr ⟨lw_p67, List.forall_mem_cons.mpr ⟨lw_p68, List.forall_mem_cons.mpr ⟨lw_p69, List.forall_mem_cons.mpr ⟨lw_p70, List.forall_mem_cons.mpr ⟨lw_p71, List.forall_mem_cons.mpr ⟨lw_p72, List.forall_mem_cons.mpr ⟨lw_p73, List.forall_mem_cons.mpr ⟨lw_p74, List.forall_mem_cons.mpr ⟨lw_p75, List.forall_mem_cons.mpr ⟨lw_p76, List.forall_mem_cons.mpr ⟨lw_p77, List.forall_mem_cons.mpr ⟨lw_p78, List.forall_mem_cons.mpr ⟨lw_p79, fun _ h => absurd h List.not_mem_nil⟩⟩⟩⟩⟩⟩⟩⟩⟩⟩⟩⟩⟩⟩⟩⟩
theorem lw_p80 : lw_okq (⟨"LastScaleModel", "leftOpen", "()I"⟩, 27) := ⟨⟨by decide +kernel, by decide +kernel⟩, List.mem_of_getElem? (i := 589) (by decide +kernel), List.mem_of_getElem? (i := 865) (by decide +kernel), List.mem_of_getElem? (i := 866) (by decide +kernel)⟩
def lw_privs_6 : List (MethodName × Nat) := [(⟨"LastScaleModel", "leftOpen", "()I"⟩, 27)]
theorem lw_r6 : ∀ q ∈ lw_privs_6, lw_okq q := List.forall_mem_cons.mpr ⟨lw_p80, fun _ h => absurd h List.not_mem_nil⟩
def lw_privs : List (MethodName × Nat) := lw_privs_1 ++ (lw_privs_2 ++ (lw_privs_3 ++ (lw_privs_4 ++ (lw_privs_5 ++ (lw_privs_6)))))
def lw_tbl : List Cond := k2_sels lw_privs ++ tables_1
theorem lw_privs_ok : ∀ q ∈ lw_privs, lw_okq q := by
  show ∀ q ∈ lw_privs_1 ++ (lw_privs_2 ++ (lw_privs_3 ++ (lw_privs_4 ++ (lw_privs_5 ++ (lw_privs_6))))), lw_okq q
  exact List.forall_mem_append.mpr ⟨lw_r1, List.forall_mem_append.mpr ⟨lw_r2, List.forall_mem_append.mpr ⟨lw_r3, List.forall_mem_append.mpr ⟨lw_r4, List.forall_mem_append.mpr ⟨lw_r5, lw_r6⟩⟩⟩⟩⟩
/-- the words that stay true wherever a method begins -/
def TBL : List Cond := lw_tbl.filter goodWord
def isNest (w : Cond) : Bool := match w with
  | .fieldLinkNest _ _ _ _ _ _ => true
  | .methodLinkNest _ _ _ _ => true
  | .arrayOver (.object _) => true
  | .arrayOver (.array _) => true
  | _ => false
/-- the links to private members of nest mates -/
def NST : List Cond := lw_tbl.filter isNest
theorem tb_w {w : Cond} (i : Nat) (h : lw_tbl[i]? = some w) (g : goodWord w = true) : w ∈ TBL := List.mem_filter.mpr ⟨List.mem_of_getElem? h, g⟩
theorem tb_n {w : Cond} (i : Nat) (h : lw_tbl[i]? = some w) (g : isNest w = true) : w ∈ NST := List.mem_filter.mpr ⟨List.mem_of_getElem? h, g⟩
theorem tb_of (ws : List Cond) (ps : List Nat) (hp : ws = ps.filterMap (fun i => lw_tbl[i]?)) (h : ws.all goodWord = true) : ∀ w ∈ ws, w ∈ TBL := by
  intro w hw
  have h1 := List.all_eq_true.mp h w hw
  rw [hp] at hw
  obtain ⟨i, -, hi⟩ := List.mem_filterMap.mp hw
  exact tb_w i hi h1
theorem tb_good : GoodIn TBL TBL := fun _ hw => ⟨hw, good_of_word (List.mem_filter.mp hw).2⟩
theorem tb_code {y : MethodName} {cc : ByteArray} {n : Nat} {r : Option FieldType} (h : Cond.code y cc n r ∈ TBL) : GoodIn TBL (Cond.code y cc n r :: TBL) := fun w hw => (List.mem_cons.mp hw).elim (fun e => by subst e; exact tb_good _ h) (tb_good w)
end
section
def RX0 : String := "LastScale$Book"
def TX0 : u_T := fun k => match k with
  | 0 => ("LastScale$Book", "sayings", "[[I", true)
  | 1 => ("LastScale$Book", "lifts", "[I", true)
  | 2 => ("LastScale$Book", "least", "[I", true)
  | 3 => ("LastScale$Book", "greatest", "[I", true)
  | 4 => ("LastScale$Book", "tolls", "[I", true)
  | 5 => ("LastScale$Book", "weights", "[I", true)
  | 6 => ("LastScale$Book", "sackCount", "I", false)
  | 7 => ("LastScale$Book", "sayingCount", "I", false)
  | _ => ("LastScale$Book", "lossPerLift", "I", false)
def tyX0 : Nat → FieldType := fun k => match k with
  | 0 => .array (.array .int)
  | 1 => .array .int
  | 2 => .array .int
  | 3 => .array .int
  | 4 => .array .int
  | 5 => .array .int
  | 6 => .int
  | 7 => .int
  | _ => .int
theorem nmX0 : ∀ a, a < 9 → ∀ b, b < 9 → a ≠ b → (TX0 a).2.1 ≠ (TX0 b).2.1 := by decide +kernel
theorem tyX0_ok : ∀ k, k < 9 → parseFieldDescriptor (TX0 k).2.2.1 = some (tyX0 k) := by decide +kernel
abbrev cX0_init : ByteArray := prog_2_method_1_code
def yX0_init : MethodName := ⟨RX0, "<init>", "()V"⟩
abbrev cX0_beginWith : ByteArray := prog_2_method_2_code
def yX0_beginWith : MethodName := ⟨RX0, "beginWith", "(I)V"⟩
abbrev cX0_has : ByteArray := prog_2_method_3_code
def yX0_has : MethodName := ⟨RX0, "has", "(I)Z"⟩
abbrev cX0_write : ByteArray := prog_2_method_4_code
def yX0_write : MethodName := ⟨RX0, "write", "(LLastScale$Pad;)V"⟩
abbrev cX0_addSaying : ByteArray := prog_2_method_5_code
def yX0_addSaying : MethodName := ⟨RX0, "addSaying", "(III)V"⟩
abbrev cX0_copyFrom : ByteArray := prog_2_method_6_code
def yX0_copyFrom : MethodName := ⟨RX0, "copyFrom", "(LLastScale$Book;)V"⟩
def RX1 : String := "LastScale$FalseSayings"
def TX1 : u_T := fun k => match k with
  | 0 => ("LastScale$FalseSayings", "fewest", "I", false)
  | 1 => ("LastScale$FalseSayings", "first", "I", false)
  | _ => ("LastScale$FalseSayings", "inEach", "I", false)
def tyX1 : Nat → FieldType := fun k => match k with
  | 0 => .int
  | 1 => .int
  | _ => .int
theorem nmX1 : ∀ a, a < 3 → ∀ b, b < 3 → a ≠ b → (TX1 a).2.1 ≠ (TX1 b).2.1 := by decide +kernel
theorem tyX1_ok : ∀ k, k < 3 → parseFieldDescriptor (TX1 k).2.2.1 = some (tyX1 k) := by decide +kernel
abbrev cX1_init : ByteArray := prog_3_method_1_code
def yX1_init : MethodName := ⟨RX1, "<init>", "()V"⟩
abbrev cX1_find : ByteArray := prog_3_method_2_code
def yX1_find : MethodName := ⟨RX1, "find", "(LLastScale$Book;LLastScale$Relation;)V"⟩
abbrev cX1_take : ByteArray := prog_3_method_3_code
def yX1_take : MethodName := ⟨RX1, "take", "(II)V"⟩
def RX2 : String := "LastScale$Pad"
def TX2 : u_T := fun k => match k with
  | 0 => ("LastScale$Pad", "signs", "[I", true)
  | _ => ("LastScale$Pad", "size", "I", false)
def tyX2 : Nat → FieldType := fun k => match k with
  | 0 => .array .int
  | _ => .int
theorem nmX2 : ∀ a, a < 2 → ∀ b, b < 2 → a ≠ b → (TX2 a).2.1 ≠ (TX2 b).2.1 := by decide +kernel
theorem tyX2_ok : ∀ k, k < 2 → parseFieldDescriptor (TX2 k).2.2.1 = some (tyX2 k) := by decide +kernel
abbrev cX2_init : ByteArray := prog_4_method_1_code
def yX2_init : MethodName := ⟨RX2, "<init>", "()V"⟩
abbrev cX2_put : ByteArray := prog_4_method_2_code
def yX2_put : MethodName := ⟨RX2, "put", "(I)V"⟩
abbrev cX2_clear : ByteArray := prog_4_method_3_code
def yX2_clear : MethodName := ⟨RX2, "clear", "()V"⟩
abbrev cX2_firstFault : ByteArray := prog_4_method_4_code
def yX2_firstFault : MethodName := ⟨RX2, "firstFault", "(I)I"⟩
abbrev cX2_mayStand : ByteArray := prog_4_method_5_code
def yX2_mayStand : MethodName := ⟨RX2, "mayStand", "(II)Z"⟩
abbrev cX2_sackAt : ByteArray := prog_4_method_6_code
def yX2_sackAt : MethodName := ⟨RX2, "sackAt", "(I)I"⟩
abbrev cX2_howAt : ByteArray := prog_4_method_7_code
def yX2_howAt : MethodName := ⟨RX2, "howAt", "(I)I"⟩
def RX3 : String := "LastScale$Planner"
def TX3 : u_T := fun k => match k with
  | 0 => ("LastScale$Planner", "groups", "I", true)
  | 1 => ("LastScale$Planner", "pairs", "I", true)
  | _ => ("LastScale$Planner", "found", "[I", true)
def tyX3 : Nat → FieldType := fun k => match k with
  | 0 => .int
  | 1 => .int
  | _ => .array .int
theorem nmX3 : ∀ a, a < 3 → ∀ b, b < 3 → a ≠ b → (TX3 a).2.1 ≠ (TX3 b).2.1 := by decide +kernel
theorem tyX3_ok : ∀ k, k < 3 → parseFieldDescriptor (TX3 k).2.2.1 = some (tyX3 k) := by decide +kernel
abbrev cX3_init : ByteArray := prog_5_method_1_code
def yX3_init : MethodName := ⟨RX3, "<init>", "(I)V"⟩
abbrev cX3_pair : ByteArray := prog_5_method_2_code
def yX3_pair : MethodName := ⟨RX3, "pair", "(II)I"⟩
abbrev cX3_isOpen : ByteArray := prog_5_method_3_code
def yX3_isOpen : MethodName := ⟨RX3, "isOpen", "(III)Z"⟩
abbrev cX3_isWhole : ByteArray := prog_5_method_4_code
def yX3_isWhole : MethodName := ⟨RX3, "isWhole", "(I)Z"⟩
abbrev cX3_fewestLifts : ByteArray := prog_5_method_5_code
def yX3_fewestLifts : MethodName := ⟨RX3, "fewestLifts", "(II)I"⟩
abbrev cX3_firstOf : ByteArray := prog_5_method_6_code
def yX3_firstOf : MethodName := ⟨RX3, "firstOf", "(III)I"⟩
abbrev cX3_costs : ByteArray := prog_5_method_7_code
def yX3_costs : MethodName := ⟨RX3, "costs", "(II)I"⟩
abbrev cX3_findCosts : ByteArray := prog_5_method_8_code
def yX3_findCosts : MethodName := ⟨RX3, "findCosts", "(II)I"⟩
abbrev cX3_withDetours : ByteArray := prog_5_method_9_code
def yX3_withDetours : MethodName := ⟨RX3, "withDetours", "(II)I"⟩
abbrev cX3_withLess : ByteArray := prog_5_method_10_code
def yX3_withLess : MethodName := ⟨RX3, "withLess", "(III)I"⟩
abbrev cX3_costOfLaying : ByteArray := prog_5_method_11_code
def yX3_costOfLaying : MethodName := ⟨RX3, "costOfLaying", "(III)I"⟩
abbrev cX3_worse : ByteArray := prog_5_method_12_code
def yX3_worse : MethodName := ⟨RX3, "worse", "(III)I"⟩
abbrev cX3_costWith : ByteArray := prog_5_method_13_code
def yX3_costWith : MethodName := ⟨RX3, "costWith", "(II)I"⟩
abbrev cX3_joined : ByteArray := prog_5_method_14_code
def yX3_joined : MethodName := ⟨RX3, "joined", "(III)I"⟩
abbrev cX3_codeOf : ByteArray := prog_5_method_15_code
def yX3_codeOf : MethodName := ⟨RX3, "codeOf", "(I)I"⟩
def RX4 : String := "LastScale$Relation"
def TX4 : u_T := fun k => match k with
  | 0 => ("LastScale$Relation", "noLess", "[I", true)
  | 1 => ("LastScale$Relation", "ways", "[I", true)
  | 2 => ("LastScale$Relation", "sackCount", "I", false)
  | _ => ("LastScale$Relation", "canBe", "Z", false)
def tyX4 : Nat → FieldType := fun k => match k with
  | 0 => .array .int
  | 1 => .array .int
  | 2 => .int
  | _ => .boolean
theorem nmX4 : ∀ a, a < 4 → ∀ b, b < 4 → a ≠ b → (TX4 a).2.1 ≠ (TX4 b).2.1 := by decide +kernel
theorem tyX4_ok : ∀ k, k < 4 → parseFieldDescriptor (TX4 k).2.2.1 = some (tyX4 k) := by decide +kernel
abbrev cX4_init : ByteArray := prog_6_method_1_code
def yX4_init : MethodName := ⟨RX4, "<init>", "()V"⟩
abbrev cX4_read : ByteArray := prog_6_method_2_code
def yX4_read : MethodName := ⟨RX4, "read", "(LLastScale$Book;I)V"⟩
abbrev cX4_believe : ByteArray := prog_6_method_3_code
def yX4_believe : MethodName := ⟨RX4, "believe", "([I)V"⟩
abbrev cX4_close : ByteArray := prog_6_method_4_code
def yX4_close : MethodName := ⟨RX4, "close", "()V"⟩
abbrev cX4_contradicts : ByteArray := prog_6_method_5_code
def yX4_contradicts : MethodName := ⟨RX4, "contradicts", "([I)Z"⟩
abbrev cX4_isNoLess : ByteArray := prog_6_method_6_code
def yX4_isNoLess : MethodName := ⟨RX4, "isNoLess", "(II)Z"⟩
abbrev cX4_isHeavier : ByteArray := prog_6_method_7_code
def yX4_isHeavier : MethodName := ⟨RX4, "isHeavier", "(II)Z"⟩
abbrev cX4_isAlike : ByteArray := prog_6_method_8_code
def yX4_isAlike : MethodName := ⟨RX4, "isAlike", "(II)Z"⟩
abbrev cX4_against : ByteArray := prog_6_method_9_code
def yX4_against : MethodName := ⟨RX4, "against", "(II)I"⟩
abbrev cX4_openPairs : ByteArray := prog_6_method_10_code
def yX4_openPairs : MethodName := ⟨RX4, "openPairs", "()I"⟩
abbrev cX4_isLeader : ByteArray := prog_6_method_11_code
def yX4_isLeader : MethodName := ⟨RX4, "isLeader", "(I)Z"⟩
abbrev cX4_leaders : ByteArray := prog_6_method_12_code
def yX4_leaders : MethodName := ⟨RX4, "leaders", "()I"⟩
abbrev cX4_groupCount : ByteArray := prog_6_method_13_code
def yX4_groupCount : MethodName := ⟨RX4, "groupCount", "()I"⟩
abbrev cX4_groupOf : ByteArray := prog_6_method_14_code
def yX4_groupOf : MethodName := ⟨RX4, "groupOf", "(I)I"⟩
abbrev cX4_leaderOf : ByteArray := prog_6_method_15_code
def yX4_leaderOf : MethodName := ⟨RX4, "leaderOf", "(I)I"⟩
abbrev cX4_heavierLeaders : ByteArray := prog_6_method_16_code
def yX4_heavierLeaders : MethodName := ⟨RX4, "heavierLeaders", "(I)I"⟩
abbrev cX4_leastRank : ByteArray := prog_6_method_17_code
def yX4_leastRank : MethodName := ⟨RX4, "leastRank", "(I)I"⟩
abbrev cX4_greatestRank : ByteArray := prog_6_method_18_code
def yX4_greatestRank : MethodName := ⟨RX4, "greatestRank", "(I)I"⟩
abbrev cX4_orderCount : ByteArray := prog_6_method_19_code
def yX4_orderCount : MethodName := ⟨RX4, "orderCount", "()I"⟩
abbrev cX4_waysToBegin : ByteArray := prog_6_method_20_code
def yX4_waysToBegin : MethodName := ⟨RX4, "waysToBegin", "(I)I"⟩
def RX5 : String := "LastScale$Spans"
def TX5 : u_T := fun k => match k with
  | 0 => ("LastScale$Spans", "low", "[I", true)
  | 1 => ("LastScale$Spans", "high", "[I", true)
  | _ => ("LastScale$Spans", "moved", "Z", false)
def tyX5 : Nat → FieldType := fun k => match k with
  | 0 => .array .int
  | 1 => .array .int
  | _ => .boolean
theorem nmX5 : ∀ a, a < 3 → ∀ b, b < 3 → a ≠ b → (TX5 a).2.1 ≠ (TX5 b).2.1 := by decide +kernel
theorem tyX5_ok : ∀ k, k < 3 → parseFieldDescriptor (TX5 k).2.2.1 = some (tyX5 k) := by decide +kernel
abbrev cX5_init : ByteArray := prog_7_method_1_code
def yX5_init : MethodName := ⟨RX5, "<init>", "()V"⟩
abbrev cX5_settle : ByteArray := prog_7_method_2_code
def yX5_settle : MethodName := ⟨RX5, "settle", "(LLastScale$Book;)Z"⟩
abbrev cX5_hear : ByteArray := prog_7_method_3_code
def yX5_hear : MethodName := ⟨RX5, "hear", "([II)V"⟩
abbrev cX5_keepAbove : ByteArray := prog_7_method_4_code
def yX5_keepAbove : MethodName := ⟨RX5, "keepAbove", "(III)V"⟩
abbrev cX5_allFit : ByteArray := prog_7_method_5_code
def yX5_allFit : MethodName := ⟨RX5, "allFit", "(I)Z"⟩
def RX6 : String := "LastScale$WeighedLine"
def TX6 : u_T := fun k => match k with
  | 0 => ("LastScale$WeighedLine", "line", "[I", true)
  | 1 => ("LastScale$WeighedLine", "length", "I", false)
  | 2 => ("LastScale$WeighedLine", "extremeNumber", "I", false)
  | _ => ("LastScale$WeighedLine", "extremeOpen", "I", false)
def tyX6 : Nat → FieldType := fun k => match k with
  | 0 => .array .int
  | 1 => .int
  | 2 => .int
  | _ => .int
theorem nmX6 : ∀ a, a < 4 → ∀ b, b < 4 → a ≠ b → (TX6 a).2.1 ≠ (TX6 b).2.1 := by decide +kernel
theorem tyX6_ok : ∀ k, k < 4 → parseFieldDescriptor (TX6 k).2.2.1 = some (tyX6 k) := by decide +kernel
abbrev cX6_init : ByteArray := prog_8_method_1_code
def yX6_init : MethodName := ⟨RX6, "<init>", "()V"⟩
abbrev cX6_readNumber : ByteArray := prog_8_method_2_code
def yX6_readNumber : MethodName := ⟨RX6, "readNumber", "(II)Z"⟩
abbrev cX6_number : ByteArray := prog_8_method_3_code
def yX6_number : MethodName := ⟨RX6, "number", "()I"⟩
abbrev cX6_pairsLeftOpen : ByteArray := prog_8_method_4_code
def yX6_pairsLeftOpen : MethodName := ⟨RX6, "pairsLeftOpen", "([I)I"⟩
abbrev cX6_findExtreme : ByteArray := prog_8_method_5_code
def yX6_findExtreme : MethodName := ⟨RX6, "findExtreme", "([IIZ)V"⟩
abbrev cX6_advance : ByteArray := prog_8_method_6_code
def yX6_advance : MethodName := ⟨RX6, "advance", "()Z"⟩
abbrev cX6_swap : ByteArray := prog_8_method_7_code
def yX6_swap : MethodName := ⟨RX6, "swap", "(II)V"⟩
def RX7 : String := "LastScale"
def TX7 : u_T := fun k => match k with
  | 0 => ("LastScale", "pad", "LLastScale$Pad;", true)
  | 1 => ("LastScale", "book", "LLastScale$Book;", true)
  | 2 => ("LastScale", "images", "[LLastScale$Book;", true)
  | 3 => ("LastScale", "relation", "LLastScale$Relation;", true)
  | 4 => ("LastScale", "spans", "LLastScale$Spans;", true)
  | 5 => ("LastScale", "falseSayings", "LLastScale$FalseSayings;", true)
  | 6 => ("LastScale", "weighedLine", "LLastScale$WeighedLine;", true)
  | _ => ("LastScale", "planners", "[LLastScale$Planner;", true)
def tyX7 : Nat → FieldType := fun k => match k with
  | 0 => .object "LastScale$Pad"
  | 1 => .object "LastScale$Book"
  | 2 => .array (.object "LastScale$Book")
  | 3 => .object "LastScale$Relation"
  | 4 => .object "LastScale$Spans"
  | 5 => .object "LastScale$FalseSayings"
  | 6 => .object "LastScale$WeighedLine"
  | _ => .array (.object "LastScale$Planner")
theorem nmX7 : ∀ a, a < 8 → ∀ b, b < 8 → a ≠ b → (TX7 a).2.1 ≠ (TX7 b).2.1 := by decide +kernel
theorem tyX7_ok : ∀ k, k < 8 → parseFieldDescriptor (TX7 k).2.2.1 = some (tyX7 k) := by decide +kernel
abbrev cX7_init : ByteArray := prog_1_method_1_code
def yX7_init : MethodName := ⟨RX7, "<init>", "()V"⟩
abbrev cX7_sacks : ByteArray := prog_1_method_2_code
def yX7_sacks : MethodName := ⟨RX7, "sacks", "(I)I"⟩
abbrev cX7_say : ByteArray := prog_1_method_3_code
def yX7_say : MethodName := ⟨RX7, "say", "(I)I"⟩
abbrev cX7_wipe : ByteArray := prog_1_method_4_code
def yX7_wipe : MethodName := ⟨RX7, "wipe", "()I"⟩
abbrev cX7_fault : ByteArray := prog_1_method_5_code
def yX7_fault : MethodName := ⟨RX7, "fault", "()I"⟩
abbrev cX7_line : ByteArray := prog_1_method_6_code
def yX7_line : MethodName := ⟨RX7, "line", "()I"⟩
abbrev cX7_strike : ByteArray := prog_1_method_7_code
def yX7_strike : MethodName := ⟨RX7, "strike", "()I"⟩
abbrev cX7_saying : ByteArray := prog_1_method_8_code
def yX7_saying : MethodName := ⟨RX7, "saying", "(II)I"⟩
abbrev cX7_follows : ByteArray := prog_1_method_9_code
def yX7_follows : MethodName := ⟨RX7, "follows", "(II)I"⟩
abbrev cX7_open : ByteArray := prog_1_method_10_code
def yX7_open : MethodName := ⟨RX7, "open", "(I)I"⟩
abbrev cX7_rank : ByteArray := prog_1_method_11_code
def yX7_rank : MethodName := ⟨RX7, "rank", "(II)I"⟩
abbrev cX7_orders : ByteArray := prog_1_method_12_code
def yX7_orders : MethodName := ⟨RX7, "orders", "()I"⟩
abbrev cX7_toll : ByteArray := prog_1_method_13_code
def yX7_toll : MethodName := ⟨RX7, "toll", "(II)I"⟩
abbrev cX7_pays : ByteArray := prog_1_method_14_code
def yX7_pays : MethodName := ⟨RX7, "pays", "(II)I"⟩
abbrev cX7_paymentOfAll : ByteArray := prog_1_method_15_code
def yX7_paymentOfAll : MethodName := ⟨RX7, "paymentOfAll", "(I)I"⟩
abbrev cX7_paymentOf : ByteArray := prog_1_method_16_code
def yX7_paymentOf : MethodName := ⟨RX7, "paymentOf", "(II)I"⟩
abbrev cX7_readBook : ByteArray := prog_1_method_17_code
def yX7_readBook : MethodName := ⟨RX7, "readBook", "()Z"⟩
abbrev cX7_isEnd : ByteArray := prog_1_method_18_code
def yX7_isEnd : MethodName := ⟨RX7, "isEnd", "(I)Z"⟩
abbrev cX7_more : ByteArray := prog_1_method_19_code
def yX7_more : MethodName := ⟨RX7, "more", "(II)I"⟩
abbrev cX7_plannerFor : ByteArray := prog_1_method_20_code
def yX7_plannerFor : MethodName := ⟨RX7, "plannerFor", "(I)LLastScale$Planner;"⟩
abbrev cX7_groupOrder : ByteArray := prog_1_method_21_code
def yX7_groupOrder : MethodName := ⟨RX7, "groupOrder", "(I)I"⟩
abbrev cX7_known : ByteArray := prog_1_method_22_code
def yX7_known : MethodName := ⟨RX7, "known", "(III)I"⟩
abbrev cX7_loss : ByteArray := prog_1_method_23_code
def yX7_loss : MethodName := ⟨RX7, "loss", "(I)I"⟩
abbrev cX7_span : ByteArray := prog_1_method_24_code
def yX7_span : MethodName := ⟨RX7, "span", "(II)I"⟩
abbrev cX7_lies : ByteArray := prog_1_method_25_code
def yX7_lies : MethodName := ⟨RX7, "lies", "(I)I"⟩
abbrev cX7_weight : ByteArray := prog_1_method_26_code
def yX7_weight : MethodName := ⟨RX7, "weight", "(II)I"⟩
abbrev cX7_leaves : ByteArray := prog_1_method_27_code
def yX7_leaves : MethodName := ⟨RX7, "leaves", "(I)I"⟩
abbrev cX7_lineBy : ByteArray := prog_1_method_28_code
def yX7_lineBy : MethodName := ⟨RX7, "lineBy", "(II)I"⟩
abbrev cX7_image : ByteArray := prog_1_method_29_code
def yX7_image : MethodName := ⟨RX7, "image", "(I)I"⟩
abbrev cX7_restore : ByteArray := prog_1_method_30_code
def yX7_restore : MethodName := ⟨RX7, "restore", "(I)I"⟩
abbrev cX7_told : ByteArray := prog_1_method_31_code
def yX7_told : MethodName := ⟨RX7, "told", "(I)I"⟩
abbrev cX7_toldOfRow : ByteArray := prog_1_method_32_code
def yX7_toldOfRow : MethodName := ⟨RX7, "toldOfRow", "(I)I"⟩
def RX8 : String := "LastScaleModel"
def TX8 : u_T := fun k => match k with
  | 0 => ("LastScaleModel", "sacks", "I", false)
  | 1 => ("LastScaleModel", "signs", "I", false)
  | 2 => ("LastScaleModel", "pad", "[I", true)
  | 3 => ("LastScaleModel", "sayings", "I", false)
  | 4 => ("LastScaleModel", "book", "[I", true)
  | 5 => ("LastScaleModel", "lifts", "[I", true)
  | 6 => ("LastScaleModel", "tolls", "[I", true)
  | 7 => ("LastScaleModel", "low", "[I", true)
  | 8 => ("LastScaleModel", "high", "[I", true)
  | 9 => ("LastScaleModel", "loss", "I", false)
  | 10 => ("LastScaleModel", "weights", "[I", true)
  | 11 => ("LastScaleModel", "over", "[Z", true)
  | 12 => ("LastScaleModel", "same", "[Z", true)
  | 13 => ("LastScaleModel", "groups", "I", false)
  | 14 => ("LastScaleModel", "group", "[I", true)
  | 15 => ("LastScaleModel", "groupOf", "[I", true)
  | 16 => ("LastScaleModel", "ways", "[I", true)
  | 17 => ("LastScaleModel", "stands", "I", false)
  | 18 => ("LastScaleModel", "known", "[I", true)
  | 19 => ("LastScaleModel", "lying", "[I", true)
  | 20 => ("LastScaleModel", "value", "[I", true)
  | 21 => ("LastScaleModel", "table", "[I", true)
  | 22 => ("LastScaleModel", "least", "[I", true)
  | 23 => ("LastScaleModel", "greatest", "[I", true)
  | 24 => ("LastScaleModel", "order", "[I", true)
  | 25 => ("LastScaleModel", "image", "[I", true)
  | _ => ("LastScaleModel", "isKept", "[Z", true)
def tyX8 : Nat → FieldType := fun k => match k with
  | 0 => .int
  | 1 => .int
  | 2 => .array .int
  | 3 => .int
  | 4 => .array .int
  | 5 => .array .int
  | 6 => .array .int
  | 7 => .array .int
  | 8 => .array .int
  | 9 => .int
  | 10 => .array .int
  | 11 => .array .boolean
  | 12 => .array .boolean
  | 13 => .int
  | 14 => .array .int
  | 15 => .array .int
  | 16 => .array .int
  | 17 => .int
  | 18 => .array .int
  | 19 => .array .int
  | 20 => .array .int
  | 21 => .array .int
  | 22 => .array .int
  | 23 => .array .int
  | 24 => .array .int
  | 25 => .array .int
  | _ => .array .boolean
theorem nmX8 : ∀ a, a < 27 → ∀ b, b < 27 → a ≠ b → (TX8 a).2.1 ≠ (TX8 b).2.1 := by decide +kernel
theorem tyX8_ok : ∀ k, k < 27 → parseFieldDescriptor (TX8 k).2.2.1 = some (tyX8 k) := by decide +kernel
abbrev cX8_init : ByteArray := prog_10_method_1_code
def yX8_init : MethodName := ⟨RX8, "<init>", "()V"⟩
abbrev cX8_in : ByteArray := prog_10_method_2_code
def yX8_in : MethodName := ⟨RX8, "in", "(III)Z"⟩
abbrev cX8_isSack : ByteArray := prog_10_method_3_code
def yX8_isSack : MethodName := ⟨RX8, "isSack", "(I)Z"⟩
abbrev cX8_sacks : ByteArray := prog_10_method_4_code
def yX8_sacks : MethodName := ⟨RX8, "sacks", "(I)I"⟩
abbrev cX8_say : ByteArray := prog_10_method_5_code
def yX8_say : MethodName := ⟨RX8, "say", "(I)I"⟩
abbrev cX8_wipe : ByteArray := prog_10_method_6_code
def yX8_wipe : MethodName := ⟨RX8, "wipe", "()I"⟩
abbrev cX8_faultOf : ByteArray := prog_10_method_7_code
def yX8_faultOf : MethodName := ⟨RX8, "faultOf", "()I"⟩
abbrev cX8_fault : ByteArray := prog_10_method_8_code
def yX8_fault : MethodName := ⟨RX8, "fault", "()I"⟩
abbrev cX8_line : ByteArray := prog_10_method_9_code
def yX8_line : MethodName := ⟨RX8, "line", "()I"⟩
abbrev cX8_strike : ByteArray := prog_10_method_10_code
def yX8_strike : MethodName := ⟨RX8, "strike", "()I"⟩
abbrev cX8_saying : ByteArray := prog_10_method_11_code
def yX8_saying : MethodName := ⟨RX8, "saying", "(II)I"⟩
abbrev cX8_clear : ByteArray := prog_10_method_12_code
def yX8_clear : MethodName := ⟨RX8, "clear", "()V"⟩
abbrev cX8_put : ByteArray := prog_10_method_13_code
def yX8_put : MethodName := ⟨RX8, "put", "(III)V"⟩
abbrev cX8_close : ByteArray := prog_10_method_14_code
def yX8_close : MethodName := ⟨RX8, "close", "()Z"⟩
abbrev cX8_follow : ByteArray := prog_10_method_15_code
def yX8_follow : MethodName := ⟨RX8, "follow", "(I)Z"⟩
abbrev cX8_followAll : ByteArray := prog_10_method_16_code
def yX8_followAll : MethodName := ⟨RX8, "followAll", "()Z"⟩
abbrev cX8_isOpen : ByteArray := prog_10_method_17_code
def yX8_isOpen : MethodName := ⟨RX8, "isOpen", "(II)Z"⟩
abbrev cX8_follows : ByteArray := prog_10_method_18_code
def yX8_follows : MethodName := ⟨RX8, "follows", "(II)I"⟩
abbrev cX8_openPairs : ByteArray := prog_10_method_19_code
def yX8_openPairs : MethodName := ⟨RX8, "openPairs", "()I"⟩
abbrev cX8_layGroups : ByteArray := prog_10_method_20_code
def yX8_layGroups : MethodName := ⟨RX8, "layGroups", "()V"⟩
abbrev cX8_open : ByteArray := prog_10_method_21_code
def yX8_open : MethodName := ⟨RX8, "open", "(I)I"⟩
abbrev cX8_rankOf : ByteArray := prog_10_method_22_code
def yX8_rankOf : MethodName := ⟨RX8, "rankOf", "(II)I"⟩
abbrev cX8_rank : ByteArray := prog_10_method_23_code
def yX8_rank : MethodName := ⟨RX8, "rank", "(II)I"⟩
abbrev cX8_orders : ByteArray := prog_10_method_24_code
def yX8_orders : MethodName := ⟨RX8, "orders", "()I"⟩
abbrev cX8_toll : ByteArray := prog_10_method_25_code
def yX8_toll : MethodName := ⟨RX8, "toll", "(II)I"⟩
abbrev cX8_paysOf : ByteArray := prog_10_method_26_code
def yX8_paysOf : MethodName := ⟨RX8, "paysOf", "(II)I"⟩
abbrev cX8_pays : ByteArray := prog_10_method_27_code
def yX8_pays : MethodName := ⟨RX8, "pays", "(II)I"⟩
abbrev cX8_slot : ByteArray := prog_10_method_28_code
def yX8_slot : MethodName := ⟨RX8, "slot", "(II)I"⟩
abbrev cX8_stand : ByteArray := prog_10_method_29_code
def yX8_stand : MethodName := ⟨RX8, "stand", "(II)I"⟩
abbrev cX8_isOver : ByteArray := prog_10_method_30_code
def yX8_isOver : MethodName := ⟨RX8, "isOver", "(III)Z"⟩
abbrev cX8_with : ByteArray := prog_10_method_31_code
def yX8_with : MethodName := ⟨RX8, "with", "(III)I"⟩
abbrev cX8_isWhole : ByteArray := prog_10_method_32_code
def yX8_isWhole : MethodName := ⟨RX8, "isWhole", "(I)Z"⟩
abbrev cX8_laid : ByteArray := prog_10_method_33_code
def yX8_laid : MethodName := ⟨RX8, "laid", "(III)I"⟩
abbrev cX8_layStands : ByteArray := prog_10_method_34_code
def yX8_layStands : MethodName := ⟨RX8, "layStands", "(II)V"⟩
abbrev cX8_does : ByteArray := prog_10_method_35_code
def yX8_does : MethodName := ⟨RX8, "does", "(III)Z"⟩
abbrev cX8_layValues : ByteArray := prog_10_method_36_code
def yX8_layValues : MethodName := ⟨RX8, "layValues", "()V"⟩
abbrev cX8_more : ByteArray := prog_10_method_37_code
def yX8_more : MethodName := ⟨RX8, "more", "(II)I"⟩
abbrev cX8_known : ByteArray := prog_10_method_38_code
def yX8_known : MethodName := ⟨RX8, "known", "(III)I"⟩
abbrev cX8_loss : ByteArray := prog_10_method_39_code
def yX8_loss : MethodName := ⟨RX8, "loss", "(I)I"⟩
abbrev cX8_press : ByteArray := prog_10_method_40_code
def yX8_press : MethodName := ⟨RX8, "press", "(III)Z"⟩
abbrev cX8_canSpan : ByteArray := prog_10_method_41_code
def yX8_canSpan : MethodName := ⟨RX8, "canSpan", "()Z"⟩
abbrev cX8_laySpans : ByteArray := prog_10_method_42_code
def yX8_laySpans : MethodName := ⟨RX8, "laySpans", "()Z"⟩
abbrev cX8_span : ByteArray := prog_10_method_43_code
def yX8_span : MethodName := ⟨RX8, "span", "(II)I"⟩
abbrev cX8_bits : ByteArray := prog_10_method_44_code
def yX8_bits : MethodName := ⟨RX8, "bits", "(I)I"⟩
abbrev cX8_lies : ByteArray := prog_10_method_45_code
def yX8_lies : MethodName := ⟨RX8, "lies", "(I)I"⟩
abbrev cX8_weight : ByteArray := prog_10_method_46_code
def yX8_weight : MethodName := ⟨RX8, "weight", "(II)I"⟩
abbrev cX8_layOrder : ByteArray := prog_10_method_47_code
def yX8_layOrder : MethodName := ⟨RX8, "layOrder", "(II)Z"⟩
abbrev cX8_leftOpen : ByteArray := prog_10_method_48_code
def yX8_leftOpen : MethodName := ⟨RX8, "leftOpen", "()I"⟩
abbrev cX8_leaves : ByteArray := prog_10_method_49_code
def yX8_leaves : MethodName := ⟨RX8, "leaves", "(I)I"⟩
abbrev cX8_lineBy : ByteArray := prog_10_method_50_code
def yX8_lineBy : MethodName := ⟨RX8, "lineBy", "(II)I"⟩
abbrev cX8_image : ByteArray := prog_10_method_51_code
def yX8_image : MethodName := ⟨RX8, "image", "(I)I"⟩
abbrev cX8_restore : ByteArray := prog_10_method_52_code
def yX8_restore : MethodName := ⟨RX8, "restore", "(I)I"⟩
abbrev cX8_told : ByteArray := prog_10_method_53_code
def yX8_told : MethodName := ⟨RX8, "told", "(I)I"⟩
def RJ6 : String := "java/lang/Integer"
abbrev cJ6_compare_7cf53 : ByteArray := prog_11_method_40_code
def yJ6_compare_7cf53 : MethodName := ⟨RJ6, "compare", "(II)I"⟩
abbrev cJ6_bitCount_0f7a4 : ByteArray := prog_11_method_49_code
def yJ6_bitCount_0f7a4 : MethodName := ⟨RJ6, "bitCount", "(I)I"⟩
def RJ9 : String := "java/lang/Math"
abbrev cJ9_max_7cf53 : ByteArray := prog_12_method_65_code
def yJ9_max_7cf53 : MethodName := ⟨RJ9, "max", "(II)I"⟩
abbrev cJ9_min_7cf53 : ByteArray := prog_12_method_69_code
def yJ9_min_7cf53 : MethodName := ⟨RJ9, "min", "(II)I"⟩
def RJ10 : String := "java/lang/System"
abbrev vwCl : List vw_C := [(RX0, TX0, 9), (RX1, TX1, 3), (RX2, TX2, 2), (RX3, TX3, 3), (RX4, TX4, 4), (RX5, TX5, 3), (RX6, TX6, 4), (RX7, TX7, 8), (RX8, TX8, 27)]
set_option maxRecDepth 20000 in
theorem inX0 : ∀ w ∈ u_ws RX0 TX0 9, w ∈ TBL := tb_of _ [158, 160, 162, 164, 166, 168, 170, 172, 174] (by decide +kernel) (by decide +kernel)
set_option maxRecDepth 20000 in
theorem inX1 : ∀ w ∈ u_ws RX1 TX1 3, w ∈ TBL := tb_of _ [229, 231, 233] (by decide +kernel) (by decide +kernel)
set_option maxRecDepth 20000 in
theorem inX2 : ∀ w ∈ u_ws RX2 TX2 2, w ∈ TBL := tb_of _ [112, 114] (by decide +kernel) (by decide +kernel)
set_option maxRecDepth 20000 in
theorem inX3 : ∀ w ∈ u_ws RX3 TX3 3, w ∈ TBL := tb_of _ [490, 492, 494] (by decide +kernel) (by decide +kernel)
set_option maxRecDepth 20000 in
theorem inX4 : ∀ w ∈ u_ws RX4 TX4 4, w ∈ TBL := tb_of _ [190, 192, 194, 196] (by decide +kernel) (by decide +kernel)
set_option maxRecDepth 20000 in
theorem inX5 : ∀ w ∈ u_ws RX5 TX5 3, w ∈ TBL := tb_of _ [210, 212, 214] (by decide +kernel) (by decide +kernel)
set_option maxRecDepth 20000 in
theorem inX6 : ∀ w ∈ u_ws RX6 TX6 4, w ∈ TBL := tb_of _ [248, 250, 252, 254] (by decide +kernel) (by decide +kernel)
set_option maxRecDepth 20000 in
theorem inX7 : ∀ w ∈ u_ws RX7 TX7 8, w ∈ TBL := tb_of _ [267, 269, 271, 273, 275, 277, 279, 281] (by decide +kernel) (by decide +kernel)
set_option maxRecDepth 20000 in
theorem inX8 : ∀ w ∈ u_ws RX8 TX8 27, w ∈ TBL := tb_of _ [703, 705, 707, 709, 711, 713, 715, 717, 719, 721, 723, 725, 727, 729, 731, 733, 735, 737, 739, 741, 743, 745, 747, 749, 751, 753, 755] (by decide +kernel) (by decide +kernel)
def At (cc : ByteArray) (pc : Nat) (i : Instr) (len n : Nat) : Prop := decode cc pc = .ok (i, len) ∧ pc + len = n
end
section
theorem aJ6_bitCount_0f7a4_0 : At cJ6_bitCount_0f7a4 0 (.iload_n 0) 1 1 := ⟨by decide +kernel, rfl⟩
theorem aJ6_bitCount_0f7a4_1 : At cJ6_bitCount_0f7a4 1 (.iload_n 0) 1 2 := ⟨by decide +kernel, rfl⟩
theorem aJ6_bitCount_0f7a4_2 : At cJ6_bitCount_0f7a4 2 (.iconst 1) 1 3 := ⟨by decide +kernel, rfl⟩
theorem aJ6_bitCount_0f7a4_3 : At cJ6_bitCount_0f7a4 3 .iushr 1 4 := ⟨by decide +kernel, rfl⟩
theorem aJ6_bitCount_0f7a4_4 : At cJ6_bitCount_0f7a4 4 (.ldc_w 265) 3 7 := ⟨by decide +kernel, rfl⟩
theorem aJ6_bitCount_0f7a4_7 : At cJ6_bitCount_0f7a4 7 .iand 1 8 := ⟨by decide +kernel, rfl⟩
theorem aJ6_bitCount_0f7a4_8 : At cJ6_bitCount_0f7a4 8 .isub 1 9 := ⟨by decide +kernel, rfl⟩
theorem aJ6_bitCount_0f7a4_9 : At cJ6_bitCount_0f7a4 9 (.istore_n 0) 1 10 := ⟨by decide +kernel, rfl⟩
theorem aJ6_bitCount_0f7a4_10 : At cJ6_bitCount_0f7a4 10 (.iload_n 0) 1 11 := ⟨by decide +kernel, rfl⟩
theorem aJ6_bitCount_0f7a4_11 : At cJ6_bitCount_0f7a4 11 (.ldc_w 266) 3 14 := ⟨by decide +kernel, rfl⟩
theorem aJ6_bitCount_0f7a4_14 : At cJ6_bitCount_0f7a4 14 .iand 1 15 := ⟨by decide +kernel, rfl⟩
theorem aJ6_bitCount_0f7a4_15 : At cJ6_bitCount_0f7a4 15 (.iload_n 0) 1 16 := ⟨by decide +kernel, rfl⟩
theorem aJ6_bitCount_0f7a4_16 : At cJ6_bitCount_0f7a4 16 (.iconst 2) 1 17 := ⟨by decide +kernel, rfl⟩
theorem aJ6_bitCount_0f7a4_17 : At cJ6_bitCount_0f7a4 17 .iushr 1 18 := ⟨by decide +kernel, rfl⟩
theorem aJ6_bitCount_0f7a4_18 : At cJ6_bitCount_0f7a4 18 (.ldc_w 266) 3 21 := ⟨by decide +kernel, rfl⟩
theorem aJ6_bitCount_0f7a4_21 : At cJ6_bitCount_0f7a4 21 .iand 1 22 := ⟨by decide +kernel, rfl⟩
theorem aJ6_bitCount_0f7a4_22 : At cJ6_bitCount_0f7a4 22 .iadd 1 23 := ⟨by decide +kernel, rfl⟩
theorem aJ6_bitCount_0f7a4_23 : At cJ6_bitCount_0f7a4 23 (.istore_n 0) 1 24 := ⟨by decide +kernel, rfl⟩
theorem aJ6_bitCount_0f7a4_24 : At cJ6_bitCount_0f7a4 24 (.iload_n 0) 1 25 := ⟨by decide +kernel, rfl⟩
theorem aJ6_bitCount_0f7a4_25 : At cJ6_bitCount_0f7a4 25 (.iload_n 0) 1 26 := ⟨by decide +kernel, rfl⟩
theorem aJ6_bitCount_0f7a4_26 : At cJ6_bitCount_0f7a4 26 (.iconst 4) 1 27 := ⟨by decide +kernel, rfl⟩
theorem aJ6_bitCount_0f7a4_27 : At cJ6_bitCount_0f7a4 27 .iushr 1 28 := ⟨by decide +kernel, rfl⟩
theorem aJ6_bitCount_0f7a4_28 : At cJ6_bitCount_0f7a4 28 .iadd 1 29 := ⟨by decide +kernel, rfl⟩
theorem aJ6_bitCount_0f7a4_29 : At cJ6_bitCount_0f7a4 29 (.ldc_w 267) 3 32 := ⟨by decide +kernel, rfl⟩
theorem aJ6_bitCount_0f7a4_32 : At cJ6_bitCount_0f7a4 32 .iand 1 33 := ⟨by decide +kernel, rfl⟩
theorem aJ6_bitCount_0f7a4_33 : At cJ6_bitCount_0f7a4 33 (.istore_n 0) 1 34 := ⟨by decide +kernel, rfl⟩
theorem aJ6_bitCount_0f7a4_34 : At cJ6_bitCount_0f7a4 34 (.iload_n 0) 1 35 := ⟨by decide +kernel, rfl⟩
theorem aJ6_bitCount_0f7a4_35 : At cJ6_bitCount_0f7a4 35 (.iload_n 0) 1 36 := ⟨by decide +kernel, rfl⟩
theorem aJ6_bitCount_0f7a4_36 : At cJ6_bitCount_0f7a4 36 (.bipush 8) 2 38 := ⟨by decide +kernel, rfl⟩
theorem aJ6_bitCount_0f7a4_38 : At cJ6_bitCount_0f7a4 38 .iushr 1 39 := ⟨by decide +kernel, rfl⟩
theorem aJ6_bitCount_0f7a4_39 : At cJ6_bitCount_0f7a4 39 .iadd 1 40 := ⟨by decide +kernel, rfl⟩
theorem aJ6_bitCount_0f7a4_40 : At cJ6_bitCount_0f7a4 40 (.istore_n 0) 1 41 := ⟨by decide +kernel, rfl⟩
theorem aJ6_bitCount_0f7a4_41 : At cJ6_bitCount_0f7a4 41 (.iload_n 0) 1 42 := ⟨by decide +kernel, rfl⟩
theorem aJ6_bitCount_0f7a4_42 : At cJ6_bitCount_0f7a4 42 (.iload_n 0) 1 43 := ⟨by decide +kernel, rfl⟩
theorem aJ6_bitCount_0f7a4_43 : At cJ6_bitCount_0f7a4 43 (.bipush 16) 2 45 := ⟨by decide +kernel, rfl⟩
theorem aJ6_bitCount_0f7a4_45 : At cJ6_bitCount_0f7a4 45 .iushr 1 46 := ⟨by decide +kernel, rfl⟩
theorem aJ6_bitCount_0f7a4_46 : At cJ6_bitCount_0f7a4 46 .iadd 1 47 := ⟨by decide +kernel, rfl⟩
theorem aJ6_bitCount_0f7a4_47 : At cJ6_bitCount_0f7a4 47 (.istore_n 0) 1 48 := ⟨by decide +kernel, rfl⟩
theorem aJ6_bitCount_0f7a4_48 : At cJ6_bitCount_0f7a4 48 (.iload_n 0) 1 49 := ⟨by decide +kernel, rfl⟩
theorem aJ6_bitCount_0f7a4_49 : At cJ6_bitCount_0f7a4 49 (.bipush 63) 2 51 := ⟨by decide +kernel, rfl⟩
theorem aJ6_bitCount_0f7a4_51 : At cJ6_bitCount_0f7a4 51 .iand 1 52 := ⟨by decide +kernel, rfl⟩
theorem aJ6_bitCount_0f7a4_52 : At cJ6_bitCount_0f7a4 52 .ireturn 1 53 := ⟨by decide +kernel, rfl⟩
theorem aJ6_compare_7cf53_0 : At cJ6_compare_7cf53 0 (.iload_n 0) 1 1 := ⟨by decide +kernel, rfl⟩
theorem aJ6_compare_7cf53_1 : At cJ6_compare_7cf53 1 (.iload_n 1) 1 2 := ⟨by decide +kernel, rfl⟩
theorem aJ6_compare_7cf53_2 : At cJ6_compare_7cf53 2 (.if_icmp .ge 7) 3 5 := ⟨by decide +kernel, rfl⟩
theorem aJ6_compare_7cf53_5 : At cJ6_compare_7cf53 5 (.iconst (-1)) 1 6 := ⟨by decide +kernel, rfl⟩
theorem aJ6_compare_7cf53_6 : At cJ6_compare_7cf53 6 (.goto 13) 3 9 := ⟨by decide +kernel, rfl⟩
theorem aJ6_compare_7cf53_9 : At cJ6_compare_7cf53 9 (.iload_n 0) 1 10 := ⟨by decide +kernel, rfl⟩
theorem aJ6_compare_7cf53_10 : At cJ6_compare_7cf53 10 (.iload_n 1) 1 11 := ⟨by decide +kernel, rfl⟩
theorem aJ6_compare_7cf53_11 : At cJ6_compare_7cf53 11 (.if_icmp .ne 7) 3 14 := ⟨by decide +kernel, rfl⟩
theorem aJ6_compare_7cf53_14 : At cJ6_compare_7cf53 14 (.iconst 0) 1 15 := ⟨by decide +kernel, rfl⟩
theorem aJ6_compare_7cf53_15 : At cJ6_compare_7cf53 15 (.goto 4) 3 18 := ⟨by decide +kernel, rfl⟩
theorem aJ6_compare_7cf53_18 : At cJ6_compare_7cf53 18 (.iconst 1) 1 19 := ⟨by decide +kernel, rfl⟩
theorem aJ6_compare_7cf53_19 : At cJ6_compare_7cf53 19 .ireturn 1 20 := ⟨by decide +kernel, rfl⟩
theorem aJ9_max_7cf53_0 : At cJ9_max_7cf53 0 (.iload_n 0) 1 1 := ⟨by decide +kernel, rfl⟩
theorem aJ9_max_7cf53_1 : At cJ9_max_7cf53 1 (.iload_n 1) 1 2 := ⟨by decide +kernel, rfl⟩
theorem aJ9_max_7cf53_2 : At cJ9_max_7cf53 2 (.if_icmp .lt 7) 3 5 := ⟨by decide +kernel, rfl⟩
theorem aJ9_max_7cf53_5 : At cJ9_max_7cf53 5 (.iload_n 0) 1 6 := ⟨by decide +kernel, rfl⟩
theorem aJ9_max_7cf53_6 : At cJ9_max_7cf53 6 (.goto 4) 3 9 := ⟨by decide +kernel, rfl⟩
theorem aJ9_max_7cf53_9 : At cJ9_max_7cf53 9 (.iload_n 1) 1 10 := ⟨by decide +kernel, rfl⟩
theorem aJ9_max_7cf53_10 : At cJ9_max_7cf53 10 .ireturn 1 11 := ⟨by decide +kernel, rfl⟩
theorem aJ9_min_7cf53_0 : At cJ9_min_7cf53 0 (.iload_n 0) 1 1 := ⟨by decide +kernel, rfl⟩
theorem aJ9_min_7cf53_1 : At cJ9_min_7cf53 1 (.iload_n 1) 1 2 := ⟨by decide +kernel, rfl⟩
theorem aJ9_min_7cf53_2 : At cJ9_min_7cf53 2 (.if_icmp .gt 7) 3 5 := ⟨by decide +kernel, rfl⟩
theorem aJ9_min_7cf53_5 : At cJ9_min_7cf53 5 (.iload_n 0) 1 6 := ⟨by decide +kernel, rfl⟩
theorem aJ9_min_7cf53_6 : At cJ9_min_7cf53 6 (.goto 4) 3 9 := ⟨by decide +kernel, rfl⟩
theorem aJ9_min_7cf53_9 : At cJ9_min_7cf53 9 (.iload_n 1) 1 10 := ⟨by decide +kernel, rfl⟩
theorem aJ9_min_7cf53_10 : At cJ9_min_7cf53 10 .ireturn 1 11 := ⟨by decide +kernel, rfl⟩
theorem aX0_addSaying_0 : At cX0_addSaying 0 (.aload_n 0) 1 1 := ⟨by decide +kernel, rfl⟩
theorem aX0_addSaying_1 : At cX0_addSaying 1 (.getfield 40) 3 4 := ⟨by decide +kernel, rfl⟩
theorem aX0_addSaying_4 : At cX0_addSaying 4 (.bipush 12) 2 6 := ⟨by decide +kernel, rfl⟩
theorem aX0_addSaying_6 : At cX0_addSaying 6 (.if_icmp .lt 4) 3 9 := ⟨by decide +kernel, rfl⟩
theorem aX0_addSaying_9 : At cX0_addSaying 9 .return_ 1 10 := ⟨by decide +kernel, rfl⟩
theorem aX0_addSaying_10 : At cX0_addSaying 10 (.aload_n 0) 1 11 := ⟨by decide +kernel, rfl⟩
theorem aX0_addSaying_11 : At cX0_addSaying 11 (.getfield 11) 3 14 := ⟨by decide +kernel, rfl⟩
theorem aX0_addSaying_14 : At cX0_addSaying 14 (.aload_n 0) 1 15 := ⟨by decide +kernel, rfl⟩
theorem aX0_addSaying_15 : At cX0_addSaying 15 (.getfield 40) 3 18 := ⟨by decide +kernel, rfl⟩
theorem aX0_addSaying_18 : At cX0_addSaying 18 .aaload 1 19 := ⟨by decide +kernel, rfl⟩
theorem aX0_addSaying_19 : At cX0_addSaying 19 (.astore 4) 2 21 := ⟨by decide +kernel, rfl⟩
theorem aX0_addSaying_21 : At cX0_addSaying 21 (.aload 4) 2 23 := ⟨by decide +kernel, rfl⟩
theorem aX0_addSaying_23 : At cX0_addSaying 23 (.iconst 0) 1 24 := ⟨by decide +kernel, rfl⟩
theorem aX0_addSaying_24 : At cX0_addSaying 24 (.iload_n 1) 1 25 := ⟨by decide +kernel, rfl⟩
theorem aX0_addSaying_25 : At cX0_addSaying 25 .iastore 1 26 := ⟨by decide +kernel, rfl⟩
theorem aX0_addSaying_26 : At cX0_addSaying 26 (.aload 4) 2 28 := ⟨by decide +kernel, rfl⟩
theorem aX0_addSaying_28 : At cX0_addSaying 28 (.iconst 1) 1 29 := ⟨by decide +kernel, rfl⟩
theorem aX0_addSaying_29 : At cX0_addSaying 29 (.iload_n 2) 1 30 := ⟨by decide +kernel, rfl⟩
theorem aX0_addSaying_30 : At cX0_addSaying 30 .iastore 1 31 := ⟨by decide +kernel, rfl⟩
theorem aX0_addSaying_31 : At cX0_addSaying 31 (.aload 4) 2 33 := ⟨by decide +kernel, rfl⟩
theorem aX0_addSaying_33 : At cX0_addSaying 33 (.iconst 2) 1 34 := ⟨by decide +kernel, rfl⟩
theorem aX0_addSaying_34 : At cX0_addSaying 34 (.iload_n 3) 1 35 := ⟨by decide +kernel, rfl⟩
theorem aX0_addSaying_35 : At cX0_addSaying 35 .iastore 1 36 := ⟨by decide +kernel, rfl⟩
theorem aX0_addSaying_36 : At cX0_addSaying 36 (.aload 4) 2 38 := ⟨by decide +kernel, rfl⟩
theorem aX0_addSaying_38 : At cX0_addSaying 38 (.iconst 3) 1 39 := ⟨by decide +kernel, rfl⟩
theorem aX0_addSaying_39 : At cX0_addSaying 39 (.aload_n 0) 1 40 := ⟨by decide +kernel, rfl⟩
theorem aX0_addSaying_40 : At cX0_addSaying 40 (.getfield 16) 3 43 := ⟨by decide +kernel, rfl⟩
theorem aX0_addSaying_43 : At cX0_addSaying 43 (.iload_n 1) 1 44 := ⟨by decide +kernel, rfl⟩
theorem aX0_addSaying_44 : At cX0_addSaying 44 .iaload 1 45 := ⟨by decide +kernel, rfl⟩
theorem aX0_addSaying_45 : At cX0_addSaying 45 .iastore 1 46 := ⟨by decide +kernel, rfl⟩
theorem aX0_addSaying_46 : At cX0_addSaying 46 (.aload 4) 2 48 := ⟨by decide +kernel, rfl⟩
theorem aX0_addSaying_48 : At cX0_addSaying 48 (.iconst 4) 1 49 := ⟨by decide +kernel, rfl⟩
theorem aX0_addSaying_49 : At cX0_addSaying 49 (.aload_n 0) 1 50 := ⟨by decide +kernel, rfl⟩
theorem aX0_addSaying_50 : At cX0_addSaying 50 (.getfield 16) 3 53 := ⟨by decide +kernel, rfl⟩
theorem aX0_addSaying_53 : At cX0_addSaying 53 (.iload_n 2) 1 54 := ⟨by decide +kernel, rfl⟩
theorem aX0_addSaying_54 : At cX0_addSaying 54 .iaload 1 55 := ⟨by decide +kernel, rfl⟩
theorem aX0_addSaying_55 : At cX0_addSaying 55 .iastore 1 56 := ⟨by decide +kernel, rfl⟩
theorem aX0_addSaying_56 : At cX0_addSaying 56 (.aload_n 0) 1 57 := ⟨by decide +kernel, rfl⟩
theorem aX0_addSaying_57 : At cX0_addSaying 57 .dup 1 58 := ⟨by decide +kernel, rfl⟩
theorem aX0_addSaying_58 : At cX0_addSaying 58 (.getfield 40) 3 61 := ⟨by decide +kernel, rfl⟩
theorem aX0_addSaying_61 : At cX0_addSaying 61 (.iconst 1) 1 62 := ⟨by decide +kernel, rfl⟩
theorem aX0_addSaying_62 : At cX0_addSaying 62 .iadd 1 63 := ⟨by decide +kernel, rfl⟩
theorem aX0_addSaying_63 : At cX0_addSaying 63 (.putfield 40) 3 66 := ⟨by decide +kernel, rfl⟩
theorem aX0_addSaying_66 : At cX0_addSaying 66 .return_ 1 67 := ⟨by decide +kernel, rfl⟩
theorem aX0_beginWith_0 : At cX0_beginWith 0 (.aload_n 0) 1 1 := ⟨by decide +kernel, rfl⟩
theorem aX0_beginWith_1 : At cX0_beginWith 1 (.iload_n 1) 1 2 := ⟨by decide +kernel, rfl⟩
theorem aX0_beginWith_2 : At cX0_beginWith 2 (.putfield 36) 3 5 := ⟨by decide +kernel, rfl⟩
theorem aX0_beginWith_5 : At cX0_beginWith 5 (.aload_n 0) 1 6 := ⟨by decide +kernel, rfl⟩
theorem aX0_beginWith_6 : At cX0_beginWith 6 (.iconst 0) 1 7 := ⟨by decide +kernel, rfl⟩
theorem aX0_beginWith_7 : At cX0_beginWith 7 (.putfield 40) 3 10 := ⟨by decide +kernel, rfl⟩
theorem aX0_beginWith_10 : At cX0_beginWith 10 (.iconst 0) 1 11 := ⟨by decide +kernel, rfl⟩
theorem aX0_beginWith_11 : At cX0_beginWith 11 (.istore_n 2) 1 12 := ⟨by decide +kernel, rfl⟩
theorem aX0_beginWith_12 : At cX0_beginWith 12 (.iload_n 2) 1 13 := ⟨by decide +kernel, rfl⟩
theorem aX0_beginWith_13 : At cX0_beginWith 13 (.bipush 6) 2 15 := ⟨by decide +kernel, rfl⟩
theorem aX0_beginWith_15 : At cX0_beginWith 15 (.if_icmp .ge 32) 3 18 := ⟨by decide +kernel, rfl⟩
theorem aX0_beginWith_18 : At cX0_beginWith 18 (.aload_n 0) 1 19 := ⟨by decide +kernel, rfl⟩
theorem aX0_beginWith_19 : At cX0_beginWith 19 (.getfield 16) 3 22 := ⟨by decide +kernel, rfl⟩
theorem aX0_beginWith_22 : At cX0_beginWith 22 (.iload_n 2) 1 23 := ⟨by decide +kernel, rfl⟩
theorem aX0_beginWith_23 : At cX0_beginWith 23 (.iconst 0) 1 24 := ⟨by decide +kernel, rfl⟩
theorem aX0_beginWith_24 : At cX0_beginWith 24 .iastore 1 25 := ⟨by decide +kernel, rfl⟩
theorem aX0_beginWith_25 : At cX0_beginWith 25 (.aload_n 0) 1 26 := ⟨by decide +kernel, rfl⟩
theorem aX0_beginWith_26 : At cX0_beginWith 26 (.getfield 20) 3 29 := ⟨by decide +kernel, rfl⟩
theorem aX0_beginWith_29 : At cX0_beginWith 29 (.iload_n 2) 1 30 := ⟨by decide +kernel, rfl⟩
theorem aX0_beginWith_30 : At cX0_beginWith 30 (.iconst 0) 1 31 := ⟨by decide +kernel, rfl⟩
theorem aX0_beginWith_31 : At cX0_beginWith 31 .iastore 1 32 := ⟨by decide +kernel, rfl⟩
theorem aX0_beginWith_32 : At cX0_beginWith 32 (.aload_n 0) 1 33 := ⟨by decide +kernel, rfl⟩
theorem aX0_beginWith_33 : At cX0_beginWith 33 (.getfield 23) 3 36 := ⟨by decide +kernel, rfl⟩
theorem aX0_beginWith_36 : At cX0_beginWith 36 (.iload_n 2) 1 37 := ⟨by decide +kernel, rfl⟩
theorem aX0_beginWith_37 : At cX0_beginWith 37 (.sipush 999) 3 40 := ⟨by decide +kernel, rfl⟩
theorem aX0_beginWith_40 : At cX0_beginWith 40 .iastore 1 41 := ⟨by decide +kernel, rfl⟩
theorem aX0_beginWith_41 : At cX0_beginWith 41 (.iinc 2 1) 3 44 := ⟨by decide +kernel, rfl⟩
theorem aX0_beginWith_44 : At cX0_beginWith 44 (.goto (-32)) 3 47 := ⟨by decide +kernel, rfl⟩
theorem aX0_beginWith_47 : At cX0_beginWith 47 .return_ 1 48 := ⟨by decide +kernel, rfl⟩
theorem aX0_copyFrom_0 : At cX0_copyFrom 0 (.iconst 0) 1 1 := ⟨by decide +kernel, rfl⟩
theorem aX0_copyFrom_1 : At cX0_copyFrom 1 (.istore_n 2) 1 2 := ⟨by decide +kernel, rfl⟩
theorem aX0_copyFrom_2 : At cX0_copyFrom 2 (.iload_n 2) 1 3 := ⟨by decide +kernel, rfl⟩
theorem aX0_copyFrom_3 : At cX0_copyFrom 3 (.bipush 12) 2 5 := ⟨by decide +kernel, rfl⟩
theorem aX0_copyFrom_5 : At cX0_copyFrom 5 (.if_icmp .ge 27) 3 8 := ⟨by decide +kernel, rfl⟩
theorem aX0_copyFrom_8 : At cX0_copyFrom 8 (.aload_n 1) 1 9 := ⟨by decide +kernel, rfl⟩
theorem aX0_copyFrom_9 : At cX0_copyFrom 9 (.getfield 11) 3 12 := ⟨by decide +kernel, rfl⟩
theorem aX0_copyFrom_12 : At cX0_copyFrom 12 (.iload_n 2) 1 13 := ⟨by decide +kernel, rfl⟩
theorem aX0_copyFrom_13 : At cX0_copyFrom 13 .aaload 1 14 := ⟨by decide +kernel, rfl⟩
theorem aX0_copyFrom_14 : At cX0_copyFrom 14 (.iconst 0) 1 15 := ⟨by decide +kernel, rfl⟩
theorem aX0_copyFrom_15 : At cX0_copyFrom 15 (.aload_n 0) 1 16 := ⟨by decide +kernel, rfl⟩
theorem aX0_copyFrom_16 : At cX0_copyFrom 16 (.getfield 11) 3 19 := ⟨by decide +kernel, rfl⟩
theorem aX0_copyFrom_19 : At cX0_copyFrom 19 (.iload_n 2) 1 20 := ⟨by decide +kernel, rfl⟩
theorem aX0_copyFrom_20 : At cX0_copyFrom 20 .aaload 1 21 := ⟨by decide +kernel, rfl⟩
theorem aX0_copyFrom_21 : At cX0_copyFrom 21 (.iconst 0) 1 22 := ⟨by decide +kernel, rfl⟩
theorem aX0_copyFrom_22 : At cX0_copyFrom 22 (.iconst 5) 1 23 := ⟨by decide +kernel, rfl⟩
theorem aX0_copyFrom_23 : At cX0_copyFrom 23 (.invokestatic 59) 3 26 := ⟨by decide +kernel, rfl⟩
theorem aX0_copyFrom_26 : At cX0_copyFrom 26 (.iinc 2 1) 3 29 := ⟨by decide +kernel, rfl⟩
theorem aX0_copyFrom_29 : At cX0_copyFrom 29 (.goto (-27)) 3 32 := ⟨by decide +kernel, rfl⟩
theorem aX0_copyFrom_32 : At cX0_copyFrom 32 (.aload_n 1) 1 33 := ⟨by decide +kernel, rfl⟩
theorem aX0_copyFrom_33 : At cX0_copyFrom 33 (.getfield 16) 3 36 := ⟨by decide +kernel, rfl⟩
theorem aX0_copyFrom_36 : At cX0_copyFrom 36 (.iconst 0) 1 37 := ⟨by decide +kernel, rfl⟩
theorem aX0_copyFrom_37 : At cX0_copyFrom 37 (.aload_n 0) 1 38 := ⟨by decide +kernel, rfl⟩
theorem aX0_copyFrom_38 : At cX0_copyFrom 38 (.getfield 16) 3 41 := ⟨by decide +kernel, rfl⟩
theorem aX0_copyFrom_41 : At cX0_copyFrom 41 (.iconst 0) 1 42 := ⟨by decide +kernel, rfl⟩
theorem aX0_copyFrom_42 : At cX0_copyFrom 42 (.bipush 6) 2 44 := ⟨by decide +kernel, rfl⟩
theorem aX0_copyFrom_44 : At cX0_copyFrom 44 (.invokestatic 59) 3 47 := ⟨by decide +kernel, rfl⟩
theorem aX0_copyFrom_47 : At cX0_copyFrom 47 (.aload_n 1) 1 48 := ⟨by decide +kernel, rfl⟩
theorem aX0_copyFrom_48 : At cX0_copyFrom 48 (.getfield 20) 3 51 := ⟨by decide +kernel, rfl⟩
theorem aX0_copyFrom_51 : At cX0_copyFrom 51 (.iconst 0) 1 52 := ⟨by decide +kernel, rfl⟩
theorem aX0_copyFrom_52 : At cX0_copyFrom 52 (.aload_n 0) 1 53 := ⟨by decide +kernel, rfl⟩
theorem aX0_copyFrom_53 : At cX0_copyFrom 53 (.getfield 20) 3 56 := ⟨by decide +kernel, rfl⟩
theorem aX0_copyFrom_56 : At cX0_copyFrom 56 (.iconst 0) 1 57 := ⟨by decide +kernel, rfl⟩
theorem aX0_copyFrom_57 : At cX0_copyFrom 57 (.bipush 6) 2 59 := ⟨by decide +kernel, rfl⟩
theorem aX0_copyFrom_59 : At cX0_copyFrom 59 (.invokestatic 59) 3 62 := ⟨by decide +kernel, rfl⟩
theorem aX0_copyFrom_62 : At cX0_copyFrom 62 (.aload_n 1) 1 63 := ⟨by decide +kernel, rfl⟩
theorem aX0_copyFrom_63 : At cX0_copyFrom 63 (.getfield 23) 3 66 := ⟨by decide +kernel, rfl⟩
theorem aX0_copyFrom_66 : At cX0_copyFrom 66 (.iconst 0) 1 67 := ⟨by decide +kernel, rfl⟩
theorem aX0_copyFrom_67 : At cX0_copyFrom 67 (.aload_n 0) 1 68 := ⟨by decide +kernel, rfl⟩
theorem aX0_copyFrom_68 : At cX0_copyFrom 68 (.getfield 23) 3 71 := ⟨by decide +kernel, rfl⟩
theorem aX0_copyFrom_71 : At cX0_copyFrom 71 (.iconst 0) 1 72 := ⟨by decide +kernel, rfl⟩
theorem aX0_copyFrom_72 : At cX0_copyFrom 72 (.bipush 6) 2 74 := ⟨by decide +kernel, rfl⟩
theorem aX0_copyFrom_74 : At cX0_copyFrom 74 (.invokestatic 59) 3 77 := ⟨by decide +kernel, rfl⟩
theorem aX0_copyFrom_77 : At cX0_copyFrom 77 (.aload_n 1) 1 78 := ⟨by decide +kernel, rfl⟩
theorem aX0_copyFrom_78 : At cX0_copyFrom 78 (.getfield 26) 3 81 := ⟨by decide +kernel, rfl⟩
theorem aX0_copyFrom_81 : At cX0_copyFrom 81 (.iconst 0) 1 82 := ⟨by decide +kernel, rfl⟩
theorem aX0_copyFrom_82 : At cX0_copyFrom 82 (.aload_n 0) 1 83 := ⟨by decide +kernel, rfl⟩
theorem aX0_copyFrom_83 : At cX0_copyFrom 83 (.getfield 26) 3 86 := ⟨by decide +kernel, rfl⟩
theorem aX0_copyFrom_86 : At cX0_copyFrom 86 (.iconst 0) 1 87 := ⟨by decide +kernel, rfl⟩
theorem aX0_copyFrom_87 : At cX0_copyFrom 87 (.bipush 6) 2 89 := ⟨by decide +kernel, rfl⟩
theorem aX0_copyFrom_89 : At cX0_copyFrom 89 (.invokestatic 59) 3 92 := ⟨by decide +kernel, rfl⟩
theorem aX0_copyFrom_92 : At cX0_copyFrom 92 (.aload_n 1) 1 93 := ⟨by decide +kernel, rfl⟩
theorem aX0_copyFrom_93 : At cX0_copyFrom 93 (.getfield 29) 3 96 := ⟨by decide +kernel, rfl⟩
theorem aX0_copyFrom_96 : At cX0_copyFrom 96 (.iconst 0) 1 97 := ⟨by decide +kernel, rfl⟩
theorem aX0_copyFrom_97 : At cX0_copyFrom 97 (.aload_n 0) 1 98 := ⟨by decide +kernel, rfl⟩
theorem aX0_copyFrom_98 : At cX0_copyFrom 98 (.getfield 29) 3 101 := ⟨by decide +kernel, rfl⟩
theorem aX0_copyFrom_101 : At cX0_copyFrom 101 (.iconst 0) 1 102 := ⟨by decide +kernel, rfl⟩
theorem aX0_copyFrom_102 : At cX0_copyFrom 102 (.bipush 6) 2 104 := ⟨by decide +kernel, rfl⟩
theorem aX0_copyFrom_104 : At cX0_copyFrom 104 (.invokestatic 59) 3 107 := ⟨by decide +kernel, rfl⟩
theorem aX0_copyFrom_107 : At cX0_copyFrom 107 (.aload_n 0) 1 108 := ⟨by decide +kernel, rfl⟩
theorem aX0_copyFrom_108 : At cX0_copyFrom 108 (.aload_n 1) 1 109 := ⟨by decide +kernel, rfl⟩
theorem aX0_copyFrom_109 : At cX0_copyFrom 109 (.getfield 36) 3 112 := ⟨by decide +kernel, rfl⟩
theorem aX0_copyFrom_112 : At cX0_copyFrom 112 (.putfield 36) 3 115 := ⟨by decide +kernel, rfl⟩
theorem aX0_copyFrom_115 : At cX0_copyFrom 115 (.aload_n 0) 1 116 := ⟨by decide +kernel, rfl⟩
theorem aX0_copyFrom_116 : At cX0_copyFrom 116 (.aload_n 1) 1 117 := ⟨by decide +kernel, rfl⟩
theorem aX0_copyFrom_117 : At cX0_copyFrom 117 (.getfield 40) 3 120 := ⟨by decide +kernel, rfl⟩
theorem aX0_copyFrom_120 : At cX0_copyFrom 120 (.putfield 40) 3 123 := ⟨by decide +kernel, rfl⟩
theorem aX0_copyFrom_123 : At cX0_copyFrom 123 (.aload_n 0) 1 124 := ⟨by decide +kernel, rfl⟩
theorem aX0_copyFrom_124 : At cX0_copyFrom 124 (.aload_n 1) 1 125 := ⟨by decide +kernel, rfl⟩
theorem aX0_copyFrom_125 : At cX0_copyFrom 125 (.getfield 65) 3 128 := ⟨by decide +kernel, rfl⟩
theorem aX0_copyFrom_128 : At cX0_copyFrom 128 (.putfield 65) 3 131 := ⟨by decide +kernel, rfl⟩
theorem aX0_copyFrom_131 : At cX0_copyFrom 131 .return_ 1 132 := ⟨by decide +kernel, rfl⟩
theorem aX0_has_0 : At cX0_has 0 (.iload_n 1) 1 1 := ⟨by decide +kernel, rfl⟩
theorem aX0_has_1 : At cX0_has 1 (.ifCond .lt 15) 3 4 := ⟨by decide +kernel, rfl⟩
theorem aX0_has_4 : At cX0_has 4 (.iload_n 1) 1 5 := ⟨by decide +kernel, rfl⟩
theorem aX0_has_5 : At cX0_has 5 (.aload_n 0) 1 6 := ⟨by decide +kernel, rfl⟩
theorem aX0_has_6 : At cX0_has 6 (.getfield 36) 3 9 := ⟨by decide +kernel, rfl⟩
theorem aX0_has_9 : At cX0_has 9 (.if_icmp .ge 7) 3 12 := ⟨by decide +kernel, rfl⟩
theorem aX0_has_12 : At cX0_has 12 (.iconst 1) 1 13 := ⟨by decide +kernel, rfl⟩
theorem aX0_has_13 : At cX0_has 13 (.goto 4) 3 16 := ⟨by decide +kernel, rfl⟩
theorem aX0_has_16 : At cX0_has 16 (.iconst 0) 1 17 := ⟨by decide +kernel, rfl⟩
theorem aX0_has_17 : At cX0_has 17 .ireturn 1 18 := ⟨by decide +kernel, rfl⟩
theorem aX0_init_0 : At cX0_init 0 (.aload_n 0) 1 1 := ⟨by decide +kernel, rfl⟩
theorem aX0_init_1 : At cX0_init 1 (.invokespecial 3) 3 4 := ⟨by decide +kernel, rfl⟩
theorem aX0_init_4 : At cX0_init 4 (.aload_n 0) 1 5 := ⟨by decide +kernel, rfl⟩
theorem aX0_init_5 : At cX0_init 5 (.bipush 12) 2 7 := ⟨by decide +kernel, rfl⟩
theorem aX0_init_7 : At cX0_init 7 (.iconst 5) 1 8 := ⟨by decide +kernel, rfl⟩
theorem aX0_init_8 : At cX0_init 8 (.multianewarray 9 2) 4 12 := ⟨by decide +kernel, rfl⟩
theorem aX0_init_12 : At cX0_init 12 (.putfield 11) 3 15 := ⟨by decide +kernel, rfl⟩
theorem aX0_init_15 : At cX0_init 15 (.aload_n 0) 1 16 := ⟨by decide +kernel, rfl⟩
theorem aX0_init_16 : At cX0_init 16 (.bipush 6) 2 18 := ⟨by decide +kernel, rfl⟩
theorem aX0_init_18 : At cX0_init 18 (.newarray .int) 2 20 := ⟨by decide +kernel, rfl⟩
theorem aX0_init_20 : At cX0_init 20 (.putfield 16) 3 23 := ⟨by decide +kernel, rfl⟩
theorem aX0_init_23 : At cX0_init 23 (.aload_n 0) 1 24 := ⟨by decide +kernel, rfl⟩
theorem aX0_init_24 : At cX0_init 24 (.bipush 6) 2 26 := ⟨by decide +kernel, rfl⟩
theorem aX0_init_26 : At cX0_init 26 (.newarray .int) 2 28 := ⟨by decide +kernel, rfl⟩
theorem aX0_init_28 : At cX0_init 28 (.putfield 20) 3 31 := ⟨by decide +kernel, rfl⟩
theorem aX0_init_31 : At cX0_init 31 (.aload_n 0) 1 32 := ⟨by decide +kernel, rfl⟩
theorem aX0_init_32 : At cX0_init 32 (.bipush 6) 2 34 := ⟨by decide +kernel, rfl⟩
theorem aX0_init_34 : At cX0_init 34 (.newarray .int) 2 36 := ⟨by decide +kernel, rfl⟩
theorem aX0_init_36 : At cX0_init 36 (.putfield 23) 3 39 := ⟨by decide +kernel, rfl⟩
theorem aX0_init_39 : At cX0_init 39 (.aload_n 0) 1 40 := ⟨by decide +kernel, rfl⟩
theorem aX0_init_40 : At cX0_init 40 (.bipush 6) 2 42 := ⟨by decide +kernel, rfl⟩
theorem aX0_init_42 : At cX0_init 42 (.newarray .int) 2 44 := ⟨by decide +kernel, rfl⟩
theorem aX0_init_44 : At cX0_init 44 (.putfield 26) 3 47 := ⟨by decide +kernel, rfl⟩
theorem aX0_init_47 : At cX0_init 47 (.aload_n 0) 1 48 := ⟨by decide +kernel, rfl⟩
theorem aX0_init_48 : At cX0_init 48 (.bipush 6) 2 50 := ⟨by decide +kernel, rfl⟩
theorem aX0_init_50 : At cX0_init 50 (.newarray .int) 2 52 := ⟨by decide +kernel, rfl⟩
theorem aX0_init_52 : At cX0_init 52 (.putfield 29) 3 55 := ⟨by decide +kernel, rfl⟩
theorem aX0_init_55 : At cX0_init 55 (.iconst 0) 1 56 := ⟨by decide +kernel, rfl⟩
theorem aX0_init_56 : At cX0_init 56 (.istore_n 1) 1 57 := ⟨by decide +kernel, rfl⟩
theorem aX0_init_57 : At cX0_init 57 (.iload_n 1) 1 58 := ⟨by decide +kernel, rfl⟩
theorem aX0_init_58 : At cX0_init 58 (.bipush 6) 2 60 := ⟨by decide +kernel, rfl⟩
theorem aX0_init_60 : At cX0_init 60 (.if_icmp .ge 25) 3 63 := ⟨by decide +kernel, rfl⟩
theorem aX0_init_63 : At cX0_init 63 (.aload_n 0) 1 64 := ⟨by decide +kernel, rfl⟩
theorem aX0_init_64 : At cX0_init 64 (.getfield 26) 3 67 := ⟨by decide +kernel, rfl⟩
theorem aX0_init_67 : At cX0_init 67 (.iload_n 1) 1 68 := ⟨by decide +kernel, rfl⟩
theorem aX0_init_68 : At cX0_init 68 (.bipush 10) 2 70 := ⟨by decide +kernel, rfl⟩
theorem aX0_init_70 : At cX0_init 70 .iastore 1 71 := ⟨by decide +kernel, rfl⟩
theorem aX0_init_71 : At cX0_init 71 (.aload_n 0) 1 72 := ⟨by decide +kernel, rfl⟩
theorem aX0_init_72 : At cX0_init 72 (.getfield 29) 3 75 := ⟨by decide +kernel, rfl⟩
theorem aX0_init_75 : At cX0_init 75 (.iload_n 1) 1 76 := ⟨by decide +kernel, rfl⟩
theorem aX0_init_76 : At cX0_init 76 (.bipush 50) 2 78 := ⟨by decide +kernel, rfl⟩
theorem aX0_init_78 : At cX0_init 78 .iastore 1 79 := ⟨by decide +kernel, rfl⟩
theorem aX0_init_79 : At cX0_init 79 (.iinc 1 1) 3 82 := ⟨by decide +kernel, rfl⟩
theorem aX0_init_82 : At cX0_init 82 (.goto (-25)) 3 85 := ⟨by decide +kernel, rfl⟩
theorem aX0_init_85 : At cX0_init 85 (.aload_n 0) 1 86 := ⟨by decide +kernel, rfl⟩
theorem aX0_init_86 : At cX0_init 86 (.bipush 6) 2 88 := ⟨by decide +kernel, rfl⟩
theorem aX0_init_88 : At cX0_init 88 (.invokevirtual 32) 3 91 := ⟨by decide +kernel, rfl⟩
theorem aX0_init_91 : At cX0_init 91 .return_ 1 92 := ⟨by decide +kernel, rfl⟩
theorem aX0_write_0 : At cX0_write 0 (.iconst 0) 1 1 := ⟨by decide +kernel, rfl⟩
theorem aX0_write_1 : At cX0_write 1 (.istore_n 2) 1 2 := ⟨by decide +kernel, rfl⟩
theorem aX0_write_2 : At cX0_write 2 (.iload_n 2) 1 3 := ⟨by decide +kernel, rfl⟩
theorem aX0_write_3 : At cX0_write 3 (.aload_n 1) 1 4 := ⟨by decide +kernel, rfl⟩
theorem aX0_write_4 : At cX0_write 4 (.getfield 43) 3 7 := ⟨by decide +kernel, rfl⟩
theorem aX0_write_7 : At cX0_write 7 (.if_icmp .ge 49) 3 10 := ⟨by decide +kernel, rfl⟩
theorem aX0_write_10 : At cX0_write 10 (.aload_n 1) 1 11 := ⟨by decide +kernel, rfl⟩
theorem aX0_write_11 : At cX0_write 11 (.iload_n 2) 1 12 := ⟨by decide +kernel, rfl⟩
theorem aX0_write_12 : At cX0_write 12 (.invokevirtual 48) 3 15 := ⟨by decide +kernel, rfl⟩
theorem aX0_write_15 : At cX0_write 15 (.istore_n 3) 1 16 := ⟨by decide +kernel, rfl⟩
theorem aX0_write_16 : At cX0_write 16 (.aload_n 0) 1 17 := ⟨by decide +kernel, rfl⟩
theorem aX0_write_17 : At cX0_write 17 (.getfield 16) 3 20 := ⟨by decide +kernel, rfl⟩
theorem aX0_write_20 : At cX0_write 20 (.iload_n 3) 1 21 := ⟨by decide +kernel, rfl⟩
theorem aX0_write_21 : At cX0_write 21 .dup2 1 22 := ⟨by decide +kernel, rfl⟩
theorem aX0_write_22 : At cX0_write 22 .iaload 1 23 := ⟨by decide +kernel, rfl⟩
theorem aX0_write_23 : At cX0_write 23 (.iconst 1) 1 24 := ⟨by decide +kernel, rfl⟩
theorem aX0_write_24 : At cX0_write 24 .iadd 1 25 := ⟨by decide +kernel, rfl⟩
theorem aX0_write_25 : At cX0_write 25 .iastore 1 26 := ⟨by decide +kernel, rfl⟩
theorem aX0_write_26 : At cX0_write 26 (.iload_n 2) 1 27 := ⟨by decide +kernel, rfl⟩
theorem aX0_write_27 : At cX0_write 27 (.iconst 2) 1 28 := ⟨by decide +kernel, rfl⟩
theorem aX0_write_28 : At cX0_write 28 (.if_icmp .lt 22) 3 31 := ⟨by decide +kernel, rfl⟩
theorem aX0_write_31 : At cX0_write 31 (.aload_n 0) 1 32 := ⟨by decide +kernel, rfl⟩
theorem aX0_write_32 : At cX0_write 32 (.iload_n 3) 1 33 := ⟨by decide +kernel, rfl⟩
theorem aX0_write_33 : At cX0_write 33 (.aload_n 1) 1 34 := ⟨by decide +kernel, rfl⟩
theorem aX0_write_34 : At cX0_write 34 (.iload_n 2) 1 35 := ⟨by decide +kernel, rfl⟩
theorem aX0_write_35 : At cX0_write 35 (.iconst 2) 1 36 := ⟨by decide +kernel, rfl⟩
theorem aX0_write_36 : At cX0_write 36 .isub 1 37 := ⟨by decide +kernel, rfl⟩
theorem aX0_write_37 : At cX0_write 37 (.invokevirtual 48) 3 40 := ⟨by decide +kernel, rfl⟩
theorem aX0_write_40 : At cX0_write 40 (.aload_n 1) 1 41 := ⟨by decide +kernel, rfl⟩
theorem aX0_write_41 : At cX0_write 41 (.iload_n 2) 1 42 := ⟨by decide +kernel, rfl⟩
theorem aX0_write_42 : At cX0_write 42 (.iconst 1) 1 43 := ⟨by decide +kernel, rfl⟩
theorem aX0_write_43 : At cX0_write 43 .isub 1 44 := ⟨by decide +kernel, rfl⟩
theorem aX0_write_44 : At cX0_write 44 (.invokevirtual 52) 3 47 := ⟨by decide +kernel, rfl⟩
theorem aX0_write_47 : At cX0_write 47 (.invokevirtual 55) 3 50 := ⟨by decide +kernel, rfl⟩
theorem aX0_write_50 : At cX0_write 50 (.iinc 2 2) 3 53 := ⟨by decide +kernel, rfl⟩
theorem aX0_write_53 : At cX0_write 53 (.goto (-51)) 3 56 := ⟨by decide +kernel, rfl⟩
theorem aX0_write_56 : At cX0_write 56 .return_ 1 57 := ⟨by decide +kernel, rfl⟩
theorem aX1_find_0 : At cX1_find 0 (.aload_n 0) 1 1 := ⟨by decide +kernel, rfl⟩
theorem aX1_find_1 : At cX1_find 1 (.bipush 13) 2 3 := ⟨by decide +kernel, rfl⟩
theorem aX1_find_3 : At cX1_find 3 (.putfield 9) 3 6 := ⟨by decide +kernel, rfl⟩
theorem aX1_find_6 : At cX1_find 6 (.aload_n 0) 1 7 := ⟨by decide +kernel, rfl⟩
theorem aX1_find_7 : At cX1_find 7 (.iconst 0) 1 8 := ⟨by decide +kernel, rfl⟩
theorem aX1_find_8 : At cX1_find 8 (.putfield 15) 3 11 := ⟨by decide +kernel, rfl⟩
theorem aX1_find_11 : At cX1_find 11 (.aload_n 0) 1 12 := ⟨by decide +kernel, rfl⟩
theorem aX1_find_12 : At cX1_find 12 (.iconst 0) 1 13 := ⟨by decide +kernel, rfl⟩
theorem aX1_find_13 : At cX1_find 13 (.putfield 18) 3 16 := ⟨by decide +kernel, rfl⟩
theorem aX1_find_16 : At cX1_find 16 (.iconst 0) 1 17 := ⟨by decide +kernel, rfl⟩
theorem aX1_find_17 : At cX1_find 17 (.istore_n 3) 1 18 := ⟨by decide +kernel, rfl⟩
theorem aX1_find_18 : At cX1_find 18 (.iload_n 3) 1 19 := ⟨by decide +kernel, rfl⟩
theorem aX1_find_19 : At cX1_find 19 (.iconst 1) 1 20 := ⟨by decide +kernel, rfl⟩
theorem aX1_find_20 : At cX1_find 20 (.aload_n 1) 1 21 := ⟨by decide +kernel, rfl⟩
theorem aX1_find_21 : At cX1_find 21 (.getfield 21) 3 24 := ⟨by decide +kernel, rfl⟩
theorem aX1_find_24 : At cX1_find 24 .ishl 1 25 := ⟨by decide +kernel, rfl⟩
theorem aX1_find_25 : At cX1_find 25 (.if_icmp .ge 44) 3 28 := ⟨by decide +kernel, rfl⟩
theorem aX1_find_28 : At cX1_find 28 (.iload_n 3) 1 29 := ⟨by decide +kernel, rfl⟩
theorem aX1_find_29 : At cX1_find 29 (.invokestatic 26) 3 32 := ⟨by decide +kernel, rfl⟩
theorem aX1_find_32 : At cX1_find 32 (.istore 4) 2 34 := ⟨by decide +kernel, rfl⟩
theorem aX1_find_34 : At cX1_find 34 (.iload 4) 2 36 := ⟨by decide +kernel, rfl⟩
theorem aX1_find_36 : At cX1_find 36 (.aload_n 0) 1 37 := ⟨by decide +kernel, rfl⟩
theorem aX1_find_37 : At cX1_find 37 (.getfield 9) 3 40 := ⟨by decide +kernel, rfl⟩
theorem aX1_find_40 : At cX1_find 40 (.if_icmp .gt 23) 3 43 := ⟨by decide +kernel, rfl⟩
theorem aX1_find_43 : At cX1_find 43 (.aload_n 2) 1 44 := ⟨by decide +kernel, rfl⟩
theorem aX1_find_44 : At cX1_find 44 (.aload_n 1) 1 45 := ⟨by decide +kernel, rfl⟩
theorem aX1_find_45 : At cX1_find 45 (.iload_n 3) 1 46 := ⟨by decide +kernel, rfl⟩
theorem aX1_find_46 : At cX1_find 46 (.invokevirtual 32) 3 49 := ⟨by decide +kernel, rfl⟩
theorem aX1_find_49 : At cX1_find 49 (.aload_n 2) 1 50 := ⟨by decide +kernel, rfl⟩
theorem aX1_find_50 : At cX1_find 50 (.getfield 38) 3 53 := ⟨by decide +kernel, rfl⟩
theorem aX1_find_53 : At cX1_find 53 (.ifCond .eq 10) 3 56 := ⟨by decide +kernel, rfl⟩
theorem aX1_find_56 : At cX1_find 56 (.aload_n 0) 1 57 := ⟨by decide +kernel, rfl⟩
theorem aX1_find_57 : At cX1_find 57 (.iload_n 3) 1 58 := ⟨by decide +kernel, rfl⟩
theorem aX1_find_58 : At cX1_find 58 (.iload 4) 2 60 := ⟨by decide +kernel, rfl⟩
theorem aX1_find_60 : At cX1_find 60 (.invokevirtual 42) 3 63 := ⟨by decide +kernel, rfl⟩
theorem aX1_find_63 : At cX1_find 63 (.iinc 3 1) 3 66 := ⟨by decide +kernel, rfl⟩
theorem aX1_find_66 : At cX1_find 66 (.goto (-48)) 3 69 := ⟨by decide +kernel, rfl⟩
theorem aX1_find_69 : At cX1_find 69 .return_ 1 70 := ⟨by decide +kernel, rfl⟩
theorem aX1_init_0 : At cX1_init 0 (.aload_n 0) 1 1 := ⟨by decide +kernel, rfl⟩
theorem aX1_init_1 : At cX1_init 1 (.invokespecial 3) 3 4 := ⟨by decide +kernel, rfl⟩
theorem aX1_init_4 : At cX1_init 4 .return_ 1 5 := ⟨by decide +kernel, rfl⟩
theorem aX1_take_0 : At cX1_take 0 (.iload_n 2) 1 1 := ⟨by decide +kernel, rfl⟩
theorem aX1_take_1 : At cX1_take 1 (.aload_n 0) 1 2 := ⟨by decide +kernel, rfl⟩
theorem aX1_take_2 : At cX1_take 2 (.getfield 9) 3 5 := ⟨by decide +kernel, rfl⟩
theorem aX1_take_5 : At cX1_take 5 (.if_icmp .ge 21) 3 8 := ⟨by decide +kernel, rfl⟩
theorem aX1_take_8 : At cX1_take 8 (.aload_n 0) 1 9 := ⟨by decide +kernel, rfl⟩
theorem aX1_take_9 : At cX1_take 9 (.iload_n 2) 1 10 := ⟨by decide +kernel, rfl⟩
theorem aX1_take_10 : At cX1_take 10 (.putfield 9) 3 13 := ⟨by decide +kernel, rfl⟩
theorem aX1_take_13 : At cX1_take 13 (.aload_n 0) 1 14 := ⟨by decide +kernel, rfl⟩
theorem aX1_take_14 : At cX1_take 14 (.iload_n 1) 1 15 := ⟨by decide +kernel, rfl⟩
theorem aX1_take_15 : At cX1_take 15 (.putfield 15) 3 18 := ⟨by decide +kernel, rfl⟩
theorem aX1_take_18 : At cX1_take 18 (.aload_n 0) 1 19 := ⟨by decide +kernel, rfl⟩
theorem aX1_take_19 : At cX1_take 19 (.iload_n 1) 1 20 := ⟨by decide +kernel, rfl⟩
theorem aX1_take_20 : At cX1_take 20 (.putfield 18) 3 23 := ⟨by decide +kernel, rfl⟩
theorem aX1_take_23 : At cX1_take 23 (.goto 13) 3 26 := ⟨by decide +kernel, rfl⟩
theorem aX1_take_26 : At cX1_take 26 (.aload_n 0) 1 27 := ⟨by decide +kernel, rfl⟩
theorem aX1_take_27 : At cX1_take 27 .dup 1 28 := ⟨by decide +kernel, rfl⟩
theorem aX1_take_28 : At cX1_take 28 (.getfield 18) 3 31 := ⟨by decide +kernel, rfl⟩
theorem aX1_take_31 : At cX1_take 31 (.iload_n 1) 1 32 := ⟨by decide +kernel, rfl⟩
theorem aX1_take_32 : At cX1_take 32 .iand 1 33 := ⟨by decide +kernel, rfl⟩
theorem aX1_take_33 : At cX1_take 33 (.putfield 18) 3 36 := ⟨by decide +kernel, rfl⟩
theorem aX1_take_36 : At cX1_take 36 .return_ 1 37 := ⟨by decide +kernel, rfl⟩
theorem aX2_clear_0 : At cX2_clear 0 (.aload_n 0) 1 1 := ⟨by decide +kernel, rfl⟩
theorem aX2_clear_1 : At cX2_clear 1 (.iconst 0) 1 2 := ⟨by decide +kernel, rfl⟩
theorem aX2_clear_2 : At cX2_clear 2 (.putfield 15) 3 5 := ⟨by decide +kernel, rfl⟩
theorem aX2_clear_5 : At cX2_clear 5 .return_ 1 6 := ⟨by decide +kernel, rfl⟩
theorem aX2_firstFault_0 : At cX2_firstFault 0 (.iconst 0) 1 1 := ⟨by decide +kernel, rfl⟩
theorem aX2_firstFault_1 : At cX2_firstFault 1 (.istore_n 2) 1 2 := ⟨by decide +kernel, rfl⟩
theorem aX2_firstFault_2 : At cX2_firstFault 2 (.iload_n 2) 1 3 := ⟨by decide +kernel, rfl⟩
theorem aX2_firstFault_3 : At cX2_firstFault 3 (.aload_n 0) 1 4 := ⟨by decide +kernel, rfl⟩
theorem aX2_firstFault_4 : At cX2_firstFault 4 (.getfield 15) 3 7 := ⟨by decide +kernel, rfl⟩
theorem aX2_firstFault_7 : At cX2_firstFault 7 (.if_icmp .ge 20) 3 10 := ⟨by decide +kernel, rfl⟩
theorem aX2_firstFault_10 : At cX2_firstFault 10 (.aload_n 0) 1 11 := ⟨by decide +kernel, rfl⟩
theorem aX2_firstFault_11 : At cX2_firstFault 11 (.iload_n 2) 1 12 := ⟨by decide +kernel, rfl⟩
theorem aX2_firstFault_12 : At cX2_firstFault 12 (.iload_n 1) 1 13 := ⟨by decide +kernel, rfl⟩
theorem aX2_firstFault_13 : At cX2_firstFault 13 (.invokevirtual 19) 3 16 := ⟨by decide +kernel, rfl⟩
theorem aX2_firstFault_16 : At cX2_firstFault 16 (.ifCond .ne 5) 3 19 := ⟨by decide +kernel, rfl⟩
theorem aX2_firstFault_19 : At cX2_firstFault 19 (.iload_n 2) 1 20 := ⟨by decide +kernel, rfl⟩
theorem aX2_firstFault_20 : At cX2_firstFault 20 .ireturn 1 21 := ⟨by decide +kernel, rfl⟩
theorem aX2_firstFault_21 : At cX2_firstFault 21 (.iinc 2 1) 3 24 := ⟨by decide +kernel, rfl⟩
theorem aX2_firstFault_24 : At cX2_firstFault 24 (.goto (-22)) 3 27 := ⟨by decide +kernel, rfl⟩
theorem aX2_firstFault_27 : At cX2_firstFault 27 (.aload_n 0) 1 28 := ⟨by decide +kernel, rfl⟩
theorem aX2_firstFault_28 : At cX2_firstFault 28 (.getfield 15) 3 31 := ⟨by decide +kernel, rfl⟩
theorem aX2_firstFault_31 : At cX2_firstFault 31 (.iconst 2) 1 32 := ⟨by decide +kernel, rfl⟩
theorem aX2_firstFault_32 : At cX2_firstFault 32 .irem 1 33 := ⟨by decide +kernel, rfl⟩
theorem aX2_firstFault_33 : At cX2_firstFault 33 (.iconst 1) 1 34 := ⟨by decide +kernel, rfl⟩
theorem aX2_firstFault_34 : At cX2_firstFault 34 (.if_icmp .ne 8) 3 37 := ⟨by decide +kernel, rfl⟩
theorem aX2_firstFault_37 : At cX2_firstFault 37 (.bipush (-6)) 2 39 := ⟨by decide +kernel, rfl⟩
theorem aX2_firstFault_39 : At cX2_firstFault 39 (.goto 7) 3 42 := ⟨by decide +kernel, rfl⟩
theorem aX2_firstFault_42 : At cX2_firstFault 42 (.aload_n 0) 1 43 := ⟨by decide +kernel, rfl⟩
theorem aX2_firstFault_43 : At cX2_firstFault 43 (.getfield 15) 3 46 := ⟨by decide +kernel, rfl⟩
theorem aX2_firstFault_46 : At cX2_firstFault 46 .ireturn 1 47 := ⟨by decide +kernel, rfl⟩
theorem aX2_howAt_0 : At cX2_howAt 0 (.aload_n 0) 1 1 := ⟨by decide +kernel, rfl⟩
theorem aX2_howAt_1 : At cX2_howAt 1 (.getfield 9) 3 4 := ⟨by decide +kernel, rfl⟩
theorem aX2_howAt_4 : At cX2_howAt 4 (.iload_n 1) 1 5 := ⟨by decide +kernel, rfl⟩
theorem aX2_howAt_5 : At cX2_howAt 5 .iaload 1 6 := ⟨by decide +kernel, rfl⟩
theorem aX2_howAt_6 : At cX2_howAt 6 (.istore_n 2) 1 7 := ⟨by decide +kernel, rfl⟩
theorem aX2_howAt_7 : At cX2_howAt 7 (.iload_n 2) 1 8 := ⟨by decide +kernel, rfl⟩
theorem aX2_howAt_8 : At cX2_howAt 8 (.bipush 61) 2 10 := ⟨by decide +kernel, rfl⟩
theorem aX2_howAt_10 : At cX2_howAt 10 (.if_icmp .ne 5) 3 13 := ⟨by decide +kernel, rfl⟩
theorem aX2_howAt_13 : At cX2_howAt 13 (.iconst 0) 1 14 := ⟨by decide +kernel, rfl⟩
theorem aX2_howAt_14 : At cX2_howAt 14 .ireturn 1 15 := ⟨by decide +kernel, rfl⟩
theorem aX2_howAt_15 : At cX2_howAt 15 (.iload_n 2) 1 16 := ⟨by decide +kernel, rfl⟩
theorem aX2_howAt_16 : At cX2_howAt 16 (.bipush 43) 2 18 := ⟨by decide +kernel, rfl⟩
theorem aX2_howAt_18 : At cX2_howAt 18 (.if_icmp .ne 7) 3 21 := ⟨by decide +kernel, rfl⟩
theorem aX2_howAt_21 : At cX2_howAt 21 (.iconst 1) 1 22 := ⟨by decide +kernel, rfl⟩
theorem aX2_howAt_22 : At cX2_howAt 22 (.goto 4) 3 25 := ⟨by decide +kernel, rfl⟩
theorem aX2_howAt_25 : At cX2_howAt 25 (.iconst 2) 1 26 := ⟨by decide +kernel, rfl⟩
theorem aX2_howAt_26 : At cX2_howAt 26 .ireturn 1 27 := ⟨by decide +kernel, rfl⟩
theorem aX2_init_0 : At cX2_init 0 (.aload_n 0) 1 1 := ⟨by decide +kernel, rfl⟩
theorem aX2_init_1 : At cX2_init 1 (.invokespecial 3) 3 4 := ⟨by decide +kernel, rfl⟩
theorem aX2_init_4 : At cX2_init 4 (.aload_n 0) 1 5 := ⟨by decide +kernel, rfl⟩
theorem aX2_init_5 : At cX2_init 5 (.bipush 40) 2 7 := ⟨by decide +kernel, rfl⟩
theorem aX2_init_7 : At cX2_init 7 (.newarray .int) 2 9 := ⟨by decide +kernel, rfl⟩
theorem aX2_init_9 : At cX2_init 9 (.putfield 9) 3 12 := ⟨by decide +kernel, rfl⟩
theorem aX2_init_12 : At cX2_init 12 (.aload_n 0) 1 13 := ⟨by decide +kernel, rfl⟩
theorem aX2_init_13 : At cX2_init 13 (.iconst 0) 1 14 := ⟨by decide +kernel, rfl⟩
theorem aX2_init_14 : At cX2_init 14 (.putfield 15) 3 17 := ⟨by decide +kernel, rfl⟩
theorem aX2_init_17 : At cX2_init 17 .return_ 1 18 := ⟨by decide +kernel, rfl⟩
theorem aX2_mayStand_0 : At cX2_mayStand 0 (.aload_n 0) 1 1 := ⟨by decide +kernel, rfl⟩
theorem aX2_mayStand_1 : At cX2_mayStand 1 (.getfield 9) 3 4 := ⟨by decide +kernel, rfl⟩
theorem aX2_mayStand_4 : At cX2_mayStand 4 (.iload_n 1) 1 5 := ⟨by decide +kernel, rfl⟩
theorem aX2_mayStand_5 : At cX2_mayStand 5 .iaload 1 6 := ⟨by decide +kernel, rfl⟩
theorem aX2_mayStand_6 : At cX2_mayStand 6 (.istore_n 3) 1 7 := ⟨by decide +kernel, rfl⟩
theorem aX2_mayStand_7 : At cX2_mayStand 7 (.iload_n 1) 1 8 := ⟨by decide +kernel, rfl⟩
theorem aX2_mayStand_8 : At cX2_mayStand 8 (.iconst 2) 1 9 := ⟨by decide +kernel, rfl⟩
theorem aX2_mayStand_9 : At cX2_mayStand 9 .irem 1 10 := ⟨by decide +kernel, rfl⟩
theorem aX2_mayStand_10 : At cX2_mayStand 10 (.iconst 1) 1 11 := ⟨by decide +kernel, rfl⟩
theorem aX2_mayStand_11 : At cX2_mayStand 11 (.if_icmp .ne 27) 3 14 := ⟨by decide +kernel, rfl⟩
theorem aX2_mayStand_14 : At cX2_mayStand 14 (.iload_n 3) 1 15 := ⟨by decide +kernel, rfl⟩
theorem aX2_mayStand_15 : At cX2_mayStand 15 (.bipush 43) 2 17 := ⟨by decide +kernel, rfl⟩
theorem aX2_mayStand_17 : At cX2_mayStand 17 (.if_icmp .eq 15) 3 20 := ⟨by decide +kernel, rfl⟩
theorem aX2_mayStand_20 : At cX2_mayStand 20 (.iload_n 3) 1 21 := ⟨by decide +kernel, rfl⟩
theorem aX2_mayStand_21 : At cX2_mayStand 21 (.bipush 45) 2 23 := ⟨by decide +kernel, rfl⟩
theorem aX2_mayStand_23 : At cX2_mayStand 23 (.if_icmp .eq 9) 3 26 := ⟨by decide +kernel, rfl⟩
theorem aX2_mayStand_26 : At cX2_mayStand 26 (.iload_n 3) 1 27 := ⟨by decide +kernel, rfl⟩
theorem aX2_mayStand_27 : At cX2_mayStand 27 (.bipush 61) 2 29 := ⟨by decide +kernel, rfl⟩
theorem aX2_mayStand_29 : At cX2_mayStand 29 (.if_icmp .ne 7) 3 32 := ⟨by decide +kernel, rfl⟩
theorem aX2_mayStand_32 : At cX2_mayStand 32 (.iconst 1) 1 33 := ⟨by decide +kernel, rfl⟩
theorem aX2_mayStand_33 : At cX2_mayStand 33 (.goto 4) 3 36 := ⟨by decide +kernel, rfl⟩
theorem aX2_mayStand_36 : At cX2_mayStand 36 (.iconst 0) 1 37 := ⟨by decide +kernel, rfl⟩
theorem aX2_mayStand_37 : At cX2_mayStand 37 .ireturn 1 38 := ⟨by decide +kernel, rfl⟩
theorem aX2_mayStand_38 : At cX2_mayStand 38 (.iload_n 3) 1 39 := ⟨by decide +kernel, rfl⟩
theorem aX2_mayStand_39 : At cX2_mayStand 39 (.bipush 97) 2 41 := ⟨by decide +kernel, rfl⟩
theorem aX2_mayStand_41 : At cX2_mayStand 41 (.if_icmp .lt 11) 3 44 := ⟨by decide +kernel, rfl⟩
theorem aX2_mayStand_44 : At cX2_mayStand 44 (.iload_n 3) 1 45 := ⟨by decide +kernel, rfl⟩
theorem aX2_mayStand_45 : At cX2_mayStand 45 (.bipush 97) 2 47 := ⟨by decide +kernel, rfl⟩
theorem aX2_mayStand_47 : At cX2_mayStand 47 (.iload_n 2) 1 48 := ⟨by decide +kernel, rfl⟩
theorem aX2_mayStand_48 : At cX2_mayStand 48 .iadd 1 49 := ⟨by decide +kernel, rfl⟩
theorem aX2_mayStand_49 : At cX2_mayStand 49 (.if_icmp .lt 5) 3 52 := ⟨by decide +kernel, rfl⟩
theorem aX2_mayStand_52 : At cX2_mayStand 52 (.iconst 0) 1 53 := ⟨by decide +kernel, rfl⟩
theorem aX2_mayStand_53 : At cX2_mayStand 53 .ireturn 1 54 := ⟨by decide +kernel, rfl⟩
theorem aX2_mayStand_54 : At cX2_mayStand 54 (.iload_n 1) 1 55 := ⟨by decide +kernel, rfl⟩
theorem aX2_mayStand_55 : At cX2_mayStand 55 (.iconst 2) 1 56 := ⟨by decide +kernel, rfl⟩
theorem aX2_mayStand_56 : At cX2_mayStand 56 (.if_icmp .lt 15) 3 59 := ⟨by decide +kernel, rfl⟩
theorem aX2_mayStand_59 : At cX2_mayStand 59 (.aload_n 0) 1 60 := ⟨by decide +kernel, rfl⟩
theorem aX2_mayStand_60 : At cX2_mayStand 60 (.getfield 9) 3 63 := ⟨by decide +kernel, rfl⟩
theorem aX2_mayStand_63 : At cX2_mayStand 63 (.iload_n 1) 1 64 := ⟨by decide +kernel, rfl⟩
theorem aX2_mayStand_64 : At cX2_mayStand 64 (.iconst 2) 1 65 := ⟨by decide +kernel, rfl⟩
theorem aX2_mayStand_65 : At cX2_mayStand 65 .isub 1 66 := ⟨by decide +kernel, rfl⟩
theorem aX2_mayStand_66 : At cX2_mayStand 66 .iaload 1 67 := ⟨by decide +kernel, rfl⟩
theorem aX2_mayStand_67 : At cX2_mayStand 67 (.iload_n 3) 1 68 := ⟨by decide +kernel, rfl⟩
theorem aX2_mayStand_68 : At cX2_mayStand 68 (.if_icmp .eq 7) 3 71 := ⟨by decide +kernel, rfl⟩
theorem aX2_mayStand_71 : At cX2_mayStand 71 (.iconst 1) 1 72 := ⟨by decide +kernel, rfl⟩
theorem aX2_mayStand_72 : At cX2_mayStand 72 (.goto 4) 3 75 := ⟨by decide +kernel, rfl⟩
theorem aX2_mayStand_75 : At cX2_mayStand 75 (.iconst 0) 1 76 := ⟨by decide +kernel, rfl⟩
theorem aX2_mayStand_76 : At cX2_mayStand 76 .ireturn 1 77 := ⟨by decide +kernel, rfl⟩
theorem aX2_put_0 : At cX2_put 0 (.aload_n 0) 1 1 := ⟨by decide +kernel, rfl⟩
theorem aX2_put_1 : At cX2_put 1 (.getfield 15) 3 4 := ⟨by decide +kernel, rfl⟩
theorem aX2_put_4 : At cX2_put 4 (.bipush 40) 2 6 := ⟨by decide +kernel, rfl⟩
theorem aX2_put_6 : At cX2_put 6 (.if_icmp .ge 23) 3 9 := ⟨by decide +kernel, rfl⟩
theorem aX2_put_9 : At cX2_put 9 (.aload_n 0) 1 10 := ⟨by decide +kernel, rfl⟩
theorem aX2_put_10 : At cX2_put 10 (.getfield 9) 3 13 := ⟨by decide +kernel, rfl⟩
theorem aX2_put_13 : At cX2_put 13 (.aload_n 0) 1 14 := ⟨by decide +kernel, rfl⟩
theorem aX2_put_14 : At cX2_put 14 (.getfield 15) 3 17 := ⟨by decide +kernel, rfl⟩
theorem aX2_put_17 : At cX2_put 17 (.iload_n 1) 1 18 := ⟨by decide +kernel, rfl⟩
theorem aX2_put_18 : At cX2_put 18 .iastore 1 19 := ⟨by decide +kernel, rfl⟩
theorem aX2_put_19 : At cX2_put 19 (.aload_n 0) 1 20 := ⟨by decide +kernel, rfl⟩
theorem aX2_put_20 : At cX2_put 20 .dup 1 21 := ⟨by decide +kernel, rfl⟩
theorem aX2_put_21 : At cX2_put 21 (.getfield 15) 3 24 := ⟨by decide +kernel, rfl⟩
theorem aX2_put_24 : At cX2_put 24 (.iconst 1) 1 25 := ⟨by decide +kernel, rfl⟩
theorem aX2_put_25 : At cX2_put 25 .iadd 1 26 := ⟨by decide +kernel, rfl⟩
theorem aX2_put_26 : At cX2_put 26 (.putfield 15) 3 29 := ⟨by decide +kernel, rfl⟩
theorem aX2_put_29 : At cX2_put 29 .return_ 1 30 := ⟨by decide +kernel, rfl⟩
theorem aX2_sackAt_0 : At cX2_sackAt 0 (.aload_n 0) 1 1 := ⟨by decide +kernel, rfl⟩
theorem aX2_sackAt_1 : At cX2_sackAt 1 (.getfield 9) 3 4 := ⟨by decide +kernel, rfl⟩
theorem aX2_sackAt_4 : At cX2_sackAt 4 (.iload_n 1) 1 5 := ⟨by decide +kernel, rfl⟩
theorem aX2_sackAt_5 : At cX2_sackAt 5 .iaload 1 6 := ⟨by decide +kernel, rfl⟩
theorem aX2_sackAt_6 : At cX2_sackAt 6 (.bipush 97) 2 8 := ⟨by decide +kernel, rfl⟩
theorem aX2_sackAt_8 : At cX2_sackAt 8 .isub 1 9 := ⟨by decide +kernel, rfl⟩
theorem aX2_sackAt_9 : At cX2_sackAt 9 .ireturn 1 10 := ⟨by decide +kernel, rfl⟩
theorem aX3_codeOf_0 : At cX3_codeOf 0 (.iconst 0) 1 1 := ⟨by decide +kernel, rfl⟩
theorem aX3_codeOf_1 : At cX3_codeOf 1 (.istore_n 2) 1 2 := ⟨by decide +kernel, rfl⟩
theorem aX3_codeOf_2 : At cX3_codeOf 2 (.iconst 1) 1 3 := ⟨by decide +kernel, rfl⟩
theorem aX3_codeOf_3 : At cX3_codeOf 3 (.istore_n 3) 1 4 := ⟨by decide +kernel, rfl⟩
theorem aX3_codeOf_4 : At cX3_codeOf 4 (.iload_n 3) 1 5 := ⟨by decide +kernel, rfl⟩
theorem aX3_codeOf_5 : At cX3_codeOf 5 (.aload_n 0) 1 6 := ⟨by decide +kernel, rfl⟩
theorem aX3_codeOf_6 : At cX3_codeOf 6 (.getfield 18) 3 9 := ⟨by decide +kernel, rfl⟩
theorem aX3_codeOf_9 : At cX3_codeOf 9 (.if_icmp .ge 59) 3 12 := ⟨by decide +kernel, rfl⟩
theorem aX3_codeOf_12 : At cX3_codeOf 12 (.iconst 0) 1 13 := ⟨by decide +kernel, rfl⟩
theorem aX3_codeOf_13 : At cX3_codeOf 13 (.istore 4) 2 15 := ⟨by decide +kernel, rfl⟩
theorem aX3_codeOf_15 : At cX3_codeOf 15 (.iload 4) 2 17 := ⟨by decide +kernel, rfl⟩
theorem aX3_codeOf_17 : At cX3_codeOf 17 (.iload_n 3) 1 18 := ⟨by decide +kernel, rfl⟩
theorem aX3_codeOf_18 : At cX3_codeOf 18 (.if_icmp .ge 44) 3 21 := ⟨by decide +kernel, rfl⟩
theorem aX3_codeOf_21 : At cX3_codeOf 21 (.iload_n 2) 1 22 := ⟨by decide +kernel, rfl⟩
theorem aX3_codeOf_22 : At cX3_codeOf 22 (.iconst 3) 1 23 := ⟨by decide +kernel, rfl⟩
theorem aX3_codeOf_23 : At cX3_codeOf 23 .imul 1 24 := ⟨by decide +kernel, rfl⟩
theorem aX3_codeOf_24 : At cX3_codeOf 24 (.istore_n 2) 1 25 := ⟨by decide +kernel, rfl⟩
theorem aX3_codeOf_25 : At cX3_codeOf 25 (.iload_n 1) 1 26 := ⟨by decide +kernel, rfl⟩
theorem aX3_codeOf_26 : At cX3_codeOf 26 (.iload_n 3) 1 27 := ⟨by decide +kernel, rfl⟩
theorem aX3_codeOf_27 : At cX3_codeOf 27 (.iload 4) 2 29 := ⟨by decide +kernel, rfl⟩
theorem aX3_codeOf_29 : At cX3_codeOf 29 (.invokestatic 34) 3 32 := ⟨by decide +kernel, rfl⟩
theorem aX3_codeOf_32 : At cX3_codeOf 32 .iand 1 33 := ⟨by decide +kernel, rfl⟩
theorem aX3_codeOf_33 : At cX3_codeOf 33 (.ifCond .eq 9) 3 36 := ⟨by decide +kernel, rfl⟩
theorem aX3_codeOf_36 : At cX3_codeOf 36 (.iinc 2 1) 3 39 := ⟨by decide +kernel, rfl⟩
theorem aX3_codeOf_39 : At cX3_codeOf 39 (.goto 17) 3 42 := ⟨by decide +kernel, rfl⟩
theorem aX3_codeOf_42 : At cX3_codeOf 42 (.iload_n 1) 1 43 := ⟨by decide +kernel, rfl⟩
theorem aX3_codeOf_43 : At cX3_codeOf 43 (.iload 4) 2 45 := ⟨by decide +kernel, rfl⟩
theorem aX3_codeOf_45 : At cX3_codeOf 45 (.iload_n 3) 1 46 := ⟨by decide +kernel, rfl⟩
theorem aX3_codeOf_46 : At cX3_codeOf 46 (.invokestatic 34) 3 49 := ⟨by decide +kernel, rfl⟩
theorem aX3_codeOf_49 : At cX3_codeOf 49 .iand 1 50 := ⟨by decide +kernel, rfl⟩
theorem aX3_codeOf_50 : At cX3_codeOf 50 (.ifCond .eq 6) 3 53 := ⟨by decide +kernel, rfl⟩
theorem aX3_codeOf_53 : At cX3_codeOf 53 (.iinc 2 2) 3 56 := ⟨by decide +kernel, rfl⟩
theorem aX3_codeOf_56 : At cX3_codeOf 56 (.iinc 4 1) 3 59 := ⟨by decide +kernel, rfl⟩
theorem aX3_codeOf_59 : At cX3_codeOf 59 (.goto (-44)) 3 62 := ⟨by decide +kernel, rfl⟩
theorem aX3_codeOf_62 : At cX3_codeOf 62 (.iinc 3 1) 3 65 := ⟨by decide +kernel, rfl⟩
theorem aX3_codeOf_65 : At cX3_codeOf 65 (.goto (-61)) 3 68 := ⟨by decide +kernel, rfl⟩
theorem aX3_codeOf_68 : At cX3_codeOf 68 (.iload_n 2) 1 69 := ⟨by decide +kernel, rfl⟩
theorem aX3_codeOf_69 : At cX3_codeOf 69 .ireturn 1 70 := ⟨by decide +kernel, rfl⟩
theorem aX3_costOfLaying_0 : At cX3_costOfLaying 0 (.iload_n 2) 1 1 := ⟨by decide +kernel, rfl⟩
theorem aX3_costOfLaying_1 : At cX3_costOfLaying 1 (.iconst (-1)) 1 2 := ⟨by decide +kernel, rfl⟩
theorem aX3_costOfLaying_2 : At cX3_costOfLaying 2 (.if_icmp .eq 12) 3 5 := ⟨by decide +kernel, rfl⟩
theorem aX3_costOfLaying_5 : At cX3_costOfLaying 5 (.iload_n 1) 1 6 := ⟨by decide +kernel, rfl⟩
theorem aX3_costOfLaying_6 : At cX3_costOfLaying 6 (.iload_n 2) 1 7 := ⟨by decide +kernel, rfl⟩
theorem aX3_costOfLaying_7 : At cX3_costOfLaying 7 (.iload_n 3) 1 8 := ⟨by decide +kernel, rfl⟩
theorem aX3_costOfLaying_8 : At cX3_costOfLaying 8 (.invokestatic 63) 3 11 := ⟨by decide +kernel, rfl⟩
theorem aX3_costOfLaying_11 : At cX3_costOfLaying 11 (.ifCond .ne 16) 3 14 := ⟨by decide +kernel, rfl⟩
theorem aX3_costOfLaying_14 : At cX3_costOfLaying 14 (.iconst 1) 1 15 := ⟨by decide +kernel, rfl⟩
theorem aX3_costOfLaying_15 : At cX3_costOfLaying 15 (.aload_n 0) 1 16 := ⟨by decide +kernel, rfl⟩
theorem aX3_costOfLaying_16 : At cX3_costOfLaying 16 (.iload_n 1) 1 17 := ⟨by decide +kernel, rfl⟩
theorem aX3_costOfLaying_17 : At cX3_costOfLaying 17 (.iconst 0) 1 18 := ⟨by decide +kernel, rfl⟩
theorem aX3_costOfLaying_18 : At cX3_costOfLaying 18 (.invokevirtual 47) 3 21 := ⟨by decide +kernel, rfl⟩
theorem aX3_costOfLaying_21 : At cX3_costOfLaying 21 (.iload_n 3) 1 22 := ⟨by decide +kernel, rfl⟩
theorem aX3_costOfLaying_22 : At cX3_costOfLaying 22 (.invokestatic 50) 3 25 := ⟨by decide +kernel, rfl⟩
theorem aX3_costOfLaying_25 : At cX3_costOfLaying 25 .iadd 1 26 := ⟨by decide +kernel, rfl⟩
theorem aX3_costOfLaying_26 : At cX3_costOfLaying 26 .ireturn 1 27 := ⟨by decide +kernel, rfl⟩
theorem aX3_costOfLaying_27 : At cX3_costOfLaying 27 (.aload_n 0) 1 28 := ⟨by decide +kernel, rfl⟩
theorem aX3_costOfLaying_28 : At cX3_costOfLaying 28 (.aload_n 0) 1 29 := ⟨by decide +kernel, rfl⟩
theorem aX3_costOfLaying_29 : At cX3_costOfLaying 29 (.iload_n 1) 1 30 := ⟨by decide +kernel, rfl⟩
theorem aX3_costOfLaying_30 : At cX3_costOfLaying 30 (.iload_n 3) 1 31 := ⟨by decide +kernel, rfl⟩
theorem aX3_costOfLaying_31 : At cX3_costOfLaying 31 (.iload_n 2) 1 32 := ⟨by decide +kernel, rfl⟩
theorem aX3_costOfLaying_32 : At cX3_costOfLaying 32 (.invokevirtual 67) 3 35 := ⟨by decide +kernel, rfl⟩
theorem aX3_costOfLaying_35 : At cX3_costOfLaying 35 (.iconst 1) 1 36 := ⟨by decide +kernel, rfl⟩
theorem aX3_costOfLaying_36 : At cX3_costOfLaying 36 (.invokevirtual 47) 3 39 := ⟨by decide +kernel, rfl⟩
theorem aX3_costOfLaying_39 : At cX3_costOfLaying 39 (.istore 4) 2 41 := ⟨by decide +kernel, rfl⟩
theorem aX3_costOfLaying_41 : At cX3_costOfLaying 41 (.aload_n 0) 1 42 := ⟨by decide +kernel, rfl⟩
theorem aX3_costOfLaying_42 : At cX3_costOfLaying 42 (.aload_n 0) 1 43 := ⟨by decide +kernel, rfl⟩
theorem aX3_costOfLaying_43 : At cX3_costOfLaying 43 (.iload_n 1) 1 44 := ⟨by decide +kernel, rfl⟩
theorem aX3_costOfLaying_44 : At cX3_costOfLaying 44 (.iload_n 2) 1 45 := ⟨by decide +kernel, rfl⟩
theorem aX3_costOfLaying_45 : At cX3_costOfLaying 45 (.iload_n 3) 1 46 := ⟨by decide +kernel, rfl⟩
theorem aX3_costOfLaying_46 : At cX3_costOfLaying 46 (.invokevirtual 67) 3 49 := ⟨by decide +kernel, rfl⟩
theorem aX3_costOfLaying_49 : At cX3_costOfLaying 49 (.iconst 1) 1 50 := ⟨by decide +kernel, rfl⟩
theorem aX3_costOfLaying_50 : At cX3_costOfLaying 50 (.invokevirtual 47) 3 53 := ⟨by decide +kernel, rfl⟩
theorem aX3_costOfLaying_53 : At cX3_costOfLaying 53 (.istore 5) 2 55 := ⟨by decide +kernel, rfl⟩
theorem aX3_costOfLaying_55 : At cX3_costOfLaying 55 (.iconst 1) 1 56 := ⟨by decide +kernel, rfl⟩
theorem aX3_costOfLaying_56 : At cX3_costOfLaying 56 (.iload 4) 2 58 := ⟨by decide +kernel, rfl⟩
theorem aX3_costOfLaying_58 : At cX3_costOfLaying 58 (.iload 5) 2 60 := ⟨by decide +kernel, rfl⟩
theorem aX3_costOfLaying_60 : At cX3_costOfLaying 60 (.iload_n 3) 1 61 := ⟨by decide +kernel, rfl⟩
theorem aX3_costOfLaying_61 : At cX3_costOfLaying 61 (.invokestatic 70) 3 64 := ⟨by decide +kernel, rfl⟩
theorem aX3_costOfLaying_64 : At cX3_costOfLaying 64 .iadd 1 65 := ⟨by decide +kernel, rfl⟩
theorem aX3_costOfLaying_65 : At cX3_costOfLaying 65 .ireturn 1 66 := ⟨by decide +kernel, rfl⟩
theorem aX3_costWith_0 : At cX3_costWith 0 (.iload_n 0) 1 1 := ⟨by decide +kernel, rfl⟩
theorem aX3_costWith_1 : At cX3_costWith 1 (.iload_n 1) 1 2 := ⟨by decide +kernel, rfl⟩
theorem aX3_costWith_2 : At cX3_costWith 2 (.iconst 4) 1 3 := ⟨by decide +kernel, rfl⟩
theorem aX3_costWith_3 : At cX3_costWith 3 .imul 1 4 := ⟨by decide +kernel, rfl⟩
theorem aX3_costWith_4 : At cX3_costWith 4 .ishr 1 5 := ⟨by decide +kernel, rfl⟩
theorem aX3_costWith_5 : At cX3_costWith 5 (.bipush 15) 2 7 := ⟨by decide +kernel, rfl⟩
theorem aX3_costWith_7 : At cX3_costWith 7 .iand 1 8 := ⟨by decide +kernel, rfl⟩
theorem aX3_costWith_8 : At cX3_costWith 8 .ireturn 1 9 := ⟨by decide +kernel, rfl⟩
theorem aX3_costs_0 : At cX3_costs 0 (.aload_n 0) 1 1 := ⟨by decide +kernel, rfl⟩
theorem aX3_costs_1 : At cX3_costs 1 (.iload_n 1) 1 2 := ⟨by decide +kernel, rfl⟩
theorem aX3_costs_2 : At cX3_costs 2 (.invokevirtual 43) 3 5 := ⟨by decide +kernel, rfl⟩
theorem aX3_costs_5 : At cX3_costs 5 (.ifCond .ne 11) 3 8 := ⟨by decide +kernel, rfl⟩
theorem aX3_costs_8 : At cX3_costs 8 (.iload_n 2) 1 9 := ⟨by decide +kernel, rfl⟩
theorem aX3_costs_9 : At cX3_costs 9 (.aload_n 0) 1 10 := ⟨by decide +kernel, rfl⟩
theorem aX3_costs_10 : At cX3_costs 10 (.getfield 24) 3 13 := ⟨by decide +kernel, rfl⟩
theorem aX3_costs_13 : At cX3_costs 13 (.if_icmp .le 5) 3 16 := ⟨by decide +kernel, rfl⟩
theorem aX3_costs_16 : At cX3_costs 16 (.iconst 0) 1 17 := ⟨by decide +kernel, rfl⟩
theorem aX3_costs_17 : At cX3_costs 17 .ireturn 1 18 := ⟨by decide +kernel, rfl⟩
theorem aX3_costs_18 : At cX3_costs 18 (.aload_n 0) 1 19 := ⟨by decide +kernel, rfl⟩
theorem aX3_costs_19 : At cX3_costs 19 (.iload_n 1) 1 20 := ⟨by decide +kernel, rfl⟩
theorem aX3_costs_20 : At cX3_costs 20 (.invokevirtual 57) 3 23 := ⟨by decide +kernel, rfl⟩
theorem aX3_costs_23 : At cX3_costs 23 (.istore_n 3) 1 24 := ⟨by decide +kernel, rfl⟩
theorem aX3_costs_24 : At cX3_costs 24 (.iload_n 3) 1 25 := ⟨by decide +kernel, rfl⟩
theorem aX3_costs_25 : At cX3_costs 25 (.aload_n 0) 1 26 := ⟨by decide +kernel, rfl⟩
theorem aX3_costs_26 : At cX3_costs 26 (.getfield 31) 3 29 := ⟨by decide +kernel, rfl⟩
theorem aX3_costs_29 : At cX3_costs 29 .arraylength 1 30 := ⟨by decide +kernel, rfl⟩
theorem aX3_costs_30 : At cX3_costs 30 (.if_icmp .lt 5) 3 33 := ⟨by decide +kernel, rfl⟩
theorem aX3_costs_33 : At cX3_costs 33 (.iconst 0) 1 34 := ⟨by decide +kernel, rfl⟩
theorem aX3_costs_34 : At cX3_costs 34 .ireturn 1 35 := ⟨by decide +kernel, rfl⟩
theorem aX3_costs_35 : At cX3_costs 35 (.aload_n 0) 1 36 := ⟨by decide +kernel, rfl⟩
theorem aX3_costs_36 : At cX3_costs 36 (.getfield 31) 3 39 := ⟨by decide +kernel, rfl⟩
theorem aX3_costs_39 : At cX3_costs 39 (.iload_n 3) 1 40 := ⟨by decide +kernel, rfl⟩
theorem aX3_costs_40 : At cX3_costs 40 .iaload 1 41 := ⟨by decide +kernel, rfl⟩
theorem aX3_costs_41 : At cX3_costs 41 (.ifCond .ne 15) 3 44 := ⟨by decide +kernel, rfl⟩
theorem aX3_costs_44 : At cX3_costs 44 (.aload_n 0) 1 45 := ⟨by decide +kernel, rfl⟩
theorem aX3_costs_45 : At cX3_costs 45 (.getfield 31) 3 48 := ⟨by decide +kernel, rfl⟩
theorem aX3_costs_48 : At cX3_costs 48 (.iload_n 3) 1 49 := ⟨by decide +kernel, rfl⟩
theorem aX3_costs_49 : At cX3_costs 49 (.aload_n 0) 1 50 := ⟨by decide +kernel, rfl⟩
theorem aX3_costs_50 : At cX3_costs 50 (.iload_n 1) 1 51 := ⟨by decide +kernel, rfl⟩
theorem aX3_costs_51 : At cX3_costs 51 (.iload_n 2) 1 52 := ⟨by decide +kernel, rfl⟩
theorem aX3_costs_52 : At cX3_costs 52 (.invokevirtual 60) 3 55 := ⟨by decide +kernel, rfl⟩
theorem aX3_costs_55 : At cX3_costs 55 .iastore 1 56 := ⟨by decide +kernel, rfl⟩
theorem aX3_costs_56 : At cX3_costs 56 (.aload_n 0) 1 57 := ⟨by decide +kernel, rfl⟩
theorem aX3_costs_57 : At cX3_costs 57 (.getfield 31) 3 60 := ⟨by decide +kernel, rfl⟩
theorem aX3_costs_60 : At cX3_costs 60 (.iload_n 3) 1 61 := ⟨by decide +kernel, rfl⟩
theorem aX3_costs_61 : At cX3_costs 61 .iaload 1 62 := ⟨by decide +kernel, rfl⟩
theorem aX3_costs_62 : At cX3_costs 62 .ireturn 1 63 := ⟨by decide +kernel, rfl⟩
theorem aX3_fewestLifts_0 : At cX3_fewestLifts 0 (.aload_n 0) 1 1 := ⟨by decide +kernel, rfl⟩
theorem aX3_fewestLifts_1 : At cX3_fewestLifts 1 (.iload_n 1) 1 2 := ⟨by decide +kernel, rfl⟩
theorem aX3_fewestLifts_2 : At cX3_fewestLifts 2 (.invokevirtual 43) 3 5 := ⟨by decide +kernel, rfl⟩
theorem aX3_fewestLifts_5 : At cX3_fewestLifts 5 (.ifCond .eq 5) 3 8 := ⟨by decide +kernel, rfl⟩
theorem aX3_fewestLifts_8 : At cX3_fewestLifts 8 (.iconst 0) 1 9 := ⟨by decide +kernel, rfl⟩
theorem aX3_fewestLifts_9 : At cX3_fewestLifts 9 .ireturn 1 10 := ⟨by decide +kernel, rfl⟩
theorem aX3_fewestLifts_10 : At cX3_fewestLifts 10 (.iload_n 2) 1 11 := ⟨by decide +kernel, rfl⟩
theorem aX3_fewestLifts_11 : At cX3_fewestLifts 11 (.iconst (-1)) 1 12 := ⟨by decide +kernel, rfl⟩
theorem aX3_fewestLifts_12 : At cX3_fewestLifts 12 (.if_icmp .eq 14) 3 15 := ⟨by decide +kernel, rfl⟩
theorem aX3_fewestLifts_15 : At cX3_fewestLifts 15 (.aload_n 0) 1 16 := ⟨by decide +kernel, rfl⟩
theorem aX3_fewestLifts_16 : At cX3_fewestLifts 16 (.iload_n 1) 1 17 := ⟨by decide +kernel, rfl⟩
theorem aX3_fewestLifts_17 : At cX3_fewestLifts 17 (.iconst 0) 1 18 := ⟨by decide +kernel, rfl⟩
theorem aX3_fewestLifts_18 : At cX3_fewestLifts 18 (.invokevirtual 47) 3 21 := ⟨by decide +kernel, rfl⟩
theorem aX3_fewestLifts_21 : At cX3_fewestLifts 21 (.iload_n 2) 1 22 := ⟨by decide +kernel, rfl⟩
theorem aX3_fewestLifts_22 : At cX3_fewestLifts 22 (.invokestatic 50) 3 25 := ⟨by decide +kernel, rfl⟩
theorem aX3_fewestLifts_25 : At cX3_fewestLifts 25 .ireturn 1 26 := ⟨by decide +kernel, rfl⟩
theorem aX3_fewestLifts_26 : At cX3_fewestLifts 26 (.bipush 15) 2 28 := ⟨by decide +kernel, rfl⟩
theorem aX3_fewestLifts_28 : At cX3_fewestLifts 28 (.istore_n 3) 1 29 := ⟨by decide +kernel, rfl⟩
theorem aX3_fewestLifts_29 : At cX3_fewestLifts 29 (.iconst 0) 1 30 := ⟨by decide +kernel, rfl⟩
theorem aX3_fewestLifts_30 : At cX3_fewestLifts 30 (.istore 4) 2 32 := ⟨by decide +kernel, rfl⟩
theorem aX3_fewestLifts_32 : At cX3_fewestLifts 32 (.iload 4) 2 34 := ⟨by decide +kernel, rfl⟩
theorem aX3_fewestLifts_34 : At cX3_fewestLifts 34 (.aload_n 0) 1 35 := ⟨by decide +kernel, rfl⟩
theorem aX3_fewestLifts_35 : At cX3_fewestLifts 35 (.getfield 18) 3 38 := ⟨by decide +kernel, rfl⟩
theorem aX3_fewestLifts_38 : At cX3_fewestLifts 38 (.if_icmp .ge 22) 3 41 := ⟨by decide +kernel, rfl⟩
theorem aX3_fewestLifts_41 : At cX3_fewestLifts 41 (.iload_n 3) 1 42 := ⟨by decide +kernel, rfl⟩
theorem aX3_fewestLifts_42 : At cX3_fewestLifts 42 (.aload_n 0) 1 43 := ⟨by decide +kernel, rfl⟩
theorem aX3_fewestLifts_43 : At cX3_fewestLifts 43 (.iload_n 1) 1 44 := ⟨by decide +kernel, rfl⟩
theorem aX3_fewestLifts_44 : At cX3_fewestLifts 44 (.iconst (-1)) 1 45 := ⟨by decide +kernel, rfl⟩
theorem aX3_fewestLifts_45 : At cX3_fewestLifts 45 (.iload 4) 2 47 := ⟨by decide +kernel, rfl⟩
theorem aX3_fewestLifts_47 : At cX3_fewestLifts 47 (.invokevirtual 53) 3 50 := ⟨by decide +kernel, rfl⟩
theorem aX3_fewestLifts_50 : At cX3_fewestLifts 50 (.invokestatic 9) 3 53 := ⟨by decide +kernel, rfl⟩
theorem aX3_fewestLifts_53 : At cX3_fewestLifts 53 (.istore_n 3) 1 54 := ⟨by decide +kernel, rfl⟩
theorem aX3_fewestLifts_54 : At cX3_fewestLifts 54 (.iinc 4 1) 3 57 := ⟨by decide +kernel, rfl⟩
theorem aX3_fewestLifts_57 : At cX3_fewestLifts 57 (.goto (-25)) 3 60 := ⟨by decide +kernel, rfl⟩
theorem aX3_fewestLifts_60 : At cX3_fewestLifts 60 (.iload_n 3) 1 61 := ⟨by decide +kernel, rfl⟩
theorem aX3_fewestLifts_61 : At cX3_fewestLifts 61 .ireturn 1 62 := ⟨by decide +kernel, rfl⟩
theorem aX3_findCosts_0 : At cX3_findCosts 0 (.iconst 1) 1 1 := ⟨by decide +kernel, rfl⟩
theorem aX3_findCosts_1 : At cX3_findCosts 1 (.aload_n 0) 1 2 := ⟨by decide +kernel, rfl⟩
theorem aX3_findCosts_2 : At cX3_findCosts 2 (.getfield 18) 3 5 := ⟨by decide +kernel, rfl⟩
theorem aX3_findCosts_5 : At cX3_findCosts 5 (.iconst 4) 1 6 := ⟨by decide +kernel, rfl⟩
theorem aX3_findCosts_6 : At cX3_findCosts 6 .imul 1 7 := ⟨by decide +kernel, rfl⟩
theorem aX3_findCosts_7 : At cX3_findCosts 7 .ishl 1 8 := ⟨by decide +kernel, rfl⟩
theorem aX3_findCosts_8 : At cX3_findCosts 8 (.iconst 1) 1 9 := ⟨by decide +kernel, rfl⟩
theorem aX3_findCosts_9 : At cX3_findCosts 9 .isub 1 10 := ⟨by decide +kernel, rfl⟩
theorem aX3_findCosts_10 : At cX3_findCosts 10 (.istore_n 3) 1 11 := ⟨by decide +kernel, rfl⟩
theorem aX3_findCosts_11 : At cX3_findCosts 11 (.iconst 1) 1 12 := ⟨by decide +kernel, rfl⟩
theorem aX3_findCosts_12 : At cX3_findCosts 12 (.istore 4) 2 14 := ⟨by decide +kernel, rfl⟩
theorem aX3_findCosts_14 : At cX3_findCosts 14 (.iload 4) 2 16 := ⟨by decide +kernel, rfl⟩
theorem aX3_findCosts_16 : At cX3_findCosts 16 (.aload_n 0) 1 17 := ⟨by decide +kernel, rfl⟩
theorem aX3_findCosts_17 : At cX3_findCosts 17 (.getfield 18) 3 20 := ⟨by decide +kernel, rfl⟩
theorem aX3_findCosts_20 : At cX3_findCosts 20 (.if_icmp .ge 108) 3 23 := ⟨by decide +kernel, rfl⟩
theorem aX3_findCosts_23 : At cX3_findCosts 23 (.iconst 0) 1 24 := ⟨by decide +kernel, rfl⟩
theorem aX3_findCosts_24 : At cX3_findCosts 24 (.istore 5) 2 26 := ⟨by decide +kernel, rfl⟩
theorem aX3_findCosts_26 : At cX3_findCosts 26 (.iload 5) 2 28 := ⟨by decide +kernel, rfl⟩
theorem aX3_findCosts_28 : At cX3_findCosts 28 (.iload 4) 2 30 := ⟨by decide +kernel, rfl⟩
theorem aX3_findCosts_30 : At cX3_findCosts 30 (.if_icmp .ge 92) 3 33 := ⟨by decide +kernel, rfl⟩
theorem aX3_findCosts_33 : At cX3_findCosts 33 (.iload_n 1) 1 34 := ⟨by decide +kernel, rfl⟩
theorem aX3_findCosts_34 : At cX3_findCosts 34 (.iload 4) 2 36 := ⟨by decide +kernel, rfl⟩
theorem aX3_findCosts_36 : At cX3_findCosts 36 (.iload 5) 2 38 := ⟨by decide +kernel, rfl⟩
theorem aX3_findCosts_38 : At cX3_findCosts 38 (.invokestatic 63) 3 41 := ⟨by decide +kernel, rfl⟩
theorem aX3_findCosts_41 : At cX3_findCosts 41 (.ifCond .eq 75) 3 44 := ⟨by decide +kernel, rfl⟩
theorem aX3_findCosts_44 : At cX3_findCosts 44 (.aload_n 0) 1 45 := ⟨by decide +kernel, rfl⟩
theorem aX3_findCosts_45 : At cX3_findCosts 45 (.aload_n 0) 1 46 := ⟨by decide +kernel, rfl⟩
theorem aX3_findCosts_46 : At cX3_findCosts 46 (.iload_n 1) 1 47 := ⟨by decide +kernel, rfl⟩
theorem aX3_findCosts_47 : At cX3_findCosts 47 (.iload 4) 2 49 := ⟨by decide +kernel, rfl⟩
theorem aX3_findCosts_49 : At cX3_findCosts 49 (.iload 5) 2 51 := ⟨by decide +kernel, rfl⟩
theorem aX3_findCosts_51 : At cX3_findCosts 51 (.invokevirtual 67) 3 54 := ⟨by decide +kernel, rfl⟩
theorem aX3_findCosts_54 : At cX3_findCosts 54 (.iload_n 2) 1 55 := ⟨by decide +kernel, rfl⟩
theorem aX3_findCosts_55 : At cX3_findCosts 55 (.iconst 1) 1 56 := ⟨by decide +kernel, rfl⟩
theorem aX3_findCosts_56 : At cX3_findCosts 56 .iadd 1 57 := ⟨by decide +kernel, rfl⟩
theorem aX3_findCosts_57 : At cX3_findCosts 57 (.invokevirtual 47) 3 60 := ⟨by decide +kernel, rfl⟩
theorem aX3_findCosts_60 : At cX3_findCosts 60 (.istore 6) 2 62 := ⟨by decide +kernel, rfl⟩
theorem aX3_findCosts_62 : At cX3_findCosts 62 (.aload_n 0) 1 63 := ⟨by decide +kernel, rfl⟩
theorem aX3_findCosts_63 : At cX3_findCosts 63 (.aload_n 0) 1 64 := ⟨by decide +kernel, rfl⟩
theorem aX3_findCosts_64 : At cX3_findCosts 64 (.iload_n 1) 1 65 := ⟨by decide +kernel, rfl⟩
theorem aX3_findCosts_65 : At cX3_findCosts 65 (.iload 5) 2 67 := ⟨by decide +kernel, rfl⟩
theorem aX3_findCosts_67 : At cX3_findCosts 67 (.iload 4) 2 69 := ⟨by decide +kernel, rfl⟩
theorem aX3_findCosts_69 : At cX3_findCosts 69 (.invokevirtual 67) 3 72 := ⟨by decide +kernel, rfl⟩
theorem aX3_findCosts_72 : At cX3_findCosts 72 (.iload_n 2) 1 73 := ⟨by decide +kernel, rfl⟩
theorem aX3_findCosts_73 : At cX3_findCosts 73 (.iconst 1) 1 74 := ⟨by decide +kernel, rfl⟩
theorem aX3_findCosts_74 : At cX3_findCosts 74 .iadd 1 75 := ⟨by decide +kernel, rfl⟩
theorem aX3_findCosts_75 : At cX3_findCosts 75 (.invokevirtual 47) 3 78 := ⟨by decide +kernel, rfl⟩
theorem aX3_findCosts_78 : At cX3_findCosts 78 (.istore 7) 2 80 := ⟨by decide +kernel, rfl⟩
theorem aX3_findCosts_80 : At cX3_findCosts 80 (.iload_n 3) 1 81 := ⟨by decide +kernel, rfl⟩
theorem aX3_findCosts_81 : At cX3_findCosts 81 (.iload 5) 2 83 := ⟨by decide +kernel, rfl⟩
theorem aX3_findCosts_83 : At cX3_findCosts 83 (.iconst 1) 1 84 := ⟨by decide +kernel, rfl⟩
theorem aX3_findCosts_84 : At cX3_findCosts 84 (.iload 6) 2 86 := ⟨by decide +kernel, rfl⟩
theorem aX3_findCosts_86 : At cX3_findCosts 86 (.iload 7) 2 88 := ⟨by decide +kernel, rfl⟩
theorem aX3_findCosts_88 : At cX3_findCosts 88 (.iload 4) 2 90 := ⟨by decide +kernel, rfl⟩
theorem aX3_findCosts_90 : At cX3_findCosts 90 (.invokestatic 70) 3 93 := ⟨by decide +kernel, rfl⟩
theorem aX3_findCosts_93 : At cX3_findCosts 93 .iadd 1 94 := ⟨by decide +kernel, rfl⟩
theorem aX3_findCosts_94 : At cX3_findCosts 94 (.invokestatic 73) 3 97 := ⟨by decide +kernel, rfl⟩
theorem aX3_findCosts_97 : At cX3_findCosts 97 (.istore_n 3) 1 98 := ⟨by decide +kernel, rfl⟩
theorem aX3_findCosts_98 : At cX3_findCosts 98 (.iload_n 3) 1 99 := ⟨by decide +kernel, rfl⟩
theorem aX3_findCosts_99 : At cX3_findCosts 99 (.iload 4) 2 101 := ⟨by decide +kernel, rfl⟩
theorem aX3_findCosts_101 : At cX3_findCosts 101 (.iconst 1) 1 102 := ⟨by decide +kernel, rfl⟩
theorem aX3_findCosts_102 : At cX3_findCosts 102 (.iload 6) 2 104 := ⟨by decide +kernel, rfl⟩
theorem aX3_findCosts_104 : At cX3_findCosts 104 (.iload 7) 2 106 := ⟨by decide +kernel, rfl⟩
theorem aX3_findCosts_106 : At cX3_findCosts 106 (.iload 5) 2 108 := ⟨by decide +kernel, rfl⟩
theorem aX3_findCosts_108 : At cX3_findCosts 108 (.invokestatic 70) 3 111 := ⟨by decide +kernel, rfl⟩
theorem aX3_findCosts_111 : At cX3_findCosts 111 .iadd 1 112 := ⟨by decide +kernel, rfl⟩
theorem aX3_findCosts_112 : At cX3_findCosts 112 (.invokestatic 73) 3 115 := ⟨by decide +kernel, rfl⟩
theorem aX3_findCosts_115 : At cX3_findCosts 115 (.istore_n 3) 1 116 := ⟨by decide +kernel, rfl⟩
theorem aX3_findCosts_116 : At cX3_findCosts 116 (.iinc 5 1) 3 119 := ⟨by decide +kernel, rfl⟩
theorem aX3_findCosts_119 : At cX3_findCosts 119 (.goto (-93)) 3 122 := ⟨by decide +kernel, rfl⟩
theorem aX3_findCosts_122 : At cX3_findCosts 122 (.iinc 4 1) 3 125 := ⟨by decide +kernel, rfl⟩
theorem aX3_findCosts_125 : At cX3_findCosts 125 (.goto (-111)) 3 128 := ⟨by decide +kernel, rfl⟩
theorem aX3_findCosts_128 : At cX3_findCosts 128 (.aload_n 0) 1 129 := ⟨by decide +kernel, rfl⟩
theorem aX3_findCosts_129 : At cX3_findCosts 129 (.iload_n 1) 1 130 := ⟨by decide +kernel, rfl⟩
theorem aX3_findCosts_130 : At cX3_findCosts 130 (.iload_n 3) 1 131 := ⟨by decide +kernel, rfl⟩
theorem aX3_findCosts_131 : At cX3_findCosts 131 (.invokevirtual 76) 3 134 := ⟨by decide +kernel, rfl⟩
theorem aX3_findCosts_134 : At cX3_findCosts 134 .ireturn 1 135 := ⟨by decide +kernel, rfl⟩
theorem aX3_firstOf_0 : At cX3_firstOf 0 (.iload_n 3) 1 1 := ⟨by decide +kernel, rfl⟩
theorem aX3_firstOf_1 : At cX3_firstOf 1 (.ifCond .ne 5) 3 4 := ⟨by decide +kernel, rfl⟩
theorem aX3_firstOf_4 : At cX3_firstOf 4 (.iconst (-1)) 1 5 := ⟨by decide +kernel, rfl⟩
theorem aX3_firstOf_5 : At cX3_firstOf 5 .ireturn 1 6 := ⟨by decide +kernel, rfl⟩
theorem aX3_firstOf_6 : At cX3_firstOf 6 (.iconst 0) 1 7 := ⟨by decide +kernel, rfl⟩
theorem aX3_firstOf_7 : At cX3_firstOf 7 (.istore 4) 2 9 := ⟨by decide +kernel, rfl⟩
theorem aX3_firstOf_9 : At cX3_firstOf 9 (.iload 4) 2 11 := ⟨by decide +kernel, rfl⟩
theorem aX3_firstOf_11 : At cX3_firstOf 11 (.aload_n 0) 1 12 := ⟨by decide +kernel, rfl⟩
theorem aX3_firstOf_12 : At cX3_firstOf 12 (.getfield 18) 3 15 := ⟨by decide +kernel, rfl⟩
theorem aX3_firstOf_15 : At cX3_firstOf 15 (.if_icmp .ge 30) 3 18 := ⟨by decide +kernel, rfl⟩
theorem aX3_firstOf_18 : At cX3_firstOf 18 (.iload 4) 2 20 := ⟨by decide +kernel, rfl⟩
theorem aX3_firstOf_20 : At cX3_firstOf 20 (.iload_n 2) 1 21 := ⟨by decide +kernel, rfl⟩
theorem aX3_firstOf_21 : At cX3_firstOf 21 (.if_icmp .eq 18) 3 24 := ⟨by decide +kernel, rfl⟩
theorem aX3_firstOf_24 : At cX3_firstOf 24 (.aload_n 0) 1 25 := ⟨by decide +kernel, rfl⟩
theorem aX3_firstOf_25 : At cX3_firstOf 25 (.iload_n 1) 1 26 := ⟨by decide +kernel, rfl⟩
theorem aX3_firstOf_26 : At cX3_firstOf 26 (.iload_n 2) 1 27 := ⟨by decide +kernel, rfl⟩
theorem aX3_firstOf_27 : At cX3_firstOf 27 (.iload 4) 2 29 := ⟨by decide +kernel, rfl⟩
theorem aX3_firstOf_29 : At cX3_firstOf 29 (.invokevirtual 53) 3 32 := ⟨by decide +kernel, rfl⟩
theorem aX3_firstOf_32 : At cX3_firstOf 32 (.iload_n 3) 1 33 := ⟨by decide +kernel, rfl⟩
theorem aX3_firstOf_33 : At cX3_firstOf 33 (.if_icmp .ne 6) 3 36 := ⟨by decide +kernel, rfl⟩
theorem aX3_firstOf_36 : At cX3_firstOf 36 (.iload 4) 2 38 := ⟨by decide +kernel, rfl⟩
theorem aX3_firstOf_38 : At cX3_firstOf 38 .ireturn 1 39 := ⟨by decide +kernel, rfl⟩
theorem aX3_firstOf_39 : At cX3_firstOf 39 (.iinc 4 1) 3 42 := ⟨by decide +kernel, rfl⟩
theorem aX3_firstOf_42 : At cX3_firstOf 42 (.goto (-33)) 3 45 := ⟨by decide +kernel, rfl⟩
theorem aX3_firstOf_45 : At cX3_firstOf 45 (.iconst (-1)) 1 46 := ⟨by decide +kernel, rfl⟩
theorem aX3_firstOf_46 : At cX3_firstOf 46 .ireturn 1 47 := ⟨by decide +kernel, rfl⟩
theorem aX3_init_0 : At cX3_init 0 (.aload_n 0) 1 1 := ⟨by decide +kernel, rfl⟩
theorem aX3_init_1 : At cX3_init 1 (.invokespecial 3) 3 4 := ⟨by decide +kernel, rfl⟩
theorem aX3_init_4 : At cX3_init 4 (.aload_n 0) 1 5 := ⟨by decide +kernel, rfl⟩
theorem aX3_init_5 : At cX3_init 5 (.iconst 0) 1 6 := ⟨by decide +kernel, rfl⟩
theorem aX3_init_6 : At cX3_init 6 (.iload_n 1) 1 7 := ⟨by decide +kernel, rfl⟩
theorem aX3_init_7 : At cX3_init 7 (.iconst 5) 1 8 := ⟨by decide +kernel, rfl⟩
theorem aX3_init_8 : At cX3_init 8 (.invokestatic 9) 3 11 := ⟨by decide +kernel, rfl⟩
theorem aX3_init_11 : At cX3_init 11 (.invokestatic 15) 3 14 := ⟨by decide +kernel, rfl⟩
theorem aX3_init_14 : At cX3_init 14 (.putfield 18) 3 17 := ⟨by decide +kernel, rfl⟩
theorem aX3_init_17 : At cX3_init 17 (.aload_n 0) 1 18 := ⟨by decide +kernel, rfl⟩
theorem aX3_init_18 : At cX3_init 18 (.aload_n 0) 1 19 := ⟨by decide +kernel, rfl⟩
theorem aX3_init_19 : At cX3_init 19 (.getfield 18) 3 22 := ⟨by decide +kernel, rfl⟩
theorem aX3_init_22 : At cX3_init 22 (.aload_n 0) 1 23 := ⟨by decide +kernel, rfl⟩
theorem aX3_init_23 : At cX3_init 23 (.getfield 18) 3 26 := ⟨by decide +kernel, rfl⟩
theorem aX3_init_26 : At cX3_init 26 (.iconst 1) 1 27 := ⟨by decide +kernel, rfl⟩
theorem aX3_init_27 : At cX3_init 27 .isub 1 28 := ⟨by decide +kernel, rfl⟩
theorem aX3_init_28 : At cX3_init 28 .imul 1 29 := ⟨by decide +kernel, rfl⟩
theorem aX3_init_29 : At cX3_init 29 (.iconst 2) 1 30 := ⟨by decide +kernel, rfl⟩
theorem aX3_init_30 : At cX3_init 30 .idiv 1 31 := ⟨by decide +kernel, rfl⟩
theorem aX3_init_31 : At cX3_init 31 (.putfield 24) 3 34 := ⟨by decide +kernel, rfl⟩
theorem aX3_init_34 : At cX3_init 34 (.aload_n 0) 1 35 := ⟨by decide +kernel, rfl⟩
theorem aX3_init_35 : At cX3_init 35 (.getstatic 27) 3 38 := ⟨by decide +kernel, rfl⟩
theorem aX3_init_38 : At cX3_init 38 (.aload_n 0) 1 39 := ⟨by decide +kernel, rfl⟩
theorem aX3_init_39 : At cX3_init 39 (.getfield 18) 3 42 := ⟨by decide +kernel, rfl⟩
theorem aX3_init_42 : At cX3_init 42 .iaload 1 43 := ⟨by decide +kernel, rfl⟩
theorem aX3_init_43 : At cX3_init 43 (.newarray .int) 2 45 := ⟨by decide +kernel, rfl⟩
theorem aX3_init_45 : At cX3_init 45 (.putfield 31) 3 48 := ⟨by decide +kernel, rfl⟩
theorem aX3_init_48 : At cX3_init 48 .return_ 1 49 := ⟨by decide +kernel, rfl⟩
theorem aX3_isOpen_0 : At cX3_isOpen 0 (.iload_n 0) 1 1 := ⟨by decide +kernel, rfl⟩
theorem aX3_isOpen_1 : At cX3_isOpen 1 (.iload_n 1) 1 2 := ⟨by decide +kernel, rfl⟩
theorem aX3_isOpen_2 : At cX3_isOpen 2 (.iload_n 2) 1 3 := ⟨by decide +kernel, rfl⟩
theorem aX3_isOpen_3 : At cX3_isOpen 3 (.invokestatic 34) 3 6 := ⟨by decide +kernel, rfl⟩
theorem aX3_isOpen_6 : At cX3_isOpen 6 (.iload_n 2) 1 7 := ⟨by decide +kernel, rfl⟩
theorem aX3_isOpen_7 : At cX3_isOpen 7 (.iload_n 1) 1 8 := ⟨by decide +kernel, rfl⟩
theorem aX3_isOpen_8 : At cX3_isOpen 8 (.invokestatic 34) 3 11 := ⟨by decide +kernel, rfl⟩
theorem aX3_isOpen_11 : At cX3_isOpen 11 .ior 1 12 := ⟨by decide +kernel, rfl⟩
theorem aX3_isOpen_12 : At cX3_isOpen 12 .iand 1 13 := ⟨by decide +kernel, rfl⟩
theorem aX3_isOpen_13 : At cX3_isOpen 13 (.ifCond .ne 7) 3 16 := ⟨by decide +kernel, rfl⟩
theorem aX3_isOpen_16 : At cX3_isOpen 16 (.iconst 1) 1 17 := ⟨by decide +kernel, rfl⟩
theorem aX3_isOpen_17 : At cX3_isOpen 17 (.goto 4) 3 20 := ⟨by decide +kernel, rfl⟩
theorem aX3_isOpen_20 : At cX3_isOpen 20 (.iconst 0) 1 21 := ⟨by decide +kernel, rfl⟩
theorem aX3_isOpen_21 : At cX3_isOpen 21 .ireturn 1 22 := ⟨by decide +kernel, rfl⟩
theorem aX3_isWhole_0 : At cX3_isWhole 0 (.iload_n 1) 1 1 := ⟨by decide +kernel, rfl⟩
theorem aX3_isWhole_1 : At cX3_isWhole 1 (.invokestatic 37) 3 4 := ⟨by decide +kernel, rfl⟩
theorem aX3_isWhole_4 : At cX3_isWhole 4 (.aload_n 0) 1 5 := ⟨by decide +kernel, rfl⟩
theorem aX3_isWhole_5 : At cX3_isWhole 5 (.getfield 24) 3 8 := ⟨by decide +kernel, rfl⟩
theorem aX3_isWhole_8 : At cX3_isWhole 8 (.if_icmp .lt 7) 3 11 := ⟨by decide +kernel, rfl⟩
theorem aX3_isWhole_11 : At cX3_isWhole 11 (.iconst 1) 1 12 := ⟨by decide +kernel, rfl⟩
theorem aX3_isWhole_12 : At cX3_isWhole 12 (.goto 4) 3 15 := ⟨by decide +kernel, rfl⟩
theorem aX3_isWhole_15 : At cX3_isWhole 15 (.iconst 0) 1 16 := ⟨by decide +kernel, rfl⟩
theorem aX3_isWhole_16 : At cX3_isWhole 16 .ireturn 1 17 := ⟨by decide +kernel, rfl⟩
theorem aX3_joined_0 : At cX3_joined 0 (.iconst 1) 1 1 := ⟨by decide +kernel, rfl⟩
theorem aX3_joined_1 : At cX3_joined 1 (.iload_n 3) 1 2 := ⟨by decide +kernel, rfl⟩
theorem aX3_joined_2 : At cX3_joined 2 .ishl 1 3 := ⟨by decide +kernel, rfl⟩
theorem aX3_joined_3 : At cX3_joined 3 (.iload_n 1) 1 4 := ⟨by decide +kernel, rfl⟩
theorem aX3_joined_4 : At cX3_joined 4 (.iload_n 3) 1 5 := ⟨by decide +kernel, rfl⟩
theorem aX3_joined_5 : At cX3_joined 5 (.iconst 5) 1 6 := ⟨by decide +kernel, rfl⟩
theorem aX3_joined_6 : At cX3_joined 6 .imul 1 7 := ⟨by decide +kernel, rfl⟩
theorem aX3_joined_7 : At cX3_joined 7 .ishr 1 8 := ⟨by decide +kernel, rfl⟩
theorem aX3_joined_8 : At cX3_joined 8 (.bipush 31) 2 10 := ⟨by decide +kernel, rfl⟩
theorem aX3_joined_10 : At cX3_joined 10 .iand 1 11 := ⟨by decide +kernel, rfl⟩
theorem aX3_joined_11 : At cX3_joined 11 .ior 1 12 := ⟨by decide +kernel, rfl⟩
theorem aX3_joined_12 : At cX3_joined 12 (.istore 4) 2 14 := ⟨by decide +kernel, rfl⟩
theorem aX3_joined_14 : At cX3_joined 14 (.iload_n 1) 1 15 := ⟨by decide +kernel, rfl⟩
theorem aX3_joined_15 : At cX3_joined 15 (.istore 5) 2 17 := ⟨by decide +kernel, rfl⟩
theorem aX3_joined_17 : At cX3_joined 17 (.iconst 0) 1 18 := ⟨by decide +kernel, rfl⟩
theorem aX3_joined_18 : At cX3_joined 18 (.istore 6) 2 20 := ⟨by decide +kernel, rfl⟩
theorem aX3_joined_20 : At cX3_joined 20 (.iload 6) 2 22 := ⟨by decide +kernel, rfl⟩
theorem aX3_joined_22 : At cX3_joined 22 (.aload_n 0) 1 23 := ⟨by decide +kernel, rfl⟩
theorem aX3_joined_23 : At cX3_joined 23 (.getfield 18) 3 26 := ⟨by decide +kernel, rfl⟩
theorem aX3_joined_26 : At cX3_joined 26 (.if_icmp .ge 38) 3 29 := ⟨by decide +kernel, rfl⟩
theorem aX3_joined_29 : At cX3_joined 29 (.iload 6) 2 31 := ⟨by decide +kernel, rfl⟩
theorem aX3_joined_31 : At cX3_joined 31 (.iload_n 2) 1 32 := ⟨by decide +kernel, rfl⟩
theorem aX3_joined_32 : At cX3_joined 32 (.if_icmp .eq 14) 3 35 := ⟨by decide +kernel, rfl⟩
theorem aX3_joined_35 : At cX3_joined 35 (.iload_n 1) 1 36 := ⟨by decide +kernel, rfl⟩
theorem aX3_joined_36 : At cX3_joined 36 (.iload 6) 2 38 := ⟨by decide +kernel, rfl⟩
theorem aX3_joined_38 : At cX3_joined 38 (.iload_n 2) 1 39 := ⟨by decide +kernel, rfl⟩
theorem aX3_joined_39 : At cX3_joined 39 (.invokestatic 34) 3 42 := ⟨by decide +kernel, rfl⟩
theorem aX3_joined_42 : At cX3_joined 42 .iand 1 43 := ⟨by decide +kernel, rfl⟩
theorem aX3_joined_43 : At cX3_joined 43 (.ifCond .eq 15) 3 46 := ⟨by decide +kernel, rfl⟩
theorem aX3_joined_46 : At cX3_joined 46 (.iload 5) 2 48 := ⟨by decide +kernel, rfl⟩
theorem aX3_joined_48 : At cX3_joined 48 (.iload 4) 2 50 := ⟨by decide +kernel, rfl⟩
theorem aX3_joined_50 : At cX3_joined 50 (.iload 6) 2 52 := ⟨by decide +kernel, rfl⟩
theorem aX3_joined_52 : At cX3_joined 52 (.iconst 5) 1 53 := ⟨by decide +kernel, rfl⟩
theorem aX3_joined_53 : At cX3_joined 53 .imul 1 54 := ⟨by decide +kernel, rfl⟩
theorem aX3_joined_54 : At cX3_joined 54 .ishl 1 55 := ⟨by decide +kernel, rfl⟩
theorem aX3_joined_55 : At cX3_joined 55 .ior 1 56 := ⟨by decide +kernel, rfl⟩
theorem aX3_joined_56 : At cX3_joined 56 (.istore 5) 2 58 := ⟨by decide +kernel, rfl⟩
theorem aX3_joined_58 : At cX3_joined 58 (.iinc 6 1) 3 61 := ⟨by decide +kernel, rfl⟩
theorem aX3_joined_61 : At cX3_joined 61 (.goto (-41)) 3 64 := ⟨by decide +kernel, rfl⟩
theorem aX3_joined_64 : At cX3_joined 64 (.iload 5) 2 66 := ⟨by decide +kernel, rfl⟩
theorem aX3_joined_66 : At cX3_joined 66 .ireturn 1 67 := ⟨by decide +kernel, rfl⟩
theorem aX3_pair_0 : At cX3_pair 0 (.iconst 1) 1 1 := ⟨by decide +kernel, rfl⟩
theorem aX3_pair_1 : At cX3_pair 1 (.iload_n 0) 1 2 := ⟨by decide +kernel, rfl⟩
theorem aX3_pair_2 : At cX3_pair 2 (.iconst 5) 1 3 := ⟨by decide +kernel, rfl⟩
theorem aX3_pair_3 : At cX3_pair 3 .imul 1 4 := ⟨by decide +kernel, rfl⟩
theorem aX3_pair_4 : At cX3_pair 4 (.iload_n 1) 1 5 := ⟨by decide +kernel, rfl⟩
theorem aX3_pair_5 : At cX3_pair 5 .iadd 1 6 := ⟨by decide +kernel, rfl⟩
theorem aX3_pair_6 : At cX3_pair 6 .ishl 1 7 := ⟨by decide +kernel, rfl⟩
theorem aX3_pair_7 : At cX3_pair 7 .ireturn 1 8 := ⟨by decide +kernel, rfl⟩
theorem aX3_withDetours_0 : At cX3_withDetours 0 (.iload_n 2) 1 1 := ⟨by decide +kernel, rfl⟩
theorem aX3_withDetours_1 : At cX3_withDetours 1 (.istore_n 3) 1 2 := ⟨by decide +kernel, rfl⟩
theorem aX3_withDetours_2 : At cX3_withDetours 2 (.iconst 0) 1 3 := ⟨by decide +kernel, rfl⟩
theorem aX3_withDetours_3 : At cX3_withDetours 3 (.istore 4) 2 5 := ⟨by decide +kernel, rfl⟩
theorem aX3_withDetours_5 : At cX3_withDetours 5 (.iload 4) 2 7 := ⟨by decide +kernel, rfl⟩
theorem aX3_withDetours_7 : At cX3_withDetours 7 (.aload_n 0) 1 8 := ⟨by decide +kernel, rfl⟩
theorem aX3_withDetours_8 : At cX3_withDetours 8 (.getfield 18) 3 11 := ⟨by decide +kernel, rfl⟩
theorem aX3_withDetours_11 : At cX3_withDetours 11 (.if_icmp .ge 90) 3 14 := ⟨by decide +kernel, rfl⟩
theorem aX3_withDetours_14 : At cX3_withDetours 14 (.iload_n 3) 1 15 := ⟨by decide +kernel, rfl⟩
theorem aX3_withDetours_15 : At cX3_withDetours 15 (.istore 5) 2 17 := ⟨by decide +kernel, rfl⟩
theorem aX3_withDetours_17 : At cX3_withDetours 17 (.iconst 0) 1 18 := ⟨by decide +kernel, rfl⟩
theorem aX3_withDetours_18 : At cX3_withDetours 18 (.istore 6) 2 20 := ⟨by decide +kernel, rfl⟩
theorem aX3_withDetours_20 : At cX3_withDetours 20 (.iload 6) 2 22 := ⟨by decide +kernel, rfl⟩
theorem aX3_withDetours_22 : At cX3_withDetours 22 (.aload_n 0) 1 23 := ⟨by decide +kernel, rfl⟩
theorem aX3_withDetours_23 : At cX3_withDetours 23 (.getfield 18) 3 26 := ⟨by decide +kernel, rfl⟩
theorem aX3_withDetours_26 : At cX3_withDetours 26 (.if_icmp .ge 60) 3 29 := ⟨by decide +kernel, rfl⟩
theorem aX3_withDetours_29 : At cX3_withDetours 29 (.iconst 0) 1 30 := ⟨by decide +kernel, rfl⟩
theorem aX3_withDetours_30 : At cX3_withDetours 30 (.istore 7) 2 32 := ⟨by decide +kernel, rfl⟩
theorem aX3_withDetours_32 : At cX3_withDetours 32 (.iload 7) 2 34 := ⟨by decide +kernel, rfl⟩
theorem aX3_withDetours_34 : At cX3_withDetours 34 (.aload_n 0) 1 35 := ⟨by decide +kernel, rfl⟩
theorem aX3_withDetours_35 : At cX3_withDetours 35 (.getfield 18) 3 38 := ⟨by decide +kernel, rfl⟩
theorem aX3_withDetours_38 : At cX3_withDetours 38 (.if_icmp .ge 42) 3 41 := ⟨by decide +kernel, rfl⟩
theorem aX3_withDetours_41 : At cX3_withDetours 41 (.iload 7) 2 43 := ⟨by decide +kernel, rfl⟩
theorem aX3_withDetours_43 : At cX3_withDetours 43 (.iload 6) 2 45 := ⟨by decide +kernel, rfl⟩
theorem aX3_withDetours_45 : At cX3_withDetours 45 (.if_icmp .eq 29) 3 48 := ⟨by decide +kernel, rfl⟩
theorem aX3_withDetours_48 : At cX3_withDetours 48 (.iload_n 1) 1 49 := ⟨by decide +kernel, rfl⟩
theorem aX3_withDetours_49 : At cX3_withDetours 49 (.iload 6) 2 51 := ⟨by decide +kernel, rfl⟩
theorem aX3_withDetours_51 : At cX3_withDetours 51 (.iload 7) 2 53 := ⟨by decide +kernel, rfl⟩
theorem aX3_withDetours_53 : At cX3_withDetours 53 (.invokestatic 63) 3 56 := ⟨by decide +kernel, rfl⟩
theorem aX3_withDetours_56 : At cX3_withDetours 56 (.ifCond .ne 18) 3 59 := ⟨by decide +kernel, rfl⟩
theorem aX3_withDetours_59 : At cX3_withDetours 59 (.iload_n 3) 1 60 := ⟨by decide +kernel, rfl⟩
theorem aX3_withDetours_60 : At cX3_withDetours 60 (.iload 6) 2 62 := ⟨by decide +kernel, rfl⟩
theorem aX3_withDetours_62 : At cX3_withDetours 62 (.iconst 1) 1 63 := ⟨by decide +kernel, rfl⟩
theorem aX3_withDetours_63 : At cX3_withDetours 63 (.iload_n 3) 1 64 := ⟨by decide +kernel, rfl⟩
theorem aX3_withDetours_64 : At cX3_withDetours 64 (.iload 7) 2 66 := ⟨by decide +kernel, rfl⟩
theorem aX3_withDetours_66 : At cX3_withDetours 66 (.invokestatic 50) 3 69 := ⟨by decide +kernel, rfl⟩
theorem aX3_withDetours_69 : At cX3_withDetours 69 .iadd 1 70 := ⟨by decide +kernel, rfl⟩
theorem aX3_withDetours_70 : At cX3_withDetours 70 (.invokestatic 73) 3 73 := ⟨by decide +kernel, rfl⟩
theorem aX3_withDetours_73 : At cX3_withDetours 73 (.istore_n 3) 1 74 := ⟨by decide +kernel, rfl⟩
theorem aX3_withDetours_74 : At cX3_withDetours 74 (.iinc 7 1) 3 77 := ⟨by decide +kernel, rfl⟩
theorem aX3_withDetours_77 : At cX3_withDetours 77 (.goto (-45)) 3 80 := ⟨by decide +kernel, rfl⟩
theorem aX3_withDetours_80 : At cX3_withDetours 80 (.iinc 6 1) 3 83 := ⟨by decide +kernel, rfl⟩
theorem aX3_withDetours_83 : At cX3_withDetours 83 (.goto (-63)) 3 86 := ⟨by decide +kernel, rfl⟩
theorem aX3_withDetours_86 : At cX3_withDetours 86 (.iload_n 3) 1 87 := ⟨by decide +kernel, rfl⟩
theorem aX3_withDetours_87 : At cX3_withDetours 87 (.iload 5) 2 89 := ⟨by decide +kernel, rfl⟩
theorem aX3_withDetours_89 : At cX3_withDetours 89 (.if_icmp .ne 6) 3 92 := ⟨by decide +kernel, rfl⟩
theorem aX3_withDetours_92 : At cX3_withDetours 92 (.goto 9) 3 95 := ⟨by decide +kernel, rfl⟩
theorem aX3_withDetours_95 : At cX3_withDetours 95 (.iinc 4 1) 3 98 := ⟨by decide +kernel, rfl⟩
theorem aX3_withDetours_98 : At cX3_withDetours 98 (.goto (-93)) 3 101 := ⟨by decide +kernel, rfl⟩
theorem aX3_withDetours_101 : At cX3_withDetours 101 (.iload_n 3) 1 102 := ⟨by decide +kernel, rfl⟩
theorem aX3_withDetours_102 : At cX3_withDetours 102 .ireturn 1 103 := ⟨by decide +kernel, rfl⟩
theorem aX3_withLess_0 : At cX3_withLess 0 (.iload_n 1) 1 1 := ⟨by decide +kernel, rfl⟩
theorem aX3_withLess_1 : At cX3_withLess 1 (.iconst 4) 1 2 := ⟨by decide +kernel, rfl⟩
theorem aX3_withLess_2 : At cX3_withLess 2 .imul 1 3 := ⟨by decide +kernel, rfl⟩
theorem aX3_withLess_3 : At cX3_withLess 3 (.istore_n 3) 1 4 := ⟨by decide +kernel, rfl⟩
theorem aX3_withLess_4 : At cX3_withLess 4 (.iload_n 2) 1 5 := ⟨by decide +kernel, rfl⟩
theorem aX3_withLess_5 : At cX3_withLess 5 (.iload_n 0) 1 6 := ⟨by decide +kernel, rfl⟩
theorem aX3_withLess_6 : At cX3_withLess 6 (.iload_n 3) 1 7 := ⟨by decide +kernel, rfl⟩
theorem aX3_withLess_7 : At cX3_withLess 7 .ishr 1 8 := ⟨by decide +kernel, rfl⟩
theorem aX3_withLess_8 : At cX3_withLess 8 (.bipush 15) 2 10 := ⟨by decide +kernel, rfl⟩
theorem aX3_withLess_10 : At cX3_withLess 10 .iand 1 11 := ⟨by decide +kernel, rfl⟩
theorem aX3_withLess_11 : At cX3_withLess 11 (.if_icmp .lt 5) 3 14 := ⟨by decide +kernel, rfl⟩
theorem aX3_withLess_14 : At cX3_withLess 14 (.iload_n 0) 1 15 := ⟨by decide +kernel, rfl⟩
theorem aX3_withLess_15 : At cX3_withLess 15 .ireturn 1 16 := ⟨by decide +kernel, rfl⟩
theorem aX3_withLess_16 : At cX3_withLess 16 (.iload_n 0) 1 17 := ⟨by decide +kernel, rfl⟩
theorem aX3_withLess_17 : At cX3_withLess 17 (.bipush 15) 2 19 := ⟨by decide +kernel, rfl⟩
theorem aX3_withLess_19 : At cX3_withLess 19 (.iload_n 3) 1 20 := ⟨by decide +kernel, rfl⟩
theorem aX3_withLess_20 : At cX3_withLess 20 .ishl 1 21 := ⟨by decide +kernel, rfl⟩
theorem aX3_withLess_21 : At cX3_withLess 21 (.iconst (-1)) 1 22 := ⟨by decide +kernel, rfl⟩
theorem aX3_withLess_22 : At cX3_withLess 22 .ixor 1 23 := ⟨by decide +kernel, rfl⟩
theorem aX3_withLess_23 : At cX3_withLess 23 .iand 1 24 := ⟨by decide +kernel, rfl⟩
theorem aX3_withLess_24 : At cX3_withLess 24 (.iload_n 2) 1 25 := ⟨by decide +kernel, rfl⟩
theorem aX3_withLess_25 : At cX3_withLess 25 (.iload_n 3) 1 26 := ⟨by decide +kernel, rfl⟩
theorem aX3_withLess_26 : At cX3_withLess 26 .ishl 1 27 := ⟨by decide +kernel, rfl⟩
theorem aX3_withLess_27 : At cX3_withLess 27 .ior 1 28 := ⟨by decide +kernel, rfl⟩
theorem aX3_withLess_28 : At cX3_withLess 28 .ireturn 1 29 := ⟨by decide +kernel, rfl⟩
theorem aX3_worse_0 : At cX3_worse 0 (.iload_n 0) 1 1 := ⟨by decide +kernel, rfl⟩
theorem aX3_worse_1 : At cX3_worse 1 (.iload_n 2) 1 2 := ⟨by decide +kernel, rfl⟩
theorem aX3_worse_2 : At cX3_worse 2 (.invokestatic 50) 3 5 := ⟨by decide +kernel, rfl⟩
theorem aX3_worse_5 : At cX3_worse 5 (.iload_n 1) 1 6 := ⟨by decide +kernel, rfl⟩
theorem aX3_worse_6 : At cX3_worse 6 (.iload_n 2) 1 7 := ⟨by decide +kernel, rfl⟩
theorem aX3_worse_7 : At cX3_worse 7 (.invokestatic 50) 3 10 := ⟨by decide +kernel, rfl⟩
theorem aX3_worse_10 : At cX3_worse 10 (.invokestatic 15) 3 13 := ⟨by decide +kernel, rfl⟩
theorem aX3_worse_13 : At cX3_worse 13 .ireturn 1 14 := ⟨by decide +kernel, rfl⟩
theorem aX4_against_0 : At cX4_against 0 (.aload_n 0) 1 1 := ⟨by decide +kernel, rfl⟩
theorem aX4_against_1 : At cX4_against 1 (.iload_n 1) 1 2 := ⟨by decide +kernel, rfl⟩
theorem aX4_against_2 : At cX4_against 2 (.iload_n 2) 1 3 := ⟨by decide +kernel, rfl⟩
theorem aX4_against_3 : At cX4_against 3 (.invokevirtual 51) 3 6 := ⟨by decide +kernel, rfl⟩
theorem aX4_against_6 : At cX4_against 6 (.ifCond .eq 5) 3 9 := ⟨by decide +kernel, rfl⟩
theorem aX4_against_9 : At cX4_against 9 (.iconst 0) 1 10 := ⟨by decide +kernel, rfl⟩
theorem aX4_against_10 : At cX4_against 10 .ireturn 1 11 := ⟨by decide +kernel, rfl⟩
theorem aX4_against_11 : At cX4_against 11 (.aload_n 0) 1 12 := ⟨by decide +kernel, rfl⟩
theorem aX4_against_12 : At cX4_against 12 (.iload_n 1) 1 13 := ⟨by decide +kernel, rfl⟩
theorem aX4_against_13 : At cX4_against 13 (.iload_n 2) 1 14 := ⟨by decide +kernel, rfl⟩
theorem aX4_against_14 : At cX4_against 14 (.invokevirtual 47) 3 17 := ⟨by decide +kernel, rfl⟩
theorem aX4_against_17 : At cX4_against 17 (.ifCond .eq 5) 3 20 := ⟨by decide +kernel, rfl⟩
theorem aX4_against_20 : At cX4_against 20 (.iconst 1) 1 21 := ⟨by decide +kernel, rfl⟩
theorem aX4_against_21 : At cX4_against 21 .ireturn 1 22 := ⟨by decide +kernel, rfl⟩
theorem aX4_against_22 : At cX4_against 22 (.aload_n 0) 1 23 := ⟨by decide +kernel, rfl⟩
theorem aX4_against_23 : At cX4_against 23 (.iload_n 2) 1 24 := ⟨by decide +kernel, rfl⟩
theorem aX4_against_24 : At cX4_against 24 (.iload_n 1) 1 25 := ⟨by decide +kernel, rfl⟩
theorem aX4_against_25 : At cX4_against 25 (.invokevirtual 47) 3 28 := ⟨by decide +kernel, rfl⟩
theorem aX4_against_28 : At cX4_against 28 (.ifCond .eq 7) 3 31 := ⟨by decide +kernel, rfl⟩
theorem aX4_against_31 : At cX4_against 31 (.iconst 2) 1 32 := ⟨by decide +kernel, rfl⟩
theorem aX4_against_32 : At cX4_against 32 (.goto 5) 3 35 := ⟨by decide +kernel, rfl⟩
theorem aX4_against_35 : At cX4_against 35 (.bipush (-6)) 2 37 := ⟨by decide +kernel, rfl⟩
theorem aX4_against_37 : At cX4_against 37 .ireturn 1 38 := ⟨by decide +kernel, rfl⟩
theorem aX4_believe_0 : At cX4_believe 0 (.aload_n 1) 1 1 := ⟨by decide +kernel, rfl⟩
theorem aX4_believe_1 : At cX4_believe 1 (.iconst 0) 1 2 := ⟨by decide +kernel, rfl⟩
theorem aX4_believe_2 : At cX4_believe 2 .iaload 1 3 := ⟨by decide +kernel, rfl⟩
theorem aX4_believe_3 : At cX4_believe 3 (.istore_n 2) 1 4 := ⟨by decide +kernel, rfl⟩
theorem aX4_believe_4 : At cX4_believe 4 (.aload_n 1) 1 5 := ⟨by decide +kernel, rfl⟩
theorem aX4_believe_5 : At cX4_believe 5 (.iconst 1) 1 6 := ⟨by decide +kernel, rfl⟩
theorem aX4_believe_6 : At cX4_believe 6 .iaload 1 7 := ⟨by decide +kernel, rfl⟩
theorem aX4_believe_7 : At cX4_believe 7 (.istore_n 3) 1 8 := ⟨by decide +kernel, rfl⟩
theorem aX4_believe_8 : At cX4_believe 8 (.aload_n 1) 1 9 := ⟨by decide +kernel, rfl⟩
theorem aX4_believe_9 : At cX4_believe 9 (.iconst 2) 1 10 := ⟨by decide +kernel, rfl⟩
theorem aX4_believe_10 : At cX4_believe 10 .iaload 1 11 := ⟨by decide +kernel, rfl⟩
theorem aX4_believe_11 : At cX4_believe 11 (.iconst 2) 1 12 := ⟨by decide +kernel, rfl⟩
theorem aX4_believe_12 : At cX4_believe 12 (.if_icmp .eq 15) 3 15 := ⟨by decide +kernel, rfl⟩
theorem aX4_believe_15 : At cX4_believe 15 (.aload_n 0) 1 16 := ⟨by decide +kernel, rfl⟩
theorem aX4_believe_16 : At cX4_believe 16 (.getfield 9) 3 19 := ⟨by decide +kernel, rfl⟩
theorem aX4_believe_19 : At cX4_believe 19 (.iload_n 2) 1 20 := ⟨by decide +kernel, rfl⟩
theorem aX4_believe_20 : At cX4_believe 20 .dup2 1 21 := ⟨by decide +kernel, rfl⟩
theorem aX4_believe_21 : At cX4_believe 21 .iaload 1 22 := ⟨by decide +kernel, rfl⟩
theorem aX4_believe_22 : At cX4_believe 22 (.iconst 1) 1 23 := ⟨by decide +kernel, rfl⟩
theorem aX4_believe_23 : At cX4_believe 23 (.iload_n 3) 1 24 := ⟨by decide +kernel, rfl⟩
theorem aX4_believe_24 : At cX4_believe 24 .ishl 1 25 := ⟨by decide +kernel, rfl⟩
theorem aX4_believe_25 : At cX4_believe 25 .ior 1 26 := ⟨by decide +kernel, rfl⟩
theorem aX4_believe_26 : At cX4_believe 26 .iastore 1 27 := ⟨by decide +kernel, rfl⟩
theorem aX4_believe_27 : At cX4_believe 27 (.aload_n 1) 1 28 := ⟨by decide +kernel, rfl⟩
theorem aX4_believe_28 : At cX4_believe 28 (.iconst 2) 1 29 := ⟨by decide +kernel, rfl⟩
theorem aX4_believe_29 : At cX4_believe 29 .iaload 1 30 := ⟨by decide +kernel, rfl⟩
theorem aX4_believe_30 : At cX4_believe 30 (.iconst 1) 1 31 := ⟨by decide +kernel, rfl⟩
theorem aX4_believe_31 : At cX4_believe 31 (.if_icmp .eq 15) 3 34 := ⟨by decide +kernel, rfl⟩
theorem aX4_believe_34 : At cX4_believe 34 (.aload_n 0) 1 35 := ⟨by decide +kernel, rfl⟩
theorem aX4_believe_35 : At cX4_believe 35 (.getfield 9) 3 38 := ⟨by decide +kernel, rfl⟩
theorem aX4_believe_38 : At cX4_believe 38 (.iload_n 3) 1 39 := ⟨by decide +kernel, rfl⟩
theorem aX4_believe_39 : At cX4_believe 39 .dup2 1 40 := ⟨by decide +kernel, rfl⟩
theorem aX4_believe_40 : At cX4_believe 40 .iaload 1 41 := ⟨by decide +kernel, rfl⟩
theorem aX4_believe_41 : At cX4_believe 41 (.iconst 1) 1 42 := ⟨by decide +kernel, rfl⟩
theorem aX4_believe_42 : At cX4_believe 42 (.iload_n 2) 1 43 := ⟨by decide +kernel, rfl⟩
theorem aX4_believe_43 : At cX4_believe 43 .ishl 1 44 := ⟨by decide +kernel, rfl⟩
theorem aX4_believe_44 : At cX4_believe 44 .ior 1 45 := ⟨by decide +kernel, rfl⟩
theorem aX4_believe_45 : At cX4_believe 45 .iastore 1 46 := ⟨by decide +kernel, rfl⟩
theorem aX4_believe_46 : At cX4_believe 46 .return_ 1 47 := ⟨by decide +kernel, rfl⟩
theorem aX4_close_0 : At cX4_close 0 (.iconst 0) 1 1 := ⟨by decide +kernel, rfl⟩
theorem aX4_close_1 : At cX4_close 1 (.istore_n 1) 1 2 := ⟨by decide +kernel, rfl⟩
theorem aX4_close_2 : At cX4_close 2 (.iload_n 1) 1 3 := ⟨by decide +kernel, rfl⟩
theorem aX4_close_3 : At cX4_close 3 (.aload_n 0) 1 4 := ⟨by decide +kernel, rfl⟩
theorem aX4_close_4 : At cX4_close 4 (.getfield 24) 3 7 := ⟨by decide +kernel, rfl⟩
theorem aX4_close_7 : At cX4_close 7 (.if_icmp .ge 49) 3 10 := ⟨by decide +kernel, rfl⟩
theorem aX4_close_10 : At cX4_close 10 (.iconst 0) 1 11 := ⟨by decide +kernel, rfl⟩
theorem aX4_close_11 : At cX4_close 11 (.istore_n 2) 1 12 := ⟨by decide +kernel, rfl⟩
theorem aX4_close_12 : At cX4_close 12 (.iload_n 2) 1 13 := ⟨by decide +kernel, rfl⟩
theorem aX4_close_13 : At cX4_close 13 (.aload_n 0) 1 14 := ⟨by decide +kernel, rfl⟩
theorem aX4_close_14 : At cX4_close 14 (.getfield 24) 3 17 := ⟨by decide +kernel, rfl⟩
theorem aX4_close_17 : At cX4_close 17 (.if_icmp .ge 33) 3 20 := ⟨by decide +kernel, rfl⟩
theorem aX4_close_20 : At cX4_close 20 (.aload_n 0) 1 21 := ⟨by decide +kernel, rfl⟩
theorem aX4_close_21 : At cX4_close 21 (.iload_n 2) 1 22 := ⟨by decide +kernel, rfl⟩
theorem aX4_close_22 : At cX4_close 22 (.iload_n 1) 1 23 := ⟨by decide +kernel, rfl⟩
theorem aX4_close_23 : At cX4_close 23 (.invokevirtual 47) 3 26 := ⟨by decide +kernel, rfl⟩
theorem aX4_close_26 : At cX4_close 26 (.ifCond .eq 18) 3 29 := ⟨by decide +kernel, rfl⟩
theorem aX4_close_29 : At cX4_close 29 (.aload_n 0) 1 30 := ⟨by decide +kernel, rfl⟩
theorem aX4_close_30 : At cX4_close 30 (.getfield 9) 3 33 := ⟨by decide +kernel, rfl⟩
theorem aX4_close_33 : At cX4_close 33 (.iload_n 2) 1 34 := ⟨by decide +kernel, rfl⟩
theorem aX4_close_34 : At cX4_close 34 .dup2 1 35 := ⟨by decide +kernel, rfl⟩
theorem aX4_close_35 : At cX4_close 35 .iaload 1 36 := ⟨by decide +kernel, rfl⟩
theorem aX4_close_36 : At cX4_close 36 (.aload_n 0) 1 37 := ⟨by decide +kernel, rfl⟩
theorem aX4_close_37 : At cX4_close 37 (.getfield 9) 3 40 := ⟨by decide +kernel, rfl⟩
theorem aX4_close_40 : At cX4_close 40 (.iload_n 1) 1 41 := ⟨by decide +kernel, rfl⟩
theorem aX4_close_41 : At cX4_close 41 .iaload 1 42 := ⟨by decide +kernel, rfl⟩
theorem aX4_close_42 : At cX4_close 42 .ior 1 43 := ⟨by decide +kernel, rfl⟩
theorem aX4_close_43 : At cX4_close 43 .iastore 1 44 := ⟨by decide +kernel, rfl⟩
theorem aX4_close_44 : At cX4_close 44 (.iinc 2 1) 3 47 := ⟨by decide +kernel, rfl⟩
theorem aX4_close_47 : At cX4_close 47 (.goto (-35)) 3 50 := ⟨by decide +kernel, rfl⟩
theorem aX4_close_50 : At cX4_close 50 (.iinc 1 1) 3 53 := ⟨by decide +kernel, rfl⟩
theorem aX4_close_53 : At cX4_close 53 (.goto (-51)) 3 56 := ⟨by decide +kernel, rfl⟩
theorem aX4_close_56 : At cX4_close 56 .return_ 1 57 := ⟨by decide +kernel, rfl⟩
theorem aX4_contradicts_0 : At cX4_contradicts 0 (.aload_n 1) 1 1 := ⟨by decide +kernel, rfl⟩
theorem aX4_contradicts_1 : At cX4_contradicts 1 (.iconst 2) 1 2 := ⟨by decide +kernel, rfl⟩
theorem aX4_contradicts_2 : At cX4_contradicts 2 .iaload 1 3 := ⟨by decide +kernel, rfl⟩
theorem aX4_contradicts_3 : At cX4_contradicts 3 (.iconst 1) 1 4 := ⟨by decide +kernel, rfl⟩
theorem aX4_contradicts_4 : At cX4_contradicts 4 (.if_icmp .ne 14) 3 7 := ⟨by decide +kernel, rfl⟩
theorem aX4_contradicts_7 : At cX4_contradicts 7 (.aload_n 0) 1 8 := ⟨by decide +kernel, rfl⟩
theorem aX4_contradicts_8 : At cX4_contradicts 8 (.aload_n 1) 1 9 := ⟨by decide +kernel, rfl⟩
theorem aX4_contradicts_9 : At cX4_contradicts 9 (.iconst 1) 1 10 := ⟨by decide +kernel, rfl⟩
theorem aX4_contradicts_10 : At cX4_contradicts 10 .iaload 1 11 := ⟨by decide +kernel, rfl⟩
theorem aX4_contradicts_11 : At cX4_contradicts 11 (.aload_n 1) 1 12 := ⟨by decide +kernel, rfl⟩
theorem aX4_contradicts_12 : At cX4_contradicts 12 (.iconst 0) 1 13 := ⟨by decide +kernel, rfl⟩
theorem aX4_contradicts_13 : At cX4_contradicts 13 .iaload 1 14 := ⟨by decide +kernel, rfl⟩
theorem aX4_contradicts_14 : At cX4_contradicts 14 (.invokevirtual 47) 3 17 := ⟨by decide +kernel, rfl⟩
theorem aX4_contradicts_17 : At cX4_contradicts 17 .ireturn 1 18 := ⟨by decide +kernel, rfl⟩
theorem aX4_contradicts_18 : At cX4_contradicts 18 (.aload_n 1) 1 19 := ⟨by decide +kernel, rfl⟩
theorem aX4_contradicts_19 : At cX4_contradicts 19 (.iconst 2) 1 20 := ⟨by decide +kernel, rfl⟩
theorem aX4_contradicts_20 : At cX4_contradicts 20 .iaload 1 21 := ⟨by decide +kernel, rfl⟩
theorem aX4_contradicts_21 : At cX4_contradicts 21 (.iconst 2) 1 22 := ⟨by decide +kernel, rfl⟩
theorem aX4_contradicts_22 : At cX4_contradicts 22 (.if_icmp .ne 20) 3 25 := ⟨by decide +kernel, rfl⟩
theorem aX4_contradicts_25 : At cX4_contradicts 25 (.aload_n 0) 1 26 := ⟨by decide +kernel, rfl⟩
theorem aX4_contradicts_26 : At cX4_contradicts 26 (.aload_n 1) 1 27 := ⟨by decide +kernel, rfl⟩
theorem aX4_contradicts_27 : At cX4_contradicts 27 (.iconst 0) 1 28 := ⟨by decide +kernel, rfl⟩
theorem aX4_contradicts_28 : At cX4_contradicts 28 .iaload 1 29 := ⟨by decide +kernel, rfl⟩
theorem aX4_contradicts_29 : At cX4_contradicts 29 (.aload_n 1) 1 30 := ⟨by decide +kernel, rfl⟩
theorem aX4_contradicts_30 : At cX4_contradicts 30 (.iconst 1) 1 31 := ⟨by decide +kernel, rfl⟩
theorem aX4_contradicts_31 : At cX4_contradicts 31 .iaload 1 32 := ⟨by decide +kernel, rfl⟩
theorem aX4_contradicts_32 : At cX4_contradicts 32 (.invokevirtual 47) 3 35 := ⟨by decide +kernel, rfl⟩
theorem aX4_contradicts_35 : At cX4_contradicts 35 (.ifCond .eq 7) 3 38 := ⟨by decide +kernel, rfl⟩
theorem aX4_contradicts_38 : At cX4_contradicts 38 (.iconst 1) 1 39 := ⟨by decide +kernel, rfl⟩
theorem aX4_contradicts_39 : At cX4_contradicts 39 (.goto 4) 3 42 := ⟨by decide +kernel, rfl⟩
theorem aX4_contradicts_42 : At cX4_contradicts 42 (.iconst 0) 1 43 := ⟨by decide +kernel, rfl⟩
theorem aX4_contradicts_43 : At cX4_contradicts 43 .ireturn 1 44 := ⟨by decide +kernel, rfl⟩
theorem aX4_greatestRank_0 : At cX4_greatestRank 0 (.iconst 1) 1 1 := ⟨by decide +kernel, rfl⟩
theorem aX4_greatestRank_1 : At cX4_greatestRank 1 (.istore_n 2) 1 2 := ⟨by decide +kernel, rfl⟩
theorem aX4_greatestRank_2 : At cX4_greatestRank 2 (.iconst 0) 1 3 := ⟨by decide +kernel, rfl⟩
theorem aX4_greatestRank_3 : At cX4_greatestRank 3 (.istore_n 3) 1 4 := ⟨by decide +kernel, rfl⟩
theorem aX4_greatestRank_4 : At cX4_greatestRank 4 (.iload_n 3) 1 5 := ⟨by decide +kernel, rfl⟩
theorem aX4_greatestRank_5 : At cX4_greatestRank 5 (.aload_n 0) 1 6 := ⟨by decide +kernel, rfl⟩
theorem aX4_greatestRank_6 : At cX4_greatestRank 6 (.getfield 24) 3 9 := ⟨by decide +kernel, rfl⟩
theorem aX4_greatestRank_9 : At cX4_greatestRank 9 (.if_icmp .ge 29) 3 12 := ⟨by decide +kernel, rfl⟩
theorem aX4_greatestRank_12 : At cX4_greatestRank 12 (.aload_n 0) 1 13 := ⟨by decide +kernel, rfl⟩
theorem aX4_greatestRank_13 : At cX4_greatestRank 13 (.iload_n 3) 1 14 := ⟨by decide +kernel, rfl⟩
theorem aX4_greatestRank_14 : At cX4_greatestRank 14 (.invokevirtual 58) 3 17 := ⟨by decide +kernel, rfl⟩
theorem aX4_greatestRank_17 : At cX4_greatestRank 17 (.ifCond .eq 15) 3 20 := ⟨by decide +kernel, rfl⟩
theorem aX4_greatestRank_20 : At cX4_greatestRank 20 (.aload_n 0) 1 21 := ⟨by decide +kernel, rfl⟩
theorem aX4_greatestRank_21 : At cX4_greatestRank 21 (.iload_n 1) 1 22 := ⟨by decide +kernel, rfl⟩
theorem aX4_greatestRank_22 : At cX4_greatestRank 22 (.iload_n 3) 1 23 := ⟨by decide +kernel, rfl⟩
theorem aX4_greatestRank_23 : At cX4_greatestRank 23 (.invokevirtual 72) 3 26 := ⟨by decide +kernel, rfl⟩
theorem aX4_greatestRank_26 : At cX4_greatestRank 26 (.ifCond .eq 6) 3 29 := ⟨by decide +kernel, rfl⟩
theorem aX4_greatestRank_29 : At cX4_greatestRank 29 (.iinc 2 1) 3 32 := ⟨by decide +kernel, rfl⟩
theorem aX4_greatestRank_32 : At cX4_greatestRank 32 (.iinc 3 1) 3 35 := ⟨by decide +kernel, rfl⟩
theorem aX4_greatestRank_35 : At cX4_greatestRank 35 (.goto (-31)) 3 38 := ⟨by decide +kernel, rfl⟩
theorem aX4_greatestRank_38 : At cX4_greatestRank 38 (.aload_n 0) 1 39 := ⟨by decide +kernel, rfl⟩
theorem aX4_greatestRank_39 : At cX4_greatestRank 39 (.invokevirtual 78) 3 42 := ⟨by decide +kernel, rfl⟩
theorem aX4_greatestRank_42 : At cX4_greatestRank 42 (.iload_n 2) 1 43 := ⟨by decide +kernel, rfl⟩
theorem aX4_greatestRank_43 : At cX4_greatestRank 43 .isub 1 44 := ⟨by decide +kernel, rfl⟩
theorem aX4_greatestRank_44 : At cX4_greatestRank 44 .ireturn 1 45 := ⟨by decide +kernel, rfl⟩
theorem aX4_groupCount_0 : At cX4_groupCount 0 (.aload_n 0) 1 1 := ⟨by decide +kernel, rfl⟩
theorem aX4_groupCount_1 : At cX4_groupCount 1 (.invokevirtual 62) 3 4 := ⟨by decide +kernel, rfl⟩
theorem aX4_groupCount_4 : At cX4_groupCount 4 (.invokestatic 66) 3 7 := ⟨by decide +kernel, rfl⟩
theorem aX4_groupCount_7 : At cX4_groupCount 7 .ireturn 1 8 := ⟨by decide +kernel, rfl⟩
theorem aX4_groupOf_0 : At cX4_groupOf 0 (.iconst 0) 1 1 := ⟨by decide +kernel, rfl⟩
theorem aX4_groupOf_1 : At cX4_groupOf 1 (.istore_n 2) 1 2 := ⟨by decide +kernel, rfl⟩
theorem aX4_groupOf_2 : At cX4_groupOf 2 (.iconst 0) 1 3 := ⟨by decide +kernel, rfl⟩
theorem aX4_groupOf_3 : At cX4_groupOf 3 (.istore_n 3) 1 4 := ⟨by decide +kernel, rfl⟩
theorem aX4_groupOf_4 : At cX4_groupOf 4 (.iload_n 3) 1 5 := ⟨by decide +kernel, rfl⟩
theorem aX4_groupOf_5 : At cX4_groupOf 5 (.aload_n 0) 1 6 := ⟨by decide +kernel, rfl⟩
theorem aX4_groupOf_6 : At cX4_groupOf 6 (.getfield 24) 3 9 := ⟨by decide +kernel, rfl⟩
theorem aX4_groupOf_9 : At cX4_groupOf 9 (.if_icmp .ge 31) 3 12 := ⟨by decide +kernel, rfl⟩
theorem aX4_groupOf_12 : At cX4_groupOf 12 (.aload_n 0) 1 13 := ⟨by decide +kernel, rfl⟩
theorem aX4_groupOf_13 : At cX4_groupOf 13 (.iload_n 1) 1 14 := ⟨by decide +kernel, rfl⟩
theorem aX4_groupOf_14 : At cX4_groupOf 14 (.iload_n 3) 1 15 := ⟨by decide +kernel, rfl⟩
theorem aX4_groupOf_15 : At cX4_groupOf 15 (.invokevirtual 51) 3 18 := ⟨by decide +kernel, rfl⟩
theorem aX4_groupOf_18 : At cX4_groupOf 18 (.ifCond .eq 5) 3 21 := ⟨by decide +kernel, rfl⟩
theorem aX4_groupOf_21 : At cX4_groupOf 21 (.iload_n 2) 1 22 := ⟨by decide +kernel, rfl⟩
theorem aX4_groupOf_22 : At cX4_groupOf 22 .ireturn 1 23 := ⟨by decide +kernel, rfl⟩
theorem aX4_groupOf_23 : At cX4_groupOf 23 (.aload_n 0) 1 24 := ⟨by decide +kernel, rfl⟩
theorem aX4_groupOf_24 : At cX4_groupOf 24 (.iload_n 3) 1 25 := ⟨by decide +kernel, rfl⟩
theorem aX4_groupOf_25 : At cX4_groupOf 25 (.invokevirtual 58) 3 28 := ⟨by decide +kernel, rfl⟩
theorem aX4_groupOf_28 : At cX4_groupOf 28 (.ifCond .eq 6) 3 31 := ⟨by decide +kernel, rfl⟩
theorem aX4_groupOf_31 : At cX4_groupOf 31 (.iinc 2 1) 3 34 := ⟨by decide +kernel, rfl⟩
theorem aX4_groupOf_34 : At cX4_groupOf 34 (.iinc 3 1) 3 37 := ⟨by decide +kernel, rfl⟩
theorem aX4_groupOf_37 : At cX4_groupOf 37 (.goto (-33)) 3 40 := ⟨by decide +kernel, rfl⟩
theorem aX4_groupOf_40 : At cX4_groupOf 40 (.iload_n 2) 1 41 := ⟨by decide +kernel, rfl⟩
theorem aX4_groupOf_41 : At cX4_groupOf 41 .ireturn 1 42 := ⟨by decide +kernel, rfl⟩
theorem aX4_heavierLeaders_0 : At cX4_heavierLeaders 0 (.iconst 0) 1 1 := ⟨by decide +kernel, rfl⟩
theorem aX4_heavierLeaders_1 : At cX4_heavierLeaders 1 (.istore_n 2) 1 2 := ⟨by decide +kernel, rfl⟩
theorem aX4_heavierLeaders_2 : At cX4_heavierLeaders 2 (.iconst 0) 1 3 := ⟨by decide +kernel, rfl⟩
theorem aX4_heavierLeaders_3 : At cX4_heavierLeaders 3 (.istore_n 3) 1 4 := ⟨by decide +kernel, rfl⟩
theorem aX4_heavierLeaders_4 : At cX4_heavierLeaders 4 (.iload_n 3) 1 5 := ⟨by decide +kernel, rfl⟩
theorem aX4_heavierLeaders_5 : At cX4_heavierLeaders 5 (.aload_n 0) 1 6 := ⟨by decide +kernel, rfl⟩
theorem aX4_heavierLeaders_6 : At cX4_heavierLeaders 6 (.getfield 24) 3 9 := ⟨by decide +kernel, rfl⟩
theorem aX4_heavierLeaders_9 : At cX4_heavierLeaders 9 (.if_icmp .ge 32) 3 12 := ⟨by decide +kernel, rfl⟩
theorem aX4_heavierLeaders_12 : At cX4_heavierLeaders 12 (.aload_n 0) 1 13 := ⟨by decide +kernel, rfl⟩
theorem aX4_heavierLeaders_13 : At cX4_heavierLeaders 13 (.iload_n 3) 1 14 := ⟨by decide +kernel, rfl⟩
theorem aX4_heavierLeaders_14 : At cX4_heavierLeaders 14 (.invokevirtual 58) 3 17 := ⟨by decide +kernel, rfl⟩
theorem aX4_heavierLeaders_17 : At cX4_heavierLeaders 17 (.ifCond .eq 18) 3 20 := ⟨by decide +kernel, rfl⟩
theorem aX4_heavierLeaders_20 : At cX4_heavierLeaders 20 (.aload_n 0) 1 21 := ⟨by decide +kernel, rfl⟩
theorem aX4_heavierLeaders_21 : At cX4_heavierLeaders 21 (.iload_n 3) 1 22 := ⟨by decide +kernel, rfl⟩
theorem aX4_heavierLeaders_22 : At cX4_heavierLeaders 22 (.iload_n 1) 1 23 := ⟨by decide +kernel, rfl⟩
theorem aX4_heavierLeaders_23 : At cX4_heavierLeaders 23 (.invokevirtual 72) 3 26 := ⟨by decide +kernel, rfl⟩
theorem aX4_heavierLeaders_26 : At cX4_heavierLeaders 26 (.ifCond .eq 9) 3 29 := ⟨by decide +kernel, rfl⟩
theorem aX4_heavierLeaders_29 : At cX4_heavierLeaders 29 (.iload_n 2) 1 30 := ⟨by decide +kernel, rfl⟩
theorem aX4_heavierLeaders_30 : At cX4_heavierLeaders 30 (.iconst 1) 1 31 := ⟨by decide +kernel, rfl⟩
theorem aX4_heavierLeaders_31 : At cX4_heavierLeaders 31 (.iload_n 3) 1 32 := ⟨by decide +kernel, rfl⟩
theorem aX4_heavierLeaders_32 : At cX4_heavierLeaders 32 .ishl 1 33 := ⟨by decide +kernel, rfl⟩
theorem aX4_heavierLeaders_33 : At cX4_heavierLeaders 33 .ior 1 34 := ⟨by decide +kernel, rfl⟩
theorem aX4_heavierLeaders_34 : At cX4_heavierLeaders 34 (.istore_n 2) 1 35 := ⟨by decide +kernel, rfl⟩
theorem aX4_heavierLeaders_35 : At cX4_heavierLeaders 35 (.iinc 3 1) 3 38 := ⟨by decide +kernel, rfl⟩
theorem aX4_heavierLeaders_38 : At cX4_heavierLeaders 38 (.goto (-34)) 3 41 := ⟨by decide +kernel, rfl⟩
theorem aX4_heavierLeaders_41 : At cX4_heavierLeaders 41 (.iload_n 2) 1 42 := ⟨by decide +kernel, rfl⟩
theorem aX4_heavierLeaders_42 : At cX4_heavierLeaders 42 .ireturn 1 43 := ⟨by decide +kernel, rfl⟩
theorem aX4_init_0 : At cX4_init 0 (.aload_n 0) 1 1 := ⟨by decide +kernel, rfl⟩
theorem aX4_init_1 : At cX4_init 1 (.invokespecial 3) 3 4 := ⟨by decide +kernel, rfl⟩
theorem aX4_init_4 : At cX4_init 4 (.aload_n 0) 1 5 := ⟨by decide +kernel, rfl⟩
theorem aX4_init_5 : At cX4_init 5 (.bipush 6) 2 7 := ⟨by decide +kernel, rfl⟩
theorem aX4_init_7 : At cX4_init 7 (.newarray .int) 2 9 := ⟨by decide +kernel, rfl⟩
theorem aX4_init_9 : At cX4_init 9 (.putfield 9) 3 12 := ⟨by decide +kernel, rfl⟩
theorem aX4_init_12 : At cX4_init 12 (.aload_n 0) 1 13 := ⟨by decide +kernel, rfl⟩
theorem aX4_init_13 : At cX4_init 13 (.bipush 64) 2 15 := ⟨by decide +kernel, rfl⟩
theorem aX4_init_15 : At cX4_init 15 (.newarray .int) 2 17 := ⟨by decide +kernel, rfl⟩
theorem aX4_init_17 : At cX4_init 17 (.putfield 15) 3 20 := ⟨by decide +kernel, rfl⟩
theorem aX4_init_20 : At cX4_init 20 .return_ 1 21 := ⟨by decide +kernel, rfl⟩
theorem aX4_isAlike_0 : At cX4_isAlike 0 (.aload_n 0) 1 1 := ⟨by decide +kernel, rfl⟩
theorem aX4_isAlike_1 : At cX4_isAlike 1 (.iload_n 1) 1 2 := ⟨by decide +kernel, rfl⟩
theorem aX4_isAlike_2 : At cX4_isAlike 2 (.iload_n 2) 1 3 := ⟨by decide +kernel, rfl⟩
theorem aX4_isAlike_3 : At cX4_isAlike 3 (.invokevirtual 47) 3 6 := ⟨by decide +kernel, rfl⟩
theorem aX4_isAlike_6 : At cX4_isAlike 6 (.ifCond .eq 16) 3 9 := ⟨by decide +kernel, rfl⟩
theorem aX4_isAlike_9 : At cX4_isAlike 9 (.aload_n 0) 1 10 := ⟨by decide +kernel, rfl⟩
theorem aX4_isAlike_10 : At cX4_isAlike 10 (.iload_n 2) 1 11 := ⟨by decide +kernel, rfl⟩
theorem aX4_isAlike_11 : At cX4_isAlike 11 (.iload_n 1) 1 12 := ⟨by decide +kernel, rfl⟩
theorem aX4_isAlike_12 : At cX4_isAlike 12 (.invokevirtual 47) 3 15 := ⟨by decide +kernel, rfl⟩
theorem aX4_isAlike_15 : At cX4_isAlike 15 (.ifCond .eq 7) 3 18 := ⟨by decide +kernel, rfl⟩
theorem aX4_isAlike_18 : At cX4_isAlike 18 (.iconst 1) 1 19 := ⟨by decide +kernel, rfl⟩
theorem aX4_isAlike_19 : At cX4_isAlike 19 (.goto 4) 3 22 := ⟨by decide +kernel, rfl⟩
theorem aX4_isAlike_22 : At cX4_isAlike 22 (.iconst 0) 1 23 := ⟨by decide +kernel, rfl⟩
theorem aX4_isAlike_23 : At cX4_isAlike 23 .ireturn 1 24 := ⟨by decide +kernel, rfl⟩
theorem aX4_isHeavier_0 : At cX4_isHeavier 0 (.aload_n 0) 1 1 := ⟨by decide +kernel, rfl⟩
theorem aX4_isHeavier_1 : At cX4_isHeavier 1 (.iload_n 1) 1 2 := ⟨by decide +kernel, rfl⟩
theorem aX4_isHeavier_2 : At cX4_isHeavier 2 (.iload_n 2) 1 3 := ⟨by decide +kernel, rfl⟩
theorem aX4_isHeavier_3 : At cX4_isHeavier 3 (.invokevirtual 47) 3 6 := ⟨by decide +kernel, rfl⟩
theorem aX4_isHeavier_6 : At cX4_isHeavier 6 (.ifCond .eq 16) 3 9 := ⟨by decide +kernel, rfl⟩
theorem aX4_isHeavier_9 : At cX4_isHeavier 9 (.aload_n 0) 1 10 := ⟨by decide +kernel, rfl⟩
theorem aX4_isHeavier_10 : At cX4_isHeavier 10 (.iload_n 2) 1 11 := ⟨by decide +kernel, rfl⟩
theorem aX4_isHeavier_11 : At cX4_isHeavier 11 (.iload_n 1) 1 12 := ⟨by decide +kernel, rfl⟩
theorem aX4_isHeavier_12 : At cX4_isHeavier 12 (.invokevirtual 47) 3 15 := ⟨by decide +kernel, rfl⟩
theorem aX4_isHeavier_15 : At cX4_isHeavier 15 (.ifCond .ne 7) 3 18 := ⟨by decide +kernel, rfl⟩
theorem aX4_isHeavier_18 : At cX4_isHeavier 18 (.iconst 1) 1 19 := ⟨by decide +kernel, rfl⟩
theorem aX4_isHeavier_19 : At cX4_isHeavier 19 (.goto 4) 3 22 := ⟨by decide +kernel, rfl⟩
theorem aX4_isHeavier_22 : At cX4_isHeavier 22 (.iconst 0) 1 23 := ⟨by decide +kernel, rfl⟩
theorem aX4_isHeavier_23 : At cX4_isHeavier 23 .ireturn 1 24 := ⟨by decide +kernel, rfl⟩
theorem aX4_isLeader_0 : At cX4_isLeader 0 (.iconst 0) 1 1 := ⟨by decide +kernel, rfl⟩
theorem aX4_isLeader_1 : At cX4_isLeader 1 (.istore_n 2) 1 2 := ⟨by decide +kernel, rfl⟩
theorem aX4_isLeader_2 : At cX4_isLeader 2 (.iload_n 2) 1 3 := ⟨by decide +kernel, rfl⟩
theorem aX4_isLeader_3 : At cX4_isLeader 3 (.iload_n 1) 1 4 := ⟨by decide +kernel, rfl⟩
theorem aX4_isLeader_4 : At cX4_isLeader 4 (.if_icmp .ge 20) 3 7 := ⟨by decide +kernel, rfl⟩
theorem aX4_isLeader_7 : At cX4_isLeader 7 (.aload_n 0) 1 8 := ⟨by decide +kernel, rfl⟩
theorem aX4_isLeader_8 : At cX4_isLeader 8 (.iload_n 1) 1 9 := ⟨by decide +kernel, rfl⟩
theorem aX4_isLeader_9 : At cX4_isLeader 9 (.iload_n 2) 1 10 := ⟨by decide +kernel, rfl⟩
theorem aX4_isLeader_10 : At cX4_isLeader 10 (.invokevirtual 51) 3 13 := ⟨by decide +kernel, rfl⟩
theorem aX4_isLeader_13 : At cX4_isLeader 13 (.ifCond .eq 5) 3 16 := ⟨by decide +kernel, rfl⟩
theorem aX4_isLeader_16 : At cX4_isLeader 16 (.iconst 0) 1 17 := ⟨by decide +kernel, rfl⟩
theorem aX4_isLeader_17 : At cX4_isLeader 17 .ireturn 1 18 := ⟨by decide +kernel, rfl⟩
theorem aX4_isLeader_18 : At cX4_isLeader 18 (.iinc 2 1) 3 21 := ⟨by decide +kernel, rfl⟩
theorem aX4_isLeader_21 : At cX4_isLeader 21 (.goto (-19)) 3 24 := ⟨by decide +kernel, rfl⟩
theorem aX4_isLeader_24 : At cX4_isLeader 24 (.iconst 1) 1 25 := ⟨by decide +kernel, rfl⟩
theorem aX4_isLeader_25 : At cX4_isLeader 25 .ireturn 1 26 := ⟨by decide +kernel, rfl⟩
theorem aX4_isNoLess_0 : At cX4_isNoLess 0 (.aload_n 0) 1 1 := ⟨by decide +kernel, rfl⟩
theorem aX4_isNoLess_1 : At cX4_isNoLess 1 (.getfield 9) 3 4 := ⟨by decide +kernel, rfl⟩
theorem aX4_isNoLess_4 : At cX4_isNoLess 4 (.iload_n 1) 1 5 := ⟨by decide +kernel, rfl⟩
theorem aX4_isNoLess_5 : At cX4_isNoLess 5 .iaload 1 6 := ⟨by decide +kernel, rfl⟩
theorem aX4_isNoLess_6 : At cX4_isNoLess 6 (.iload_n 2) 1 7 := ⟨by decide +kernel, rfl⟩
theorem aX4_isNoLess_7 : At cX4_isNoLess 7 .ishr 1 8 := ⟨by decide +kernel, rfl⟩
theorem aX4_isNoLess_8 : At cX4_isNoLess 8 (.iconst 1) 1 9 := ⟨by decide +kernel, rfl⟩
theorem aX4_isNoLess_9 : At cX4_isNoLess 9 .iand 1 10 := ⟨by decide +kernel, rfl⟩
theorem aX4_isNoLess_10 : At cX4_isNoLess 10 (.iconst 1) 1 11 := ⟨by decide +kernel, rfl⟩
theorem aX4_isNoLess_11 : At cX4_isNoLess 11 (.if_icmp .ne 7) 3 14 := ⟨by decide +kernel, rfl⟩
theorem aX4_isNoLess_14 : At cX4_isNoLess 14 (.iconst 1) 1 15 := ⟨by decide +kernel, rfl⟩
theorem aX4_isNoLess_15 : At cX4_isNoLess 15 (.goto 4) 3 18 := ⟨by decide +kernel, rfl⟩
theorem aX4_isNoLess_18 : At cX4_isNoLess 18 (.iconst 0) 1 19 := ⟨by decide +kernel, rfl⟩
theorem aX4_isNoLess_19 : At cX4_isNoLess 19 .ireturn 1 20 := ⟨by decide +kernel, rfl⟩
theorem aX4_leaderOf_0 : At cX4_leaderOf 0 (.iload_n 1) 1 1 := ⟨by decide +kernel, rfl⟩
theorem aX4_leaderOf_1 : At cX4_leaderOf 1 (.istore_n 2) 1 2 := ⟨by decide +kernel, rfl⟩
theorem aX4_leaderOf_2 : At cX4_leaderOf 2 (.iconst 0) 1 3 := ⟨by decide +kernel, rfl⟩
theorem aX4_leaderOf_3 : At cX4_leaderOf 3 (.istore_n 3) 1 4 := ⟨by decide +kernel, rfl⟩
theorem aX4_leaderOf_4 : At cX4_leaderOf 4 (.iload_n 3) 1 5 := ⟨by decide +kernel, rfl⟩
theorem aX4_leaderOf_5 : At cX4_leaderOf 5 (.aload_n 0) 1 6 := ⟨by decide +kernel, rfl⟩
theorem aX4_leaderOf_6 : At cX4_leaderOf 6 (.getfield 24) 3 9 := ⟨by decide +kernel, rfl⟩
theorem aX4_leaderOf_9 : At cX4_leaderOf 9 (.if_icmp .ge 26) 3 12 := ⟨by decide +kernel, rfl⟩
theorem aX4_leaderOf_12 : At cX4_leaderOf 12 (.aload_n 0) 1 13 := ⟨by decide +kernel, rfl⟩
theorem aX4_leaderOf_13 : At cX4_leaderOf 13 (.iload_n 3) 1 14 := ⟨by decide +kernel, rfl⟩
theorem aX4_leaderOf_14 : At cX4_leaderOf 14 (.invokevirtual 58) 3 17 := ⟨by decide +kernel, rfl⟩
theorem aX4_leaderOf_17 : At cX4_leaderOf 17 (.ifCond .eq 12) 3 20 := ⟨by decide +kernel, rfl⟩
theorem aX4_leaderOf_20 : At cX4_leaderOf 20 (.iload_n 2) 1 21 := ⟨by decide +kernel, rfl⟩
theorem aX4_leaderOf_21 : At cX4_leaderOf 21 (.ifCond .ne 5) 3 24 := ⟨by decide +kernel, rfl⟩
theorem aX4_leaderOf_24 : At cX4_leaderOf 24 (.iload_n 3) 1 25 := ⟨by decide +kernel, rfl⟩
theorem aX4_leaderOf_25 : At cX4_leaderOf 25 .ireturn 1 26 := ⟨by decide +kernel, rfl⟩
theorem aX4_leaderOf_26 : At cX4_leaderOf 26 (.iinc 2 (-1)) 3 29 := ⟨by decide +kernel, rfl⟩
theorem aX4_leaderOf_29 : At cX4_leaderOf 29 (.iinc 3 1) 3 32 := ⟨by decide +kernel, rfl⟩
theorem aX4_leaderOf_32 : At cX4_leaderOf 32 (.goto (-28)) 3 35 := ⟨by decide +kernel, rfl⟩
theorem aX4_leaderOf_35 : At cX4_leaderOf 35 (.iconst 0) 1 36 := ⟨by decide +kernel, rfl⟩
theorem aX4_leaderOf_36 : At cX4_leaderOf 36 .ireturn 1 37 := ⟨by decide +kernel, rfl⟩
theorem aX4_leaders_0 : At cX4_leaders 0 (.iconst 0) 1 1 := ⟨by decide +kernel, rfl⟩
theorem aX4_leaders_1 : At cX4_leaders 1 (.istore_n 1) 1 2 := ⟨by decide +kernel, rfl⟩
theorem aX4_leaders_2 : At cX4_leaders 2 (.iconst 0) 1 3 := ⟨by decide +kernel, rfl⟩
theorem aX4_leaders_3 : At cX4_leaders 3 (.istore_n 2) 1 4 := ⟨by decide +kernel, rfl⟩
theorem aX4_leaders_4 : At cX4_leaders 4 (.iload_n 2) 1 5 := ⟨by decide +kernel, rfl⟩
theorem aX4_leaders_5 : At cX4_leaders 5 (.aload_n 0) 1 6 := ⟨by decide +kernel, rfl⟩
theorem aX4_leaders_6 : At cX4_leaders 6 (.getfield 24) 3 9 := ⟨by decide +kernel, rfl⟩
theorem aX4_leaders_9 : At cX4_leaders 9 (.if_icmp .ge 23) 3 12 := ⟨by decide +kernel, rfl⟩
theorem aX4_leaders_12 : At cX4_leaders 12 (.aload_n 0) 1 13 := ⟨by decide +kernel, rfl⟩
theorem aX4_leaders_13 : At cX4_leaders 13 (.iload_n 2) 1 14 := ⟨by decide +kernel, rfl⟩
theorem aX4_leaders_14 : At cX4_leaders 14 (.invokevirtual 58) 3 17 := ⟨by decide +kernel, rfl⟩
theorem aX4_leaders_17 : At cX4_leaders 17 (.ifCond .eq 9) 3 20 := ⟨by decide +kernel, rfl⟩
theorem aX4_leaders_20 : At cX4_leaders 20 (.iload_n 1) 1 21 := ⟨by decide +kernel, rfl⟩
theorem aX4_leaders_21 : At cX4_leaders 21 (.iconst 1) 1 22 := ⟨by decide +kernel, rfl⟩
theorem aX4_leaders_22 : At cX4_leaders 22 (.iload_n 2) 1 23 := ⟨by decide +kernel, rfl⟩
theorem aX4_leaders_23 : At cX4_leaders 23 .ishl 1 24 := ⟨by decide +kernel, rfl⟩
theorem aX4_leaders_24 : At cX4_leaders 24 .ior 1 25 := ⟨by decide +kernel, rfl⟩
theorem aX4_leaders_25 : At cX4_leaders 25 (.istore_n 1) 1 26 := ⟨by decide +kernel, rfl⟩
theorem aX4_leaders_26 : At cX4_leaders 26 (.iinc 2 1) 3 29 := ⟨by decide +kernel, rfl⟩
theorem aX4_leaders_29 : At cX4_leaders 29 (.goto (-25)) 3 32 := ⟨by decide +kernel, rfl⟩
theorem aX4_leaders_32 : At cX4_leaders 32 (.iload_n 1) 1 33 := ⟨by decide +kernel, rfl⟩
theorem aX4_leaders_33 : At cX4_leaders 33 .ireturn 1 34 := ⟨by decide +kernel, rfl⟩
theorem aX4_leastRank_0 : At cX4_leastRank 0 (.aload_n 0) 1 1 := ⟨by decide +kernel, rfl⟩
theorem aX4_leastRank_1 : At cX4_leastRank 1 (.iload_n 1) 1 2 := ⟨by decide +kernel, rfl⟩
theorem aX4_leastRank_2 : At cX4_leastRank 2 (.invokevirtual 75) 3 5 := ⟨by decide +kernel, rfl⟩
theorem aX4_leastRank_5 : At cX4_leastRank 5 (.invokestatic 66) 3 8 := ⟨by decide +kernel, rfl⟩
theorem aX4_leastRank_8 : At cX4_leastRank 8 .ireturn 1 9 := ⟨by decide +kernel, rfl⟩
theorem aX4_openPairs_0 : At cX4_openPairs 0 (.iconst 0) 1 1 := ⟨by decide +kernel, rfl⟩
theorem aX4_openPairs_1 : At cX4_openPairs 1 (.istore_n 1) 1 2 := ⟨by decide +kernel, rfl⟩
theorem aX4_openPairs_2 : At cX4_openPairs 2 (.iconst 0) 1 3 := ⟨by decide +kernel, rfl⟩
theorem aX4_openPairs_3 : At cX4_openPairs 3 (.istore_n 2) 1 4 := ⟨by decide +kernel, rfl⟩
theorem aX4_openPairs_4 : At cX4_openPairs 4 (.iload_n 2) 1 5 := ⟨by decide +kernel, rfl⟩
theorem aX4_openPairs_5 : At cX4_openPairs 5 (.aload_n 0) 1 6 := ⟨by decide +kernel, rfl⟩
theorem aX4_openPairs_6 : At cX4_openPairs 6 (.getfield 24) 3 9 := ⟨by decide +kernel, rfl⟩
theorem aX4_openPairs_9 : At cX4_openPairs 9 (.if_icmp .ge 41) 3 12 := ⟨by decide +kernel, rfl⟩
theorem aX4_openPairs_12 : At cX4_openPairs 12 (.iload_n 2) 1 13 := ⟨by decide +kernel, rfl⟩
theorem aX4_openPairs_13 : At cX4_openPairs 13 (.iconst 1) 1 14 := ⟨by decide +kernel, rfl⟩
theorem aX4_openPairs_14 : At cX4_openPairs 14 .iadd 1 15 := ⟨by decide +kernel, rfl⟩
theorem aX4_openPairs_15 : At cX4_openPairs 15 (.istore_n 3) 1 16 := ⟨by decide +kernel, rfl⟩
theorem aX4_openPairs_16 : At cX4_openPairs 16 (.iload_n 3) 1 17 := ⟨by decide +kernel, rfl⟩
theorem aX4_openPairs_17 : At cX4_openPairs 17 (.aload_n 0) 1 18 := ⟨by decide +kernel, rfl⟩
theorem aX4_openPairs_18 : At cX4_openPairs 18 (.getfield 24) 3 21 := ⟨by decide +kernel, rfl⟩
theorem aX4_openPairs_21 : At cX4_openPairs 21 (.if_icmp .ge 23) 3 24 := ⟨by decide +kernel, rfl⟩
theorem aX4_openPairs_24 : At cX4_openPairs 24 (.aload_n 0) 1 25 := ⟨by decide +kernel, rfl⟩
theorem aX4_openPairs_25 : At cX4_openPairs 25 (.iload_n 2) 1 26 := ⟨by decide +kernel, rfl⟩
theorem aX4_openPairs_26 : At cX4_openPairs 26 (.iload_n 3) 1 27 := ⟨by decide +kernel, rfl⟩
theorem aX4_openPairs_27 : At cX4_openPairs 27 (.invokevirtual 54) 3 30 := ⟨by decide +kernel, rfl⟩
theorem aX4_openPairs_30 : At cX4_openPairs 30 (.bipush (-6)) 2 32 := ⟨by decide +kernel, rfl⟩
theorem aX4_openPairs_32 : At cX4_openPairs 32 (.if_icmp .ne 6) 3 35 := ⟨by decide +kernel, rfl⟩
theorem aX4_openPairs_35 : At cX4_openPairs 35 (.iinc 1 1) 3 38 := ⟨by decide +kernel, rfl⟩
theorem aX4_openPairs_38 : At cX4_openPairs 38 (.iinc 3 1) 3 41 := ⟨by decide +kernel, rfl⟩
theorem aX4_openPairs_41 : At cX4_openPairs 41 (.goto (-25)) 3 44 := ⟨by decide +kernel, rfl⟩
theorem aX4_openPairs_44 : At cX4_openPairs 44 (.iinc 2 1) 3 47 := ⟨by decide +kernel, rfl⟩
theorem aX4_openPairs_47 : At cX4_openPairs 47 (.goto (-43)) 3 50 := ⟨by decide +kernel, rfl⟩
theorem aX4_openPairs_50 : At cX4_openPairs 50 (.iload_n 1) 1 51 := ⟨by decide +kernel, rfl⟩
theorem aX4_openPairs_51 : At cX4_openPairs 51 .ireturn 1 52 := ⟨by decide +kernel, rfl⟩
theorem aX4_orderCount_0 : At cX4_orderCount 0 (.aload_n 0) 1 1 := ⟨by decide +kernel, rfl⟩
theorem aX4_orderCount_1 : At cX4_orderCount 1 (.invokevirtual 62) 3 4 := ⟨by decide +kernel, rfl⟩
theorem aX4_orderCount_4 : At cX4_orderCount 4 (.istore_n 1) 1 5 := ⟨by decide +kernel, rfl⟩
theorem aX4_orderCount_5 : At cX4_orderCount 5 (.aload_n 0) 1 6 := ⟨by decide +kernel, rfl⟩
theorem aX4_orderCount_6 : At cX4_orderCount 6 (.getfield 15) 3 9 := ⟨by decide +kernel, rfl⟩
theorem aX4_orderCount_9 : At cX4_orderCount 9 (.iconst 0) 1 10 := ⟨by decide +kernel, rfl⟩
theorem aX4_orderCount_10 : At cX4_orderCount 10 (.iconst 1) 1 11 := ⟨by decide +kernel, rfl⟩
theorem aX4_orderCount_11 : At cX4_orderCount 11 .iastore 1 12 := ⟨by decide +kernel, rfl⟩
theorem aX4_orderCount_12 : At cX4_orderCount 12 (.iconst 1) 1 13 := ⟨by decide +kernel, rfl⟩
theorem aX4_orderCount_13 : At cX4_orderCount 13 (.istore_n 2) 1 14 := ⟨by decide +kernel, rfl⟩
theorem aX4_orderCount_14 : At cX4_orderCount 14 (.iload_n 2) 1 15 := ⟨by decide +kernel, rfl⟩
theorem aX4_orderCount_15 : At cX4_orderCount 15 (.aload_n 0) 1 16 := ⟨by decide +kernel, rfl⟩
theorem aX4_orderCount_16 : At cX4_orderCount 16 (.getfield 15) 3 19 := ⟨by decide +kernel, rfl⟩
theorem aX4_orderCount_19 : At cX4_orderCount 19 .arraylength 1 20 := ⟨by decide +kernel, rfl⟩
theorem aX4_orderCount_20 : At cX4_orderCount 20 (.if_icmp .ge 32) 3 23 := ⟨by decide +kernel, rfl⟩
theorem aX4_orderCount_23 : At cX4_orderCount 23 (.aload_n 0) 1 24 := ⟨by decide +kernel, rfl⟩
theorem aX4_orderCount_24 : At cX4_orderCount 24 (.getfield 15) 3 27 := ⟨by decide +kernel, rfl⟩
theorem aX4_orderCount_27 : At cX4_orderCount 27 (.iload_n 2) 1 28 := ⟨by decide +kernel, rfl⟩
theorem aX4_orderCount_28 : At cX4_orderCount 28 (.iload_n 2) 1 29 := ⟨by decide +kernel, rfl⟩
theorem aX4_orderCount_29 : At cX4_orderCount 29 (.iload_n 1) 1 30 := ⟨by decide +kernel, rfl⟩
theorem aX4_orderCount_30 : At cX4_orderCount 30 (.iconst (-1)) 1 31 := ⟨by decide +kernel, rfl⟩
theorem aX4_orderCount_31 : At cX4_orderCount 31 .ixor 1 32 := ⟨by decide +kernel, rfl⟩
theorem aX4_orderCount_32 : At cX4_orderCount 32 .iand 1 33 := ⟨by decide +kernel, rfl⟩
theorem aX4_orderCount_33 : At cX4_orderCount 33 (.ifCond .ne 11) 3 36 := ⟨by decide +kernel, rfl⟩
theorem aX4_orderCount_36 : At cX4_orderCount 36 (.aload_n 0) 1 37 := ⟨by decide +kernel, rfl⟩
theorem aX4_orderCount_37 : At cX4_orderCount 37 (.iload_n 2) 1 38 := ⟨by decide +kernel, rfl⟩
theorem aX4_orderCount_38 : At cX4_orderCount 38 (.invokevirtual 81) 3 41 := ⟨by decide +kernel, rfl⟩
theorem aX4_orderCount_41 : At cX4_orderCount 41 (.goto 4) 3 44 := ⟨by decide +kernel, rfl⟩
theorem aX4_orderCount_44 : At cX4_orderCount 44 (.iconst 0) 1 45 := ⟨by decide +kernel, rfl⟩
theorem aX4_orderCount_45 : At cX4_orderCount 45 .iastore 1 46 := ⟨by decide +kernel, rfl⟩
theorem aX4_orderCount_46 : At cX4_orderCount 46 (.iinc 2 1) 3 49 := ⟨by decide +kernel, rfl⟩
theorem aX4_orderCount_49 : At cX4_orderCount 49 (.goto (-35)) 3 52 := ⟨by decide +kernel, rfl⟩
theorem aX4_orderCount_52 : At cX4_orderCount 52 (.aload_n 0) 1 53 := ⟨by decide +kernel, rfl⟩
theorem aX4_orderCount_53 : At cX4_orderCount 53 (.getfield 15) 3 56 := ⟨by decide +kernel, rfl⟩
theorem aX4_orderCount_56 : At cX4_orderCount 56 (.iload_n 1) 1 57 := ⟨by decide +kernel, rfl⟩
theorem aX4_orderCount_57 : At cX4_orderCount 57 .iaload 1 58 := ⟨by decide +kernel, rfl⟩
theorem aX4_orderCount_58 : At cX4_orderCount 58 .ireturn 1 59 := ⟨by decide +kernel, rfl⟩
theorem aX4_read_0 : At cX4_read 0 (.aload_n 0) 1 1 := ⟨by decide +kernel, rfl⟩
theorem aX4_read_1 : At cX4_read 1 (.aload_n 1) 1 2 := ⟨by decide +kernel, rfl⟩
theorem aX4_read_2 : At cX4_read 2 (.getfield 18) 3 5 := ⟨by decide +kernel, rfl⟩
theorem aX4_read_5 : At cX4_read 5 (.putfield 24) 3 8 := ⟨by decide +kernel, rfl⟩
theorem aX4_read_8 : At cX4_read 8 (.iconst 0) 1 9 := ⟨by decide +kernel, rfl⟩
theorem aX4_read_9 : At cX4_read 9 (.istore_n 3) 1 10 := ⟨by decide +kernel, rfl⟩
theorem aX4_read_10 : At cX4_read 10 (.iload_n 3) 1 11 := ⟨by decide +kernel, rfl⟩
theorem aX4_read_11 : At cX4_read 11 (.bipush 6) 2 13 := ⟨by decide +kernel, rfl⟩
theorem aX4_read_13 : At cX4_read 13 (.if_icmp .ge 18) 3 16 := ⟨by decide +kernel, rfl⟩
theorem aX4_read_16 : At cX4_read 16 (.aload_n 0) 1 17 := ⟨by decide +kernel, rfl⟩
theorem aX4_read_17 : At cX4_read 17 (.getfield 9) 3 20 := ⟨by decide +kernel, rfl⟩
theorem aX4_read_20 : At cX4_read 20 (.iload_n 3) 1 21 := ⟨by decide +kernel, rfl⟩
theorem aX4_read_21 : At cX4_read 21 (.iconst 1) 1 22 := ⟨by decide +kernel, rfl⟩
theorem aX4_read_22 : At cX4_read 22 (.iload_n 3) 1 23 := ⟨by decide +kernel, rfl⟩
theorem aX4_read_23 : At cX4_read 23 .ishl 1 24 := ⟨by decide +kernel, rfl⟩
theorem aX4_read_24 : At cX4_read 24 .iastore 1 25 := ⟨by decide +kernel, rfl⟩
theorem aX4_read_25 : At cX4_read 25 (.iinc 3 1) 3 28 := ⟨by decide +kernel, rfl⟩
theorem aX4_read_28 : At cX4_read 28 (.goto (-18)) 3 31 := ⟨by decide +kernel, rfl⟩
theorem aX4_read_31 : At cX4_read 31 (.iconst 0) 1 32 := ⟨by decide +kernel, rfl⟩
theorem aX4_read_32 : At cX4_read 32 (.istore_n 3) 1 33 := ⟨by decide +kernel, rfl⟩
theorem aX4_read_33 : At cX4_read 33 (.iload_n 3) 1 34 := ⟨by decide +kernel, rfl⟩
theorem aX4_read_34 : At cX4_read 34 (.aload_n 1) 1 35 := ⟨by decide +kernel, rfl⟩
theorem aX4_read_35 : At cX4_read 35 (.getfield 25) 3 38 := ⟨by decide +kernel, rfl⟩
theorem aX4_read_38 : At cX4_read 38 (.if_icmp .ge 27) 3 41 := ⟨by decide +kernel, rfl⟩
theorem aX4_read_41 : At cX4_read 41 (.iload_n 2) 1 42 := ⟨by decide +kernel, rfl⟩
theorem aX4_read_42 : At cX4_read 42 (.iload_n 3) 1 43 := ⟨by decide +kernel, rfl⟩
theorem aX4_read_43 : At cX4_read 43 .ishr 1 44 := ⟨by decide +kernel, rfl⟩
theorem aX4_read_44 : At cX4_read 44 (.iconst 1) 1 45 := ⟨by decide +kernel, rfl⟩
theorem aX4_read_45 : At cX4_read 45 .iand 1 46 := ⟨by decide +kernel, rfl⟩
theorem aX4_read_46 : At cX4_read 46 (.ifCond .ne 13) 3 49 := ⟨by decide +kernel, rfl⟩
theorem aX4_read_49 : At cX4_read 49 (.aload_n 0) 1 50 := ⟨by decide +kernel, rfl⟩
theorem aX4_read_50 : At cX4_read 50 (.aload_n 1) 1 51 := ⟨by decide +kernel, rfl⟩
theorem aX4_read_51 : At cX4_read 51 (.getfield 28) 3 54 := ⟨by decide +kernel, rfl⟩
theorem aX4_read_54 : At cX4_read 54 (.iload_n 3) 1 55 := ⟨by decide +kernel, rfl⟩
theorem aX4_read_55 : At cX4_read 55 .aaload 1 56 := ⟨by decide +kernel, rfl⟩
theorem aX4_read_56 : At cX4_read 56 (.invokevirtual 32) 3 59 := ⟨by decide +kernel, rfl⟩
theorem aX4_read_59 : At cX4_read 59 (.iinc 3 1) 3 62 := ⟨by decide +kernel, rfl⟩
theorem aX4_read_62 : At cX4_read 62 (.goto (-29)) 3 65 := ⟨by decide +kernel, rfl⟩
theorem aX4_read_65 : At cX4_read 65 (.aload_n 0) 1 66 := ⟨by decide +kernel, rfl⟩
theorem aX4_read_66 : At cX4_read 66 (.invokevirtual 36) 3 69 := ⟨by decide +kernel, rfl⟩
theorem aX4_read_69 : At cX4_read 69 (.aload_n 0) 1 70 := ⟨by decide +kernel, rfl⟩
theorem aX4_read_70 : At cX4_read 70 (.iconst 1) 1 71 := ⟨by decide +kernel, rfl⟩
theorem aX4_read_71 : At cX4_read 71 (.putfield 39) 3 74 := ⟨by decide +kernel, rfl⟩
theorem aX4_read_74 : At cX4_read 74 (.iconst 0) 1 75 := ⟨by decide +kernel, rfl⟩
theorem aX4_read_75 : At cX4_read 75 (.istore_n 3) 1 76 := ⟨by decide +kernel, rfl⟩
theorem aX4_read_76 : At cX4_read 76 (.iload_n 3) 1 77 := ⟨by decide +kernel, rfl⟩
theorem aX4_read_77 : At cX4_read 77 (.aload_n 1) 1 78 := ⟨by decide +kernel, rfl⟩
theorem aX4_read_78 : At cX4_read 78 (.getfield 25) 3 81 := ⟨by decide +kernel, rfl⟩
theorem aX4_read_81 : At cX4_read 81 (.if_icmp .ge 47) 3 84 := ⟨by decide +kernel, rfl⟩
theorem aX4_read_84 : At cX4_read 84 (.aload_n 0) 1 85 := ⟨by decide +kernel, rfl⟩
theorem aX4_read_85 : At cX4_read 85 (.getfield 39) 3 88 := ⟨by decide +kernel, rfl⟩
theorem aX4_read_88 : At cX4_read 88 (.ifCond .eq 40) 3 91 := ⟨by decide +kernel, rfl⟩
theorem aX4_read_91 : At cX4_read 91 (.aload_n 0) 1 92 := ⟨by decide +kernel, rfl⟩
theorem aX4_read_92 : At cX4_read 92 (.iload_n 2) 1 93 := ⟨by decide +kernel, rfl⟩
theorem aX4_read_93 : At cX4_read 93 (.iload_n 3) 1 94 := ⟨by decide +kernel, rfl⟩
theorem aX4_read_94 : At cX4_read 94 .ishr 1 95 := ⟨by decide +kernel, rfl⟩
theorem aX4_read_95 : At cX4_read 95 (.iconst 1) 1 96 := ⟨by decide +kernel, rfl⟩
theorem aX4_read_96 : At cX4_read 96 .iand 1 97 := ⟨by decide +kernel, rfl⟩
theorem aX4_read_97 : At cX4_read 97 (.iconst 1) 1 98 := ⟨by decide +kernel, rfl⟩
theorem aX4_read_98 : At cX4_read 98 (.if_icmp .eq 16) 3 101 := ⟨by decide +kernel, rfl⟩
theorem aX4_read_101 : At cX4_read 101 (.aload_n 0) 1 102 := ⟨by decide +kernel, rfl⟩
theorem aX4_read_102 : At cX4_read 102 (.aload_n 1) 1 103 := ⟨by decide +kernel, rfl⟩
theorem aX4_read_103 : At cX4_read 103 (.getfield 28) 3 106 := ⟨by decide +kernel, rfl⟩
theorem aX4_read_106 : At cX4_read 106 (.iload_n 3) 1 107 := ⟨by decide +kernel, rfl⟩
theorem aX4_read_107 : At cX4_read 107 .aaload 1 108 := ⟨by decide +kernel, rfl⟩
theorem aX4_read_108 : At cX4_read 108 (.invokevirtual 43) 3 111 := ⟨by decide +kernel, rfl⟩
theorem aX4_read_111 : At cX4_read 111 (.ifCond .ne 7) 3 114 := ⟨by decide +kernel, rfl⟩
theorem aX4_read_114 : At cX4_read 114 (.iconst 1) 1 115 := ⟨by decide +kernel, rfl⟩
theorem aX4_read_115 : At cX4_read 115 (.goto 4) 3 118 := ⟨by decide +kernel, rfl⟩
theorem aX4_read_118 : At cX4_read 118 (.iconst 0) 1 119 := ⟨by decide +kernel, rfl⟩
theorem aX4_read_119 : At cX4_read 119 (.putfield 39) 3 122 := ⟨by decide +kernel, rfl⟩
theorem aX4_read_122 : At cX4_read 122 (.iinc 3 1) 3 125 := ⟨by decide +kernel, rfl⟩
theorem aX4_read_125 : At cX4_read 125 (.goto (-49)) 3 128 := ⟨by decide +kernel, rfl⟩
theorem aX4_read_128 : At cX4_read 128 .return_ 1 129 := ⟨by decide +kernel, rfl⟩
theorem aX4_waysToBegin_0 : At cX4_waysToBegin 0 (.iconst 0) 1 1 := ⟨by decide +kernel, rfl⟩
theorem aX4_waysToBegin_1 : At cX4_waysToBegin 1 (.istore_n 2) 1 2 := ⟨by decide +kernel, rfl⟩
theorem aX4_waysToBegin_2 : At cX4_waysToBegin 2 (.iconst 0) 1 3 := ⟨by decide +kernel, rfl⟩
theorem aX4_waysToBegin_3 : At cX4_waysToBegin 3 (.istore_n 3) 1 4 := ⟨by decide +kernel, rfl⟩
theorem aX4_waysToBegin_4 : At cX4_waysToBegin 4 (.iload_n 3) 1 5 := ⟨by decide +kernel, rfl⟩
theorem aX4_waysToBegin_5 : At cX4_waysToBegin 5 (.aload_n 0) 1 6 := ⟨by decide +kernel, rfl⟩
theorem aX4_waysToBegin_6 : At cX4_waysToBegin 6 (.getfield 24) 3 9 := ⟨by decide +kernel, rfl⟩
theorem aX4_waysToBegin_9 : At cX4_waysToBegin 9 (.if_icmp .ge 57) 3 12 := ⟨by decide +kernel, rfl⟩
theorem aX4_waysToBegin_12 : At cX4_waysToBegin 12 (.iload_n 1) 1 13 := ⟨by decide +kernel, rfl⟩
theorem aX4_waysToBegin_13 : At cX4_waysToBegin 13 (.iload_n 3) 1 14 := ⟨by decide +kernel, rfl⟩
theorem aX4_waysToBegin_14 : At cX4_waysToBegin 14 .ishr 1 15 := ⟨by decide +kernel, rfl⟩
theorem aX4_waysToBegin_15 : At cX4_waysToBegin 15 (.iconst 1) 1 16 := ⟨by decide +kernel, rfl⟩
theorem aX4_waysToBegin_16 : At cX4_waysToBegin 16 .iand 1 17 := ⟨by decide +kernel, rfl⟩
theorem aX4_waysToBegin_17 : At cX4_waysToBegin 17 (.iconst 1) 1 18 := ⟨by decide +kernel, rfl⟩
theorem aX4_waysToBegin_18 : At cX4_waysToBegin 18 (.if_icmp .ne 7) 3 21 := ⟨by decide +kernel, rfl⟩
theorem aX4_waysToBegin_21 : At cX4_waysToBegin 21 (.iconst 1) 1 22 := ⟨by decide +kernel, rfl⟩
theorem aX4_waysToBegin_22 : At cX4_waysToBegin 22 (.goto 4) 3 25 := ⟨by decide +kernel, rfl⟩
theorem aX4_waysToBegin_25 : At cX4_waysToBegin 25 (.iconst 0) 1 26 := ⟨by decide +kernel, rfl⟩
theorem aX4_waysToBegin_26 : At cX4_waysToBegin 26 (.istore 4) 2 28 := ⟨by decide +kernel, rfl⟩
theorem aX4_waysToBegin_28 : At cX4_waysToBegin 28 (.iload 4) 2 30 := ⟨by decide +kernel, rfl⟩
theorem aX4_waysToBegin_30 : At cX4_waysToBegin 30 (.ifCond .eq 30) 3 33 := ⟨by decide +kernel, rfl⟩
theorem aX4_waysToBegin_33 : At cX4_waysToBegin 33 (.aload_n 0) 1 34 := ⟨by decide +kernel, rfl⟩
theorem aX4_waysToBegin_34 : At cX4_waysToBegin 34 (.iload_n 3) 1 35 := ⟨by decide +kernel, rfl⟩
theorem aX4_waysToBegin_35 : At cX4_waysToBegin 35 (.invokevirtual 75) 3 38 := ⟨by decide +kernel, rfl⟩
theorem aX4_waysToBegin_38 : At cX4_waysToBegin 38 (.iload_n 1) 1 39 := ⟨by decide +kernel, rfl⟩
theorem aX4_waysToBegin_39 : At cX4_waysToBegin 39 (.iconst (-1)) 1 40 := ⟨by decide +kernel, rfl⟩
theorem aX4_waysToBegin_40 : At cX4_waysToBegin 40 .ixor 1 41 := ⟨by decide +kernel, rfl⟩
theorem aX4_waysToBegin_41 : At cX4_waysToBegin 41 .iand 1 42 := ⟨by decide +kernel, rfl⟩
theorem aX4_waysToBegin_42 : At cX4_waysToBegin 42 (.ifCond .ne 18) 3 45 := ⟨by decide +kernel, rfl⟩
theorem aX4_waysToBegin_45 : At cX4_waysToBegin 45 (.iload_n 2) 1 46 := ⟨by decide +kernel, rfl⟩
theorem aX4_waysToBegin_46 : At cX4_waysToBegin 46 (.aload_n 0) 1 47 := ⟨by decide +kernel, rfl⟩
theorem aX4_waysToBegin_47 : At cX4_waysToBegin 47 (.getfield 15) 3 50 := ⟨by decide +kernel, rfl⟩
theorem aX4_waysToBegin_50 : At cX4_waysToBegin 50 (.iload_n 1) 1 51 := ⟨by decide +kernel, rfl⟩
theorem aX4_waysToBegin_51 : At cX4_waysToBegin 51 (.iconst 1) 1 52 := ⟨by decide +kernel, rfl⟩
theorem aX4_waysToBegin_52 : At cX4_waysToBegin 52 (.iload_n 3) 1 53 := ⟨by decide +kernel, rfl⟩
theorem aX4_waysToBegin_53 : At cX4_waysToBegin 53 .ishl 1 54 := ⟨by decide +kernel, rfl⟩
theorem aX4_waysToBegin_54 : At cX4_waysToBegin 54 (.iconst (-1)) 1 55 := ⟨by decide +kernel, rfl⟩
theorem aX4_waysToBegin_55 : At cX4_waysToBegin 55 .ixor 1 56 := ⟨by decide +kernel, rfl⟩
theorem aX4_waysToBegin_56 : At cX4_waysToBegin 56 .iand 1 57 := ⟨by decide +kernel, rfl⟩
theorem aX4_waysToBegin_57 : At cX4_waysToBegin 57 .iaload 1 58 := ⟨by decide +kernel, rfl⟩
theorem aX4_waysToBegin_58 : At cX4_waysToBegin 58 .iadd 1 59 := ⟨by decide +kernel, rfl⟩
theorem aX4_waysToBegin_59 : At cX4_waysToBegin 59 (.istore_n 2) 1 60 := ⟨by decide +kernel, rfl⟩
theorem aX4_waysToBegin_60 : At cX4_waysToBegin 60 (.iinc 3 1) 3 63 := ⟨by decide +kernel, rfl⟩
theorem aX4_waysToBegin_63 : At cX4_waysToBegin 63 (.goto (-59)) 3 66 := ⟨by decide +kernel, rfl⟩
theorem aX4_waysToBegin_66 : At cX4_waysToBegin 66 (.iload_n 2) 1 67 := ⟨by decide +kernel, rfl⟩
theorem aX4_waysToBegin_67 : At cX4_waysToBegin 67 .ireturn 1 68 := ⟨by decide +kernel, rfl⟩
theorem aX5_allFit_0 : At cX5_allFit 0 (.iconst 0) 1 1 := ⟨by decide +kernel, rfl⟩
theorem aX5_allFit_1 : At cX5_allFit 1 (.istore_n 2) 1 2 := ⟨by decide +kernel, rfl⟩
theorem aX5_allFit_2 : At cX5_allFit 2 (.iload_n 2) 1 3 := ⟨by decide +kernel, rfl⟩
theorem aX5_allFit_3 : At cX5_allFit 3 (.iload_n 1) 1 4 := ⟨by decide +kernel, rfl⟩
theorem aX5_allFit_4 : At cX5_allFit 4 (.if_icmp .ge 26) 3 7 := ⟨by decide +kernel, rfl⟩
theorem aX5_allFit_7 : At cX5_allFit 7 (.aload_n 0) 1 8 := ⟨by decide +kernel, rfl⟩
theorem aX5_allFit_8 : At cX5_allFit 8 (.getfield 9) 3 11 := ⟨by decide +kernel, rfl⟩
theorem aX5_allFit_11 : At cX5_allFit 11 (.iload_n 2) 1 12 := ⟨by decide +kernel, rfl⟩
theorem aX5_allFit_12 : At cX5_allFit 12 .iaload 1 13 := ⟨by decide +kernel, rfl⟩
theorem aX5_allFit_13 : At cX5_allFit 13 (.aload_n 0) 1 14 := ⟨by decide +kernel, rfl⟩
theorem aX5_allFit_14 : At cX5_allFit 14 (.getfield 15) 3 17 := ⟨by decide +kernel, rfl⟩
theorem aX5_allFit_17 : At cX5_allFit 17 (.iload_n 2) 1 18 := ⟨by decide +kernel, rfl⟩
theorem aX5_allFit_18 : At cX5_allFit 18 .iaload 1 19 := ⟨by decide +kernel, rfl⟩
theorem aX5_allFit_19 : At cX5_allFit 19 (.if_icmp .le 5) 3 22 := ⟨by decide +kernel, rfl⟩
theorem aX5_allFit_22 : At cX5_allFit 22 (.iconst 0) 1 23 := ⟨by decide +kernel, rfl⟩
theorem aX5_allFit_23 : At cX5_allFit 23 .ireturn 1 24 := ⟨by decide +kernel, rfl⟩
theorem aX5_allFit_24 : At cX5_allFit 24 (.iinc 2 1) 3 27 := ⟨by decide +kernel, rfl⟩
theorem aX5_allFit_27 : At cX5_allFit 27 (.goto (-25)) 3 30 := ⟨by decide +kernel, rfl⟩
theorem aX5_allFit_30 : At cX5_allFit 30 (.iconst 1) 1 31 := ⟨by decide +kernel, rfl⟩
theorem aX5_allFit_31 : At cX5_allFit 31 .ireturn 1 32 := ⟨by decide +kernel, rfl⟩
theorem aX5_hear_0 : At cX5_hear 0 (.aload_n 1) 1 1 := ⟨by decide +kernel, rfl⟩
theorem aX5_hear_1 : At cX5_hear 1 (.iconst 0) 1 2 := ⟨by decide +kernel, rfl⟩
theorem aX5_hear_2 : At cX5_hear 2 .iaload 1 3 := ⟨by decide +kernel, rfl⟩
theorem aX5_hear_3 : At cX5_hear 3 (.istore_n 3) 1 4 := ⟨by decide +kernel, rfl⟩
theorem aX5_hear_4 : At cX5_hear 4 (.aload_n 1) 1 5 := ⟨by decide +kernel, rfl⟩
theorem aX5_hear_5 : At cX5_hear 5 (.iconst 1) 1 6 := ⟨by decide +kernel, rfl⟩
theorem aX5_hear_6 : At cX5_hear 6 .iaload 1 7 := ⟨by decide +kernel, rfl⟩
theorem aX5_hear_7 : At cX5_hear 7 (.istore 4) 2 9 := ⟨by decide +kernel, rfl⟩
theorem aX5_hear_9 : At cX5_hear 9 (.aload_n 1) 1 10 := ⟨by decide +kernel, rfl⟩
theorem aX5_hear_10 : At cX5_hear 10 (.iconst 2) 1 11 := ⟨by decide +kernel, rfl⟩
theorem aX5_hear_11 : At cX5_hear 11 .iaload 1 12 := ⟨by decide +kernel, rfl⟩
theorem aX5_hear_12 : At cX5_hear 12 (.ifCond .ne 7) 3 15 := ⟨by decide +kernel, rfl⟩
theorem aX5_hear_15 : At cX5_hear 15 (.iconst 0) 1 16 := ⟨by decide +kernel, rfl⟩
theorem aX5_hear_16 : At cX5_hear 16 (.goto 4) 3 19 := ⟨by decide +kernel, rfl⟩
theorem aX5_hear_19 : At cX5_hear 19 (.iconst 1) 1 20 := ⟨by decide +kernel, rfl⟩
theorem aX5_hear_20 : At cX5_hear 20 (.istore 5) 2 22 := ⟨by decide +kernel, rfl⟩
theorem aX5_hear_22 : At cX5_hear 22 (.aload_n 1) 1 23 := ⟨by decide +kernel, rfl⟩
theorem aX5_hear_23 : At cX5_hear 23 (.iconst 2) 1 24 := ⟨by decide +kernel, rfl⟩
theorem aX5_hear_24 : At cX5_hear 24 .iaload 1 25 := ⟨by decide +kernel, rfl⟩
theorem aX5_hear_25 : At cX5_hear 25 (.iconst 2) 1 26 := ⟨by decide +kernel, rfl⟩
theorem aX5_hear_26 : At cX5_hear 26 (.if_icmp .eq 18) 3 29 := ⟨by decide +kernel, rfl⟩
theorem aX5_hear_29 : At cX5_hear 29 (.aload_n 0) 1 30 := ⟨by decide +kernel, rfl⟩
theorem aX5_hear_30 : At cX5_hear 30 (.iload_n 3) 1 31 := ⟨by decide +kernel, rfl⟩
theorem aX5_hear_31 : At cX5_hear 31 (.iload 4) 2 33 := ⟨by decide +kernel, rfl⟩
theorem aX5_hear_33 : At cX5_hear 33 (.iload 5) 2 35 := ⟨by decide +kernel, rfl⟩
theorem aX5_hear_35 : At cX5_hear 35 (.iload_n 2) 1 36 := ⟨by decide +kernel, rfl⟩
theorem aX5_hear_36 : At cX5_hear 36 (.aload_n 1) 1 37 := ⟨by decide +kernel, rfl⟩
theorem aX5_hear_37 : At cX5_hear 37 (.iconst 4) 1 38 := ⟨by decide +kernel, rfl⟩
theorem aX5_hear_38 : At cX5_hear 38 .iaload 1 39 := ⟨by decide +kernel, rfl⟩
theorem aX5_hear_39 : At cX5_hear 39 .imul 1 40 := ⟨by decide +kernel, rfl⟩
theorem aX5_hear_40 : At cX5_hear 40 .isub 1 41 := ⟨by decide +kernel, rfl⟩
theorem aX5_hear_41 : At cX5_hear 41 (.invokevirtual 58) 3 44 := ⟨by decide +kernel, rfl⟩
theorem aX5_hear_44 : At cX5_hear 44 (.aload_n 1) 1 45 := ⟨by decide +kernel, rfl⟩
theorem aX5_hear_45 : At cX5_hear 45 (.iconst 2) 1 46 := ⟨by decide +kernel, rfl⟩
theorem aX5_hear_46 : At cX5_hear 46 .iaload 1 47 := ⟨by decide +kernel, rfl⟩
theorem aX5_hear_47 : At cX5_hear 47 (.iconst 1) 1 48 := ⟨by decide +kernel, rfl⟩
theorem aX5_hear_48 : At cX5_hear 48 (.if_icmp .eq 18) 3 51 := ⟨by decide +kernel, rfl⟩
theorem aX5_hear_51 : At cX5_hear 51 (.aload_n 0) 1 52 := ⟨by decide +kernel, rfl⟩
theorem aX5_hear_52 : At cX5_hear 52 (.iload 4) 2 54 := ⟨by decide +kernel, rfl⟩
theorem aX5_hear_54 : At cX5_hear 54 (.iload_n 3) 1 55 := ⟨by decide +kernel, rfl⟩
theorem aX5_hear_55 : At cX5_hear 55 (.iload 5) 2 57 := ⟨by decide +kernel, rfl⟩
theorem aX5_hear_57 : At cX5_hear 57 (.iload_n 2) 1 58 := ⟨by decide +kernel, rfl⟩
theorem aX5_hear_58 : At cX5_hear 58 (.aload_n 1) 1 59 := ⟨by decide +kernel, rfl⟩
theorem aX5_hear_59 : At cX5_hear 59 (.iconst 3) 1 60 := ⟨by decide +kernel, rfl⟩
theorem aX5_hear_60 : At cX5_hear 60 .iaload 1 61 := ⟨by decide +kernel, rfl⟩
theorem aX5_hear_61 : At cX5_hear 61 .imul 1 62 := ⟨by decide +kernel, rfl⟩
theorem aX5_hear_62 : At cX5_hear 62 .isub 1 63 := ⟨by decide +kernel, rfl⟩
theorem aX5_hear_63 : At cX5_hear 63 (.invokevirtual 58) 3 66 := ⟨by decide +kernel, rfl⟩
theorem aX5_hear_66 : At cX5_hear 66 .return_ 1 67 := ⟨by decide +kernel, rfl⟩
theorem aX5_init_0 : At cX5_init 0 (.aload_n 0) 1 1 := ⟨by decide +kernel, rfl⟩
theorem aX5_init_1 : At cX5_init 1 (.invokespecial 3) 3 4 := ⟨by decide +kernel, rfl⟩
theorem aX5_init_4 : At cX5_init 4 (.aload_n 0) 1 5 := ⟨by decide +kernel, rfl⟩
theorem aX5_init_5 : At cX5_init 5 (.bipush 6) 2 7 := ⟨by decide +kernel, rfl⟩
theorem aX5_init_7 : At cX5_init 7 (.newarray .int) 2 9 := ⟨by decide +kernel, rfl⟩
theorem aX5_init_9 : At cX5_init 9 (.putfield 9) 3 12 := ⟨by decide +kernel, rfl⟩
theorem aX5_init_12 : At cX5_init 12 (.aload_n 0) 1 13 := ⟨by decide +kernel, rfl⟩
theorem aX5_init_13 : At cX5_init 13 (.bipush 6) 2 15 := ⟨by decide +kernel, rfl⟩
theorem aX5_init_15 : At cX5_init 15 (.newarray .int) 2 17 := ⟨by decide +kernel, rfl⟩
theorem aX5_init_17 : At cX5_init 17 (.putfield 15) 3 20 := ⟨by decide +kernel, rfl⟩
theorem aX5_init_20 : At cX5_init 20 .return_ 1 21 := ⟨by decide +kernel, rfl⟩
theorem aX5_keepAbove_0 : At cX5_keepAbove 0 (.aload_n 0) 1 1 := ⟨by decide +kernel, rfl⟩
theorem aX5_keepAbove_1 : At cX5_keepAbove 1 (.getfield 9) 3 4 := ⟨by decide +kernel, rfl⟩
theorem aX5_keepAbove_4 : At cX5_keepAbove 4 (.iload_n 1) 1 5 := ⟨by decide +kernel, rfl⟩
theorem aX5_keepAbove_5 : At cX5_keepAbove 5 .iaload 1 6 := ⟨by decide +kernel, rfl⟩
theorem aX5_keepAbove_6 : At cX5_keepAbove 6 (.aload_n 0) 1 7 := ⟨by decide +kernel, rfl⟩
theorem aX5_keepAbove_7 : At cX5_keepAbove 7 (.getfield 9) 3 10 := ⟨by decide +kernel, rfl⟩
theorem aX5_keepAbove_10 : At cX5_keepAbove 10 (.iload_n 2) 1 11 := ⟨by decide +kernel, rfl⟩
theorem aX5_keepAbove_11 : At cX5_keepAbove 11 .iaload 1 12 := ⟨by decide +kernel, rfl⟩
theorem aX5_keepAbove_12 : At cX5_keepAbove 12 (.iload_n 3) 1 13 := ⟨by decide +kernel, rfl⟩
theorem aX5_keepAbove_13 : At cX5_keepAbove 13 .iadd 1 14 := ⟨by decide +kernel, rfl⟩
theorem aX5_keepAbove_14 : At cX5_keepAbove 14 (.if_icmp .ge 22) 3 17 := ⟨by decide +kernel, rfl⟩
theorem aX5_keepAbove_17 : At cX5_keepAbove 17 (.aload_n 0) 1 18 := ⟨by decide +kernel, rfl⟩
theorem aX5_keepAbove_18 : At cX5_keepAbove 18 (.getfield 9) 3 21 := ⟨by decide +kernel, rfl⟩
theorem aX5_keepAbove_21 : At cX5_keepAbove 21 (.iload_n 1) 1 22 := ⟨by decide +kernel, rfl⟩
theorem aX5_keepAbove_22 : At cX5_keepAbove 22 (.aload_n 0) 1 23 := ⟨by decide +kernel, rfl⟩
theorem aX5_keepAbove_23 : At cX5_keepAbove 23 (.getfield 9) 3 26 := ⟨by decide +kernel, rfl⟩
theorem aX5_keepAbove_26 : At cX5_keepAbove 26 (.iload_n 2) 1 27 := ⟨by decide +kernel, rfl⟩
theorem aX5_keepAbove_27 : At cX5_keepAbove 27 .iaload 1 28 := ⟨by decide +kernel, rfl⟩
theorem aX5_keepAbove_28 : At cX5_keepAbove 28 (.iload_n 3) 1 29 := ⟨by decide +kernel, rfl⟩
theorem aX5_keepAbove_29 : At cX5_keepAbove 29 .iadd 1 30 := ⟨by decide +kernel, rfl⟩
theorem aX5_keepAbove_30 : At cX5_keepAbove 30 .iastore 1 31 := ⟨by decide +kernel, rfl⟩
theorem aX5_keepAbove_31 : At cX5_keepAbove 31 (.aload_n 0) 1 32 := ⟨by decide +kernel, rfl⟩
theorem aX5_keepAbove_32 : At cX5_keepAbove 32 (.iconst 1) 1 33 := ⟨by decide +kernel, rfl⟩
theorem aX5_keepAbove_33 : At cX5_keepAbove 33 (.putfield 32) 3 36 := ⟨by decide +kernel, rfl⟩
theorem aX5_keepAbove_36 : At cX5_keepAbove 36 (.aload_n 0) 1 37 := ⟨by decide +kernel, rfl⟩
theorem aX5_keepAbove_37 : At cX5_keepAbove 37 (.getfield 15) 3 40 := ⟨by decide +kernel, rfl⟩
theorem aX5_keepAbove_40 : At cX5_keepAbove 40 (.iload_n 2) 1 41 := ⟨by decide +kernel, rfl⟩
theorem aX5_keepAbove_41 : At cX5_keepAbove 41 .iaload 1 42 := ⟨by decide +kernel, rfl⟩
theorem aX5_keepAbove_42 : At cX5_keepAbove 42 (.aload_n 0) 1 43 := ⟨by decide +kernel, rfl⟩
theorem aX5_keepAbove_43 : At cX5_keepAbove 43 (.getfield 15) 3 46 := ⟨by decide +kernel, rfl⟩
theorem aX5_keepAbove_46 : At cX5_keepAbove 46 (.iload_n 1) 1 47 := ⟨by decide +kernel, rfl⟩
theorem aX5_keepAbove_47 : At cX5_keepAbove 47 .iaload 1 48 := ⟨by decide +kernel, rfl⟩
theorem aX5_keepAbove_48 : At cX5_keepAbove 48 (.iload_n 3) 1 49 := ⟨by decide +kernel, rfl⟩
theorem aX5_keepAbove_49 : At cX5_keepAbove 49 .isub 1 50 := ⟨by decide +kernel, rfl⟩
theorem aX5_keepAbove_50 : At cX5_keepAbove 50 (.if_icmp .le 22) 3 53 := ⟨by decide +kernel, rfl⟩
theorem aX5_keepAbove_53 : At cX5_keepAbove 53 (.aload_n 0) 1 54 := ⟨by decide +kernel, rfl⟩
theorem aX5_keepAbove_54 : At cX5_keepAbove 54 (.getfield 15) 3 57 := ⟨by decide +kernel, rfl⟩
theorem aX5_keepAbove_57 : At cX5_keepAbove 57 (.iload_n 2) 1 58 := ⟨by decide +kernel, rfl⟩
theorem aX5_keepAbove_58 : At cX5_keepAbove 58 (.aload_n 0) 1 59 := ⟨by decide +kernel, rfl⟩
theorem aX5_keepAbove_59 : At cX5_keepAbove 59 (.getfield 15) 3 62 := ⟨by decide +kernel, rfl⟩
theorem aX5_keepAbove_62 : At cX5_keepAbove 62 (.iload_n 1) 1 63 := ⟨by decide +kernel, rfl⟩
theorem aX5_keepAbove_63 : At cX5_keepAbove 63 .iaload 1 64 := ⟨by decide +kernel, rfl⟩
theorem aX5_keepAbove_64 : At cX5_keepAbove 64 (.iload_n 3) 1 65 := ⟨by decide +kernel, rfl⟩
theorem aX5_keepAbove_65 : At cX5_keepAbove 65 .isub 1 66 := ⟨by decide +kernel, rfl⟩
theorem aX5_keepAbove_66 : At cX5_keepAbove 66 .iastore 1 67 := ⟨by decide +kernel, rfl⟩
theorem aX5_keepAbove_67 : At cX5_keepAbove 67 (.aload_n 0) 1 68 := ⟨by decide +kernel, rfl⟩
theorem aX5_keepAbove_68 : At cX5_keepAbove 68 (.iconst 1) 1 69 := ⟨by decide +kernel, rfl⟩
theorem aX5_keepAbove_69 : At cX5_keepAbove 69 (.putfield 32) 3 72 := ⟨by decide +kernel, rfl⟩
theorem aX5_keepAbove_72 : At cX5_keepAbove 72 .return_ 1 73 := ⟨by decide +kernel, rfl⟩
theorem aX5_settle_0 : At cX5_settle 0 (.aload_n 1) 1 1 := ⟨by decide +kernel, rfl⟩
theorem aX5_settle_1 : At cX5_settle 1 (.getfield 18) 3 4 := ⟨by decide +kernel, rfl⟩
theorem aX5_settle_4 : At cX5_settle 4 (.iconst 0) 1 5 := ⟨by decide +kernel, rfl⟩
theorem aX5_settle_5 : At cX5_settle 5 (.aload_n 0) 1 6 := ⟨by decide +kernel, rfl⟩
theorem aX5_settle_6 : At cX5_settle 6 (.getfield 9) 3 9 := ⟨by decide +kernel, rfl⟩
theorem aX5_settle_9 : At cX5_settle 9 (.iconst 0) 1 10 := ⟨by decide +kernel, rfl⟩
theorem aX5_settle_10 : At cX5_settle 10 (.bipush 6) 2 12 := ⟨by decide +kernel, rfl⟩
theorem aX5_settle_12 : At cX5_settle 12 (.invokestatic 23) 3 15 := ⟨by decide +kernel, rfl⟩
theorem aX5_settle_15 : At cX5_settle 15 (.aload_n 1) 1 16 := ⟨by decide +kernel, rfl⟩
theorem aX5_settle_16 : At cX5_settle 16 (.getfield 29) 3 19 := ⟨by decide +kernel, rfl⟩
theorem aX5_settle_19 : At cX5_settle 19 (.iconst 0) 1 20 := ⟨by decide +kernel, rfl⟩
theorem aX5_settle_20 : At cX5_settle 20 (.aload_n 0) 1 21 := ⟨by decide +kernel, rfl⟩
theorem aX5_settle_21 : At cX5_settle 21 (.getfield 15) 3 24 := ⟨by decide +kernel, rfl⟩
theorem aX5_settle_24 : At cX5_settle 24 (.iconst 0) 1 25 := ⟨by decide +kernel, rfl⟩
theorem aX5_settle_25 : At cX5_settle 25 (.bipush 6) 2 27 := ⟨by decide +kernel, rfl⟩
theorem aX5_settle_27 : At cX5_settle 27 (.invokestatic 23) 3 30 := ⟨by decide +kernel, rfl⟩
theorem aX5_settle_30 : At cX5_settle 30 (.iconst 0) 1 31 := ⟨by decide +kernel, rfl⟩
theorem aX5_settle_31 : At cX5_settle 31 (.istore_n 2) 1 32 := ⟨by decide +kernel, rfl⟩
theorem aX5_settle_32 : At cX5_settle 32 (.iload_n 2) 1 33 := ⟨by decide +kernel, rfl⟩
theorem aX5_settle_33 : At cX5_settle 33 (.bipush 6) 2 35 := ⟨by decide +kernel, rfl⟩
theorem aX5_settle_35 : At cX5_settle 35 (.if_icmp .gt 60) 3 38 := ⟨by decide +kernel, rfl⟩
theorem aX5_settle_38 : At cX5_settle 38 (.aload_n 0) 1 39 := ⟨by decide +kernel, rfl⟩
theorem aX5_settle_39 : At cX5_settle 39 (.iconst 0) 1 40 := ⟨by decide +kernel, rfl⟩
theorem aX5_settle_40 : At cX5_settle 40 (.putfield 32) 3 43 := ⟨by decide +kernel, rfl⟩
theorem aX5_settle_43 : At cX5_settle 43 (.iconst 0) 1 44 := ⟨by decide +kernel, rfl⟩
theorem aX5_settle_44 : At cX5_settle 44 (.istore_n 3) 1 45 := ⟨by decide +kernel, rfl⟩
theorem aX5_settle_45 : At cX5_settle 45 (.iload_n 3) 1 46 := ⟨by decide +kernel, rfl⟩
theorem aX5_settle_46 : At cX5_settle 46 (.aload_n 1) 1 47 := ⟨by decide +kernel, rfl⟩
theorem aX5_settle_47 : At cX5_settle 47 (.getfield 36) 3 50 := ⟨by decide +kernel, rfl⟩
theorem aX5_settle_50 : At cX5_settle 50 (.if_icmp .ge 23) 3 53 := ⟨by decide +kernel, rfl⟩
theorem aX5_settle_53 : At cX5_settle 53 (.aload_n 0) 1 54 := ⟨by decide +kernel, rfl⟩
theorem aX5_settle_54 : At cX5_settle 54 (.aload_n 1) 1 55 := ⟨by decide +kernel, rfl⟩
theorem aX5_settle_55 : At cX5_settle 55 (.getfield 40) 3 58 := ⟨by decide +kernel, rfl⟩
theorem aX5_settle_58 : At cX5_settle 58 (.iload_n 3) 1 59 := ⟨by decide +kernel, rfl⟩
theorem aX5_settle_59 : At cX5_settle 59 .aaload 1 60 := ⟨by decide +kernel, rfl⟩
theorem aX5_settle_60 : At cX5_settle 60 (.aload_n 1) 1 61 := ⟨by decide +kernel, rfl⟩
theorem aX5_settle_61 : At cX5_settle 61 (.getfield 44) 3 64 := ⟨by decide +kernel, rfl⟩
theorem aX5_settle_64 : At cX5_settle 64 (.invokevirtual 47) 3 67 := ⟨by decide +kernel, rfl⟩
theorem aX5_settle_67 : At cX5_settle 67 (.iinc 3 1) 3 70 := ⟨by decide +kernel, rfl⟩
theorem aX5_settle_70 : At cX5_settle 70 (.goto (-25)) 3 73 := ⟨by decide +kernel, rfl⟩
theorem aX5_settle_73 : At cX5_settle 73 (.aload_n 0) 1 74 := ⟨by decide +kernel, rfl⟩
theorem aX5_settle_74 : At cX5_settle 74 (.getfield 32) 3 77 := ⟨by decide +kernel, rfl⟩
theorem aX5_settle_77 : At cX5_settle 77 (.ifCond .ne 12) 3 80 := ⟨by decide +kernel, rfl⟩
theorem aX5_settle_80 : At cX5_settle 80 (.aload_n 0) 1 81 := ⟨by decide +kernel, rfl⟩
theorem aX5_settle_81 : At cX5_settle 81 (.aload_n 1) 1 82 := ⟨by decide +kernel, rfl⟩
theorem aX5_settle_82 : At cX5_settle 82 (.getfield 51) 3 85 := ⟨by decide +kernel, rfl⟩
theorem aX5_settle_85 : At cX5_settle 85 (.invokevirtual 54) 3 88 := ⟨by decide +kernel, rfl⟩
theorem aX5_settle_88 : At cX5_settle 88 .ireturn 1 89 := ⟨by decide +kernel, rfl⟩
theorem aX5_settle_89 : At cX5_settle 89 (.iinc 2 1) 3 92 := ⟨by decide +kernel, rfl⟩
theorem aX5_settle_92 : At cX5_settle 92 (.goto (-60)) 3 95 := ⟨by decide +kernel, rfl⟩
theorem aX5_settle_95 : At cX5_settle 95 (.iconst 0) 1 96 := ⟨by decide +kernel, rfl⟩
theorem aX5_settle_96 : At cX5_settle 96 .ireturn 1 97 := ⟨by decide +kernel, rfl⟩
theorem aX6_advance_0 : At cX6_advance 0 (.aload_n 0) 1 1 := ⟨by decide +kernel, rfl⟩
theorem aX6_advance_1 : At cX6_advance 1 (.getfield 15) 3 4 := ⟨by decide +kernel, rfl⟩
theorem aX6_advance_4 : At cX6_advance 4 (.iconst 2) 1 5 := ⟨by decide +kernel, rfl⟩
theorem aX6_advance_5 : At cX6_advance 5 .isub 1 6 := ⟨by decide +kernel, rfl⟩
theorem aX6_advance_6 : At cX6_advance 6 (.istore_n 1) 1 7 := ⟨by decide +kernel, rfl⟩
theorem aX6_advance_7 : At cX6_advance 7 (.iload_n 1) 1 8 := ⟨by decide +kernel, rfl⟩
theorem aX6_advance_8 : At cX6_advance 8 (.ifCond .lt 26) 3 11 := ⟨by decide +kernel, rfl⟩
theorem aX6_advance_11 : At cX6_advance 11 (.aload_n 0) 1 12 := ⟨by decide +kernel, rfl⟩
theorem aX6_advance_12 : At cX6_advance 12 (.getfield 9) 3 15 := ⟨by decide +kernel, rfl⟩
theorem aX6_advance_15 : At cX6_advance 15 (.iload_n 1) 1 16 := ⟨by decide +kernel, rfl⟩
theorem aX6_advance_16 : At cX6_advance 16 .iaload 1 17 := ⟨by decide +kernel, rfl⟩
theorem aX6_advance_17 : At cX6_advance 17 (.aload_n 0) 1 18 := ⟨by decide +kernel, rfl⟩
theorem aX6_advance_18 : At cX6_advance 18 (.getfield 9) 3 21 := ⟨by decide +kernel, rfl⟩
theorem aX6_advance_21 : At cX6_advance 21 (.iload_n 1) 1 22 := ⟨by decide +kernel, rfl⟩
theorem aX6_advance_22 : At cX6_advance 22 (.iconst 1) 1 23 := ⟨by decide +kernel, rfl⟩
theorem aX6_advance_23 : At cX6_advance 23 .iadd 1 24 := ⟨by decide +kernel, rfl⟩
theorem aX6_advance_24 : At cX6_advance 24 .iaload 1 25 := ⟨by decide +kernel, rfl⟩
theorem aX6_advance_25 : At cX6_advance 25 (.if_icmp .le 9) 3 28 := ⟨by decide +kernel, rfl⟩
theorem aX6_advance_28 : At cX6_advance 28 (.iinc 1 (-1)) 3 31 := ⟨by decide +kernel, rfl⟩
theorem aX6_advance_31 : At cX6_advance 31 (.goto (-24)) 3 34 := ⟨by decide +kernel, rfl⟩
theorem aX6_advance_34 : At cX6_advance 34 (.iload_n 1) 1 35 := ⟨by decide +kernel, rfl⟩
theorem aX6_advance_35 : At cX6_advance 35 (.ifCond .ge 5) 3 38 := ⟨by decide +kernel, rfl⟩
theorem aX6_advance_38 : At cX6_advance 38 (.iconst 0) 1 39 := ⟨by decide +kernel, rfl⟩
theorem aX6_advance_39 : At cX6_advance 39 .ireturn 1 40 := ⟨by decide +kernel, rfl⟩
theorem aX6_advance_40 : At cX6_advance 40 (.aload_n 0) 1 41 := ⟨by decide +kernel, rfl⟩
theorem aX6_advance_41 : At cX6_advance 41 (.getfield 15) 3 44 := ⟨by decide +kernel, rfl⟩
theorem aX6_advance_44 : At cX6_advance 44 (.iconst 1) 1 45 := ⟨by decide +kernel, rfl⟩
theorem aX6_advance_45 : At cX6_advance 45 .isub 1 46 := ⟨by decide +kernel, rfl⟩
theorem aX6_advance_46 : At cX6_advance 46 (.istore_n 2) 1 47 := ⟨by decide +kernel, rfl⟩
theorem aX6_advance_47 : At cX6_advance 47 (.iload_n 2) 1 48 := ⟨by decide +kernel, rfl⟩
theorem aX6_advance_48 : At cX6_advance 48 (.iload_n 1) 1 49 := ⟨by decide +kernel, rfl⟩
theorem aX6_advance_49 : At cX6_advance 49 (.if_icmp .le 24) 3 52 := ⟨by decide +kernel, rfl⟩
theorem aX6_advance_52 : At cX6_advance 52 (.aload_n 0) 1 53 := ⟨by decide +kernel, rfl⟩
theorem aX6_advance_53 : At cX6_advance 53 (.getfield 9) 3 56 := ⟨by decide +kernel, rfl⟩
theorem aX6_advance_56 : At cX6_advance 56 (.iload_n 2) 1 57 := ⟨by decide +kernel, rfl⟩
theorem aX6_advance_57 : At cX6_advance 57 .iaload 1 58 := ⟨by decide +kernel, rfl⟩
theorem aX6_advance_58 : At cX6_advance 58 (.aload_n 0) 1 59 := ⟨by decide +kernel, rfl⟩
theorem aX6_advance_59 : At cX6_advance 59 (.getfield 9) 3 62 := ⟨by decide +kernel, rfl⟩
theorem aX6_advance_62 : At cX6_advance 62 (.iload_n 1) 1 63 := ⟨by decide +kernel, rfl⟩
theorem aX6_advance_63 : At cX6_advance 63 .iaload 1 64 := ⟨by decide +kernel, rfl⟩
theorem aX6_advance_64 : At cX6_advance 64 (.if_icmp .ge 9) 3 67 := ⟨by decide +kernel, rfl⟩
theorem aX6_advance_67 : At cX6_advance 67 (.iinc 2 (-1)) 3 70 := ⟨by decide +kernel, rfl⟩
theorem aX6_advance_70 : At cX6_advance 70 (.goto (-23)) 3 73 := ⟨by decide +kernel, rfl⟩
theorem aX6_advance_73 : At cX6_advance 73 (.aload_n 0) 1 74 := ⟨by decide +kernel, rfl⟩
theorem aX6_advance_74 : At cX6_advance 74 (.iload_n 1) 1 75 := ⟨by decide +kernel, rfl⟩
theorem aX6_advance_75 : At cX6_advance 75 (.iload_n 2) 1 76 := ⟨by decide +kernel, rfl⟩
theorem aX6_advance_76 : At cX6_advance 76 (.invokevirtual 43) 3 79 := ⟨by decide +kernel, rfl⟩
theorem aX6_advance_79 : At cX6_advance 79 (.iload_n 1) 1 80 := ⟨by decide +kernel, rfl⟩
theorem aX6_advance_80 : At cX6_advance 80 (.iconst 1) 1 81 := ⟨by decide +kernel, rfl⟩
theorem aX6_advance_81 : At cX6_advance 81 .iadd 1 82 := ⟨by decide +kernel, rfl⟩
theorem aX6_advance_82 : At cX6_advance 82 (.istore_n 3) 1 83 := ⟨by decide +kernel, rfl⟩
theorem aX6_advance_83 : At cX6_advance 83 (.aload_n 0) 1 84 := ⟨by decide +kernel, rfl⟩
theorem aX6_advance_84 : At cX6_advance 84 (.getfield 15) 3 87 := ⟨by decide +kernel, rfl⟩
theorem aX6_advance_87 : At cX6_advance 87 (.iconst 1) 1 88 := ⟨by decide +kernel, rfl⟩
theorem aX6_advance_88 : At cX6_advance 88 .isub 1 89 := ⟨by decide +kernel, rfl⟩
theorem aX6_advance_89 : At cX6_advance 89 (.istore 4) 2 91 := ⟨by decide +kernel, rfl⟩
theorem aX6_advance_91 : At cX6_advance 91 (.iload_n 3) 1 92 := ⟨by decide +kernel, rfl⟩
theorem aX6_advance_92 : At cX6_advance 92 (.iload 4) 2 94 := ⟨by decide +kernel, rfl⟩
theorem aX6_advance_94 : At cX6_advance 94 (.if_icmp .ge 19) 3 97 := ⟨by decide +kernel, rfl⟩
theorem aX6_advance_97 : At cX6_advance 97 (.aload_n 0) 1 98 := ⟨by decide +kernel, rfl⟩
theorem aX6_advance_98 : At cX6_advance 98 (.iload_n 3) 1 99 := ⟨by decide +kernel, rfl⟩
theorem aX6_advance_99 : At cX6_advance 99 (.iload 4) 2 101 := ⟨by decide +kernel, rfl⟩
theorem aX6_advance_101 : At cX6_advance 101 (.invokevirtual 43) 3 104 := ⟨by decide +kernel, rfl⟩
theorem aX6_advance_104 : At cX6_advance 104 (.iinc 3 1) 3 107 := ⟨by decide +kernel, rfl⟩
theorem aX6_advance_107 : At cX6_advance 107 (.iinc 4 (-1)) 3 110 := ⟨by decide +kernel, rfl⟩
theorem aX6_advance_110 : At cX6_advance 110 (.goto (-19)) 3 113 := ⟨by decide +kernel, rfl⟩
theorem aX6_advance_113 : At cX6_advance 113 (.iconst 1) 1 114 := ⟨by decide +kernel, rfl⟩
theorem aX6_advance_114 : At cX6_advance 114 .ireturn 1 115 := ⟨by decide +kernel, rfl⟩
theorem aX6_findExtreme_0 : At cX6_findExtreme 0 (.aload_n 0) 1 1 := ⟨by decide +kernel, rfl⟩
theorem aX6_findExtreme_1 : At cX6_findExtreme 1 (.iload_n 2) 1 2 := ⟨by decide +kernel, rfl⟩
theorem aX6_findExtreme_2 : At cX6_findExtreme 2 (.putfield 15) 3 5 := ⟨by decide +kernel, rfl⟩
theorem aX6_findExtreme_5 : At cX6_findExtreme 5 (.iconst 0) 1 6 := ⟨by decide +kernel, rfl⟩
theorem aX6_findExtreme_6 : At cX6_findExtreme 6 (.istore 4) 2 8 := ⟨by decide +kernel, rfl⟩
theorem aX6_findExtreme_8 : At cX6_findExtreme 8 (.iload 4) 2 10 := ⟨by decide +kernel, rfl⟩
theorem aX6_findExtreme_10 : At cX6_findExtreme 10 (.aload_n 0) 1 11 := ⟨by decide +kernel, rfl⟩
theorem aX6_findExtreme_11 : At cX6_findExtreme 11 (.getfield 15) 3 14 := ⟨by decide +kernel, rfl⟩
theorem aX6_findExtreme_14 : At cX6_findExtreme 14 (.if_icmp .ge 18) 3 17 := ⟨by decide +kernel, rfl⟩
theorem aX6_findExtreme_17 : At cX6_findExtreme 17 (.aload_n 0) 1 18 := ⟨by decide +kernel, rfl⟩
theorem aX6_findExtreme_18 : At cX6_findExtreme 18 (.getfield 9) 3 21 := ⟨by decide +kernel, rfl⟩
theorem aX6_findExtreme_21 : At cX6_findExtreme 21 (.iload 4) 2 23 := ⟨by decide +kernel, rfl⟩
theorem aX6_findExtreme_23 : At cX6_findExtreme 23 (.iload 4) 2 25 := ⟨by decide +kernel, rfl⟩
theorem aX6_findExtreme_25 : At cX6_findExtreme 25 .iastore 1 26 := ⟨by decide +kernel, rfl⟩
theorem aX6_findExtreme_26 : At cX6_findExtreme 26 (.iinc 4 1) 3 29 := ⟨by decide +kernel, rfl⟩
theorem aX6_findExtreme_29 : At cX6_findExtreme 29 (.goto (-21)) 3 32 := ⟨by decide +kernel, rfl⟩
theorem aX6_findExtreme_32 : At cX6_findExtreme 32 (.aload_n 0) 1 33 := ⟨by decide +kernel, rfl⟩
theorem aX6_findExtreme_33 : At cX6_findExtreme 33 (.aload_n 0) 1 34 := ⟨by decide +kernel, rfl⟩
theorem aX6_findExtreme_34 : At cX6_findExtreme 34 (.invokevirtual 25) 3 37 := ⟨by decide +kernel, rfl⟩
theorem aX6_findExtreme_37 : At cX6_findExtreme 37 (.putfield 29) 3 40 := ⟨by decide +kernel, rfl⟩
theorem aX6_findExtreme_40 : At cX6_findExtreme 40 (.aload_n 0) 1 41 := ⟨by decide +kernel, rfl⟩
theorem aX6_findExtreme_41 : At cX6_findExtreme 41 (.aload_n 0) 1 42 := ⟨by decide +kernel, rfl⟩
theorem aX6_findExtreme_42 : At cX6_findExtreme 42 (.aload_n 1) 1 43 := ⟨by decide +kernel, rfl⟩
theorem aX6_findExtreme_43 : At cX6_findExtreme 43 (.invokevirtual 32) 3 46 := ⟨by decide +kernel, rfl⟩
theorem aX6_findExtreme_46 : At cX6_findExtreme 46 (.putfield 36) 3 49 := ⟨by decide +kernel, rfl⟩
theorem aX6_findExtreme_49 : At cX6_findExtreme 49 (.iconst 1) 1 50 := ⟨by decide +kernel, rfl⟩
theorem aX6_findExtreme_50 : At cX6_findExtreme 50 (.istore 4) 2 52 := ⟨by decide +kernel, rfl⟩
theorem aX6_findExtreme_52 : At cX6_findExtreme 52 (.iload 4) 2 54 := ⟨by decide +kernel, rfl⟩
theorem aX6_findExtreme_54 : At cX6_findExtreme 54 (.sipush 720) 3 57 := ⟨by decide +kernel, rfl⟩
theorem aX6_findExtreme_57 : At cX6_findExtreme 57 (.if_icmp .ge 62) 3 60 := ⟨by decide +kernel, rfl⟩
theorem aX6_findExtreme_60 : At cX6_findExtreme 60 (.aload_n 0) 1 61 := ⟨by decide +kernel, rfl⟩
theorem aX6_findExtreme_61 : At cX6_findExtreme 61 (.invokevirtual 39) 3 64 := ⟨by decide +kernel, rfl⟩
theorem aX6_findExtreme_64 : At cX6_findExtreme 64 (.ifCond .eq 55) 3 67 := ⟨by decide +kernel, rfl⟩
theorem aX6_findExtreme_67 : At cX6_findExtreme 67 (.aload_n 0) 1 68 := ⟨by decide +kernel, rfl⟩
theorem aX6_findExtreme_68 : At cX6_findExtreme 68 (.aload_n 1) 1 69 := ⟨by decide +kernel, rfl⟩
theorem aX6_findExtreme_69 : At cX6_findExtreme 69 (.invokevirtual 32) 3 72 := ⟨by decide +kernel, rfl⟩
theorem aX6_findExtreme_72 : At cX6_findExtreme 72 (.istore 5) 2 74 := ⟨by decide +kernel, rfl⟩
theorem aX6_findExtreme_74 : At cX6_findExtreme 74 (.iload_n 3) 1 75 := ⟨by decide +kernel, rfl⟩
theorem aX6_findExtreme_75 : At cX6_findExtreme 75 (.ifCond .eq 15) 3 78 := ⟨by decide +kernel, rfl⟩
theorem aX6_findExtreme_78 : At cX6_findExtreme 78 (.iload 5) 2 80 := ⟨by decide +kernel, rfl⟩
theorem aX6_findExtreme_80 : At cX6_findExtreme 80 (.aload_n 0) 1 81 := ⟨by decide +kernel, rfl⟩
theorem aX6_findExtreme_81 : At cX6_findExtreme 81 (.getfield 36) 3 84 := ⟨by decide +kernel, rfl⟩
theorem aX6_findExtreme_84 : At cX6_findExtreme 84 (.if_icmp .le 29) 3 87 := ⟨by decide +kernel, rfl⟩
theorem aX6_findExtreme_87 : At cX6_findExtreme 87 (.goto 12) 3 90 := ⟨by decide +kernel, rfl⟩
theorem aX6_findExtreme_90 : At cX6_findExtreme 90 (.iload 5) 2 92 := ⟨by decide +kernel, rfl⟩
theorem aX6_findExtreme_92 : At cX6_findExtreme 92 (.aload_n 0) 1 93 := ⟨by decide +kernel, rfl⟩
theorem aX6_findExtreme_93 : At cX6_findExtreme 93 (.getfield 36) 3 96 := ⟨by decide +kernel, rfl⟩
theorem aX6_findExtreme_96 : At cX6_findExtreme 96 (.if_icmp .ge 17) 3 99 := ⟨by decide +kernel, rfl⟩
theorem aX6_findExtreme_99 : At cX6_findExtreme 99 (.aload_n 0) 1 100 := ⟨by decide +kernel, rfl⟩
theorem aX6_findExtreme_100 : At cX6_findExtreme 100 (.aload_n 0) 1 101 := ⟨by decide +kernel, rfl⟩
theorem aX6_findExtreme_101 : At cX6_findExtreme 101 (.invokevirtual 25) 3 104 := ⟨by decide +kernel, rfl⟩
theorem aX6_findExtreme_104 : At cX6_findExtreme 104 (.putfield 29) 3 107 := ⟨by decide +kernel, rfl⟩
theorem aX6_findExtreme_107 : At cX6_findExtreme 107 (.aload_n 0) 1 108 := ⟨by decide +kernel, rfl⟩
theorem aX6_findExtreme_108 : At cX6_findExtreme 108 (.iload 5) 2 110 := ⟨by decide +kernel, rfl⟩
theorem aX6_findExtreme_110 : At cX6_findExtreme 110 (.putfield 36) 3 113 := ⟨by decide +kernel, rfl⟩
theorem aX6_findExtreme_113 : At cX6_findExtreme 113 (.iinc 4 1) 3 116 := ⟨by decide +kernel, rfl⟩
theorem aX6_findExtreme_116 : At cX6_findExtreme 116 (.goto (-64)) 3 119 := ⟨by decide +kernel, rfl⟩
theorem aX6_findExtreme_119 : At cX6_findExtreme 119 .return_ 1 120 := ⟨by decide +kernel, rfl⟩
theorem aX6_init_0 : At cX6_init 0 (.aload_n 0) 1 1 := ⟨by decide +kernel, rfl⟩
theorem aX6_init_1 : At cX6_init 1 (.invokespecial 3) 3 4 := ⟨by decide +kernel, rfl⟩
theorem aX6_init_4 : At cX6_init 4 (.aload_n 0) 1 5 := ⟨by decide +kernel, rfl⟩
theorem aX6_init_5 : At cX6_init 5 (.bipush 6) 2 7 := ⟨by decide +kernel, rfl⟩
theorem aX6_init_7 : At cX6_init 7 (.newarray .int) 2 9 := ⟨by decide +kernel, rfl⟩
theorem aX6_init_9 : At cX6_init 9 (.putfield 9) 3 12 := ⟨by decide +kernel, rfl⟩
theorem aX6_init_12 : At cX6_init 12 .return_ 1 13 := ⟨by decide +kernel, rfl⟩
theorem aX6_number_0 : At cX6_number 0 (.iconst 0) 1 1 := ⟨by decide +kernel, rfl⟩
theorem aX6_number_1 : At cX6_number 1 (.istore_n 1) 1 2 := ⟨by decide +kernel, rfl⟩
theorem aX6_number_2 : At cX6_number 2 (.iconst 0) 1 3 := ⟨by decide +kernel, rfl⟩
theorem aX6_number_3 : At cX6_number 3 (.istore_n 2) 1 4 := ⟨by decide +kernel, rfl⟩
theorem aX6_number_4 : At cX6_number 4 (.iload_n 2) 1 5 := ⟨by decide +kernel, rfl⟩
theorem aX6_number_5 : At cX6_number 5 (.aload_n 0) 1 6 := ⟨by decide +kernel, rfl⟩
theorem aX6_number_6 : At cX6_number 6 (.getfield 15) 3 9 := ⟨by decide +kernel, rfl⟩
theorem aX6_number_9 : At cX6_number 9 (.if_icmp .ge 21) 3 12 := ⟨by decide +kernel, rfl⟩
theorem aX6_number_12 : At cX6_number 12 (.iload_n 1) 1 13 := ⟨by decide +kernel, rfl⟩
theorem aX6_number_13 : At cX6_number 13 (.bipush 10) 2 15 := ⟨by decide +kernel, rfl⟩
theorem aX6_number_15 : At cX6_number 15 .imul 1 16 := ⟨by decide +kernel, rfl⟩
theorem aX6_number_16 : At cX6_number 16 (.aload_n 0) 1 17 := ⟨by decide +kernel, rfl⟩
theorem aX6_number_17 : At cX6_number 17 (.getfield 9) 3 20 := ⟨by decide +kernel, rfl⟩
theorem aX6_number_20 : At cX6_number 20 (.iload_n 2) 1 21 := ⟨by decide +kernel, rfl⟩
theorem aX6_number_21 : At cX6_number 21 .iaload 1 22 := ⟨by decide +kernel, rfl⟩
theorem aX6_number_22 : At cX6_number 22 .iadd 1 23 := ⟨by decide +kernel, rfl⟩
theorem aX6_number_23 : At cX6_number 23 (.istore_n 1) 1 24 := ⟨by decide +kernel, rfl⟩
theorem aX6_number_24 : At cX6_number 24 (.iinc 2 1) 3 27 := ⟨by decide +kernel, rfl⟩
theorem aX6_number_27 : At cX6_number 27 (.goto (-23)) 3 30 := ⟨by decide +kernel, rfl⟩
theorem aX6_number_30 : At cX6_number 30 (.iload_n 1) 1 31 := ⟨by decide +kernel, rfl⟩
theorem aX6_number_31 : At cX6_number 31 .ireturn 1 32 := ⟨by decide +kernel, rfl⟩
theorem aX6_pairsLeftOpen_0 : At cX6_pairsLeftOpen 0 (.aload_n 0) 1 1 := ⟨by decide +kernel, rfl⟩
theorem aX6_pairsLeftOpen_1 : At cX6_pairsLeftOpen 1 (.getfield 15) 3 4 := ⟨by decide +kernel, rfl⟩
theorem aX6_pairsLeftOpen_4 : At cX6_pairsLeftOpen 4 (.aload_n 0) 1 5 := ⟨by decide +kernel, rfl⟩
theorem aX6_pairsLeftOpen_5 : At cX6_pairsLeftOpen 5 (.getfield 15) 3 8 := ⟨by decide +kernel, rfl⟩
theorem aX6_pairsLeftOpen_8 : At cX6_pairsLeftOpen 8 (.iconst 1) 1 9 := ⟨by decide +kernel, rfl⟩
theorem aX6_pairsLeftOpen_9 : At cX6_pairsLeftOpen 9 .isub 1 10 := ⟨by decide +kernel, rfl⟩
theorem aX6_pairsLeftOpen_10 : At cX6_pairsLeftOpen 10 .imul 1 11 := ⟨by decide +kernel, rfl⟩
theorem aX6_pairsLeftOpen_11 : At cX6_pairsLeftOpen 11 (.iconst 2) 1 12 := ⟨by decide +kernel, rfl⟩
theorem aX6_pairsLeftOpen_12 : At cX6_pairsLeftOpen 12 .idiv 1 13 := ⟨by decide +kernel, rfl⟩
theorem aX6_pairsLeftOpen_13 : At cX6_pairsLeftOpen 13 (.istore_n 2) 1 14 := ⟨by decide +kernel, rfl⟩
theorem aX6_pairsLeftOpen_14 : At cX6_pairsLeftOpen 14 (.iconst 0) 1 15 := ⟨by decide +kernel, rfl⟩
theorem aX6_pairsLeftOpen_15 : At cX6_pairsLeftOpen 15 (.istore_n 3) 1 16 := ⟨by decide +kernel, rfl⟩
theorem aX6_pairsLeftOpen_16 : At cX6_pairsLeftOpen 16 (.iload_n 3) 1 17 := ⟨by decide +kernel, rfl⟩
theorem aX6_pairsLeftOpen_17 : At cX6_pairsLeftOpen 17 (.aload_n 0) 1 18 := ⟨by decide +kernel, rfl⟩
theorem aX6_pairsLeftOpen_18 : At cX6_pairsLeftOpen 18 (.getfield 15) 3 21 := ⟨by decide +kernel, rfl⟩
theorem aX6_pairsLeftOpen_21 : At cX6_pairsLeftOpen 21 (.if_icmp .ge 85) 3 24 := ⟨by decide +kernel, rfl⟩
theorem aX6_pairsLeftOpen_24 : At cX6_pairsLeftOpen 24 (.iconst 0) 1 25 := ⟨by decide +kernel, rfl⟩
theorem aX6_pairsLeftOpen_25 : At cX6_pairsLeftOpen 25 (.istore 4) 2 27 := ⟨by decide +kernel, rfl⟩
theorem aX6_pairsLeftOpen_27 : At cX6_pairsLeftOpen 27 (.iload_n 3) 1 28 := ⟨by decide +kernel, rfl⟩
theorem aX6_pairsLeftOpen_28 : At cX6_pairsLeftOpen 28 (.iconst 1) 1 29 := ⟨by decide +kernel, rfl⟩
theorem aX6_pairsLeftOpen_29 : At cX6_pairsLeftOpen 29 .iadd 1 30 := ⟨by decide +kernel, rfl⟩
theorem aX6_pairsLeftOpen_30 : At cX6_pairsLeftOpen 30 (.istore 5) 2 32 := ⟨by decide +kernel, rfl⟩
theorem aX6_pairsLeftOpen_32 : At cX6_pairsLeftOpen 32 (.iload 5) 2 34 := ⟨by decide +kernel, rfl⟩
theorem aX6_pairsLeftOpen_34 : At cX6_pairsLeftOpen 34 (.aload_n 0) 1 35 := ⟨by decide +kernel, rfl⟩
theorem aX6_pairsLeftOpen_35 : At cX6_pairsLeftOpen 35 (.getfield 15) 3 38 := ⟨by decide +kernel, rfl⟩
theorem aX6_pairsLeftOpen_38 : At cX6_pairsLeftOpen 38 (.if_icmp .ge 62) 3 41 := ⟨by decide +kernel, rfl⟩
theorem aX6_pairsLeftOpen_41 : At cX6_pairsLeftOpen 41 (.aload_n 1) 1 42 := ⟨by decide +kernel, rfl⟩
theorem aX6_pairsLeftOpen_42 : At cX6_pairsLeftOpen 42 (.aload_n 0) 1 43 := ⟨by decide +kernel, rfl⟩
theorem aX6_pairsLeftOpen_43 : At cX6_pairsLeftOpen 43 (.getfield 9) 3 46 := ⟨by decide +kernel, rfl⟩
theorem aX6_pairsLeftOpen_46 : At cX6_pairsLeftOpen 46 (.iload 5) 2 48 := ⟨by decide +kernel, rfl⟩
theorem aX6_pairsLeftOpen_48 : At cX6_pairsLeftOpen 48 .iaload 1 49 := ⟨by decide +kernel, rfl⟩
theorem aX6_pairsLeftOpen_49 : At cX6_pairsLeftOpen 49 .iaload 1 50 := ⟨by decide +kernel, rfl⟩
theorem aX6_pairsLeftOpen_50 : At cX6_pairsLeftOpen 50 (.aload_n 1) 1 51 := ⟨by decide +kernel, rfl⟩
theorem aX6_pairsLeftOpen_51 : At cX6_pairsLeftOpen 51 (.aload_n 0) 1 52 := ⟨by decide +kernel, rfl⟩
theorem aX6_pairsLeftOpen_52 : At cX6_pairsLeftOpen 52 (.getfield 9) 3 55 := ⟨by decide +kernel, rfl⟩
theorem aX6_pairsLeftOpen_55 : At cX6_pairsLeftOpen 55 (.iload 5) 2 57 := ⟨by decide +kernel, rfl⟩
theorem aX6_pairsLeftOpen_57 : At cX6_pairsLeftOpen 57 (.iconst 1) 1 58 := ⟨by decide +kernel, rfl⟩
theorem aX6_pairsLeftOpen_58 : At cX6_pairsLeftOpen 58 .isub 1 59 := ⟨by decide +kernel, rfl⟩
theorem aX6_pairsLeftOpen_59 : At cX6_pairsLeftOpen 59 .iaload 1 60 := ⟨by decide +kernel, rfl⟩
theorem aX6_pairsLeftOpen_60 : At cX6_pairsLeftOpen 60 .iaload 1 61 := ⟨by decide +kernel, rfl⟩
theorem aX6_pairsLeftOpen_61 : At cX6_pairsLeftOpen 61 (.invokestatic 19) 3 64 := ⟨by decide +kernel, rfl⟩
theorem aX6_pairsLeftOpen_64 : At cX6_pairsLeftOpen 64 (.istore 6) 2 66 := ⟨by decide +kernel, rfl⟩
theorem aX6_pairsLeftOpen_66 : At cX6_pairsLeftOpen 66 (.iload 4) 2 68 := ⟨by decide +kernel, rfl⟩
theorem aX6_pairsLeftOpen_68 : At cX6_pairsLeftOpen 68 (.iload 6) 2 70 := ⟨by decide +kernel, rfl⟩
theorem aX6_pairsLeftOpen_70 : At cX6_pairsLeftOpen 70 .imul 1 71 := ⟨by decide +kernel, rfl⟩
theorem aX6_pairsLeftOpen_71 : At cX6_pairsLeftOpen 71 (.ifCond .ge 6) 3 74 := ⟨by decide +kernel, rfl⟩
theorem aX6_pairsLeftOpen_74 : At cX6_pairsLeftOpen 74 (.goto 26) 3 77 := ⟨by decide +kernel, rfl⟩
theorem aX6_pairsLeftOpen_77 : At cX6_pairsLeftOpen 77 (.iload 4) 2 79 := ⟨by decide +kernel, rfl⟩
theorem aX6_pairsLeftOpen_79 : At cX6_pairsLeftOpen 79 (.ifCond .ne 8) 3 82 := ⟨by decide +kernel, rfl⟩
theorem aX6_pairsLeftOpen_82 : At cX6_pairsLeftOpen 82 (.iload 6) 2 84 := ⟨by decide +kernel, rfl⟩
theorem aX6_pairsLeftOpen_84 : At cX6_pairsLeftOpen 84 (.goto 5) 3 87 := ⟨by decide +kernel, rfl⟩
theorem aX6_pairsLeftOpen_87 : At cX6_pairsLeftOpen 87 (.iload 4) 2 89 := ⟨by decide +kernel, rfl⟩
theorem aX6_pairsLeftOpen_89 : At cX6_pairsLeftOpen 89 (.istore 4) 2 91 := ⟨by decide +kernel, rfl⟩
theorem aX6_pairsLeftOpen_91 : At cX6_pairsLeftOpen 91 (.iinc 2 (-1)) 3 94 := ⟨by decide +kernel, rfl⟩
theorem aX6_pairsLeftOpen_94 : At cX6_pairsLeftOpen 94 (.iinc 5 1) 3 97 := ⟨by decide +kernel, rfl⟩
theorem aX6_pairsLeftOpen_97 : At cX6_pairsLeftOpen 97 (.goto (-65)) 3 100 := ⟨by decide +kernel, rfl⟩
theorem aX6_pairsLeftOpen_100 : At cX6_pairsLeftOpen 100 (.iinc 3 1) 3 103 := ⟨by decide +kernel, rfl⟩
theorem aX6_pairsLeftOpen_103 : At cX6_pairsLeftOpen 103 (.goto (-87)) 3 106 := ⟨by decide +kernel, rfl⟩
theorem aX6_pairsLeftOpen_106 : At cX6_pairsLeftOpen 106 (.iload_n 2) 1 107 := ⟨by decide +kernel, rfl⟩
theorem aX6_pairsLeftOpen_107 : At cX6_pairsLeftOpen 107 .ireturn 1 108 := ⟨by decide +kernel, rfl⟩
theorem aX6_readNumber_0 : At cX6_readNumber 0 (.iload_n 1) 1 1 := ⟨by decide +kernel, rfl⟩
theorem aX6_readNumber_1 : At cX6_readNumber 1 (.ifCond .ge 5) 3 4 := ⟨by decide +kernel, rfl⟩
theorem aX6_readNumber_4 : At cX6_readNumber 4 (.iconst 0) 1 5 := ⟨by decide +kernel, rfl⟩
theorem aX6_readNumber_5 : At cX6_readNumber 5 .ireturn 1 6 := ⟨by decide +kernel, rfl⟩
theorem aX6_readNumber_6 : At cX6_readNumber 6 (.aload_n 0) 1 7 := ⟨by decide +kernel, rfl⟩
theorem aX6_readNumber_7 : At cX6_readNumber 7 (.iload_n 2) 1 8 := ⟨by decide +kernel, rfl⟩
theorem aX6_readNumber_8 : At cX6_readNumber 8 (.putfield 15) 3 11 := ⟨by decide +kernel, rfl⟩
theorem aX6_readNumber_11 : At cX6_readNumber 11 (.iload_n 1) 1 12 := ⟨by decide +kernel, rfl⟩
theorem aX6_readNumber_12 : At cX6_readNumber 12 (.istore_n 3) 1 13 := ⟨by decide +kernel, rfl⟩
theorem aX6_readNumber_13 : At cX6_readNumber 13 (.iconst 0) 1 14 := ⟨by decide +kernel, rfl⟩
theorem aX6_readNumber_14 : At cX6_readNumber 14 (.istore 4) 2 16 := ⟨by decide +kernel, rfl⟩
theorem aX6_readNumber_16 : At cX6_readNumber 16 (.aload_n 0) 1 17 := ⟨by decide +kernel, rfl⟩
theorem aX6_readNumber_17 : At cX6_readNumber 17 (.getfield 15) 3 20 := ⟨by decide +kernel, rfl⟩
theorem aX6_readNumber_20 : At cX6_readNumber 20 (.iconst 1) 1 21 := ⟨by decide +kernel, rfl⟩
theorem aX6_readNumber_21 : At cX6_readNumber 21 .isub 1 22 := ⟨by decide +kernel, rfl⟩
theorem aX6_readNumber_22 : At cX6_readNumber 22 (.istore 5) 2 24 := ⟨by decide +kernel, rfl⟩
theorem aX6_readNumber_24 : At cX6_readNumber 24 (.iload 5) 2 26 := ⟨by decide +kernel, rfl⟩
theorem aX6_readNumber_26 : At cX6_readNumber 26 (.ifCond .lt 60) 3 29 := ⟨by decide +kernel, rfl⟩
theorem aX6_readNumber_29 : At cX6_readNumber 29 (.iload_n 3) 1 30 := ⟨by decide +kernel, rfl⟩
theorem aX6_readNumber_30 : At cX6_readNumber 30 (.bipush 10) 2 32 := ⟨by decide +kernel, rfl⟩
theorem aX6_readNumber_32 : At cX6_readNumber 32 .irem 1 33 := ⟨by decide +kernel, rfl⟩
theorem aX6_readNumber_33 : At cX6_readNumber 33 (.istore 6) 2 35 := ⟨by decide +kernel, rfl⟩
theorem aX6_readNumber_35 : At cX6_readNumber 35 (.iload 6) 2 37 := ⟨by decide +kernel, rfl⟩
theorem aX6_readNumber_37 : At cX6_readNumber 37 (.aload_n 0) 1 38 := ⟨by decide +kernel, rfl⟩
theorem aX6_readNumber_38 : At cX6_readNumber 38 (.getfield 15) 3 41 := ⟨by decide +kernel, rfl⟩
theorem aX6_readNumber_41 : At cX6_readNumber 41 (.if_icmp .ge 14) 3 44 := ⟨by decide +kernel, rfl⟩
theorem aX6_readNumber_44 : At cX6_readNumber 44 (.iload 4) 2 46 := ⟨by decide +kernel, rfl⟩
theorem aX6_readNumber_46 : At cX6_readNumber 46 (.iload 6) 2 48 := ⟨by decide +kernel, rfl⟩
theorem aX6_readNumber_48 : At cX6_readNumber 48 .ishr 1 49 := ⟨by decide +kernel, rfl⟩
theorem aX6_readNumber_49 : At cX6_readNumber 49 (.iconst 1) 1 50 := ⟨by decide +kernel, rfl⟩
theorem aX6_readNumber_50 : At cX6_readNumber 50 .iand 1 51 := ⟨by decide +kernel, rfl⟩
theorem aX6_readNumber_51 : At cX6_readNumber 51 (.iconst 1) 1 52 := ⟨by decide +kernel, rfl⟩
theorem aX6_readNumber_52 : At cX6_readNumber 52 (.if_icmp .ne 5) 3 55 := ⟨by decide +kernel, rfl⟩
theorem aX6_readNumber_55 : At cX6_readNumber 55 (.iconst 0) 1 56 := ⟨by decide +kernel, rfl⟩
theorem aX6_readNumber_56 : At cX6_readNumber 56 .ireturn 1 57 := ⟨by decide +kernel, rfl⟩
theorem aX6_readNumber_57 : At cX6_readNumber 57 (.aload_n 0) 1 58 := ⟨by decide +kernel, rfl⟩
theorem aX6_readNumber_58 : At cX6_readNumber 58 (.getfield 9) 3 61 := ⟨by decide +kernel, rfl⟩
theorem aX6_readNumber_61 : At cX6_readNumber 61 (.iload 5) 2 63 := ⟨by decide +kernel, rfl⟩
theorem aX6_readNumber_63 : At cX6_readNumber 63 (.iload 6) 2 65 := ⟨by decide +kernel, rfl⟩
theorem aX6_readNumber_65 : At cX6_readNumber 65 .iastore 1 66 := ⟨by decide +kernel, rfl⟩
theorem aX6_readNumber_66 : At cX6_readNumber 66 (.iload 4) 2 68 := ⟨by decide +kernel, rfl⟩
theorem aX6_readNumber_68 : At cX6_readNumber 68 (.iconst 1) 1 69 := ⟨by decide +kernel, rfl⟩
theorem aX6_readNumber_69 : At cX6_readNumber 69 (.iload 6) 2 71 := ⟨by decide +kernel, rfl⟩
theorem aX6_readNumber_71 : At cX6_readNumber 71 .ishl 1 72 := ⟨by decide +kernel, rfl⟩
theorem aX6_readNumber_72 : At cX6_readNumber 72 .ior 1 73 := ⟨by decide +kernel, rfl⟩
theorem aX6_readNumber_73 : At cX6_readNumber 73 (.istore 4) 2 75 := ⟨by decide +kernel, rfl⟩
theorem aX6_readNumber_75 : At cX6_readNumber 75 (.iload_n 3) 1 76 := ⟨by decide +kernel, rfl⟩
theorem aX6_readNumber_76 : At cX6_readNumber 76 (.bipush 10) 2 78 := ⟨by decide +kernel, rfl⟩
theorem aX6_readNumber_78 : At cX6_readNumber 78 .idiv 1 79 := ⟨by decide +kernel, rfl⟩
theorem aX6_readNumber_79 : At cX6_readNumber 79 (.istore_n 3) 1 80 := ⟨by decide +kernel, rfl⟩
theorem aX6_readNumber_80 : At cX6_readNumber 80 (.iinc 5 (-1)) 3 83 := ⟨by decide +kernel, rfl⟩
theorem aX6_readNumber_83 : At cX6_readNumber 83 (.goto (-59)) 3 86 := ⟨by decide +kernel, rfl⟩
theorem aX6_readNumber_86 : At cX6_readNumber 86 (.iload_n 3) 1 87 := ⟨by decide +kernel, rfl⟩
theorem aX6_readNumber_87 : At cX6_readNumber 87 (.ifCond .ne 7) 3 90 := ⟨by decide +kernel, rfl⟩
theorem aX6_readNumber_90 : At cX6_readNumber 90 (.iconst 1) 1 91 := ⟨by decide +kernel, rfl⟩
theorem aX6_readNumber_91 : At cX6_readNumber 91 (.goto 4) 3 94 := ⟨by decide +kernel, rfl⟩
theorem aX6_readNumber_94 : At cX6_readNumber 94 (.iconst 0) 1 95 := ⟨by decide +kernel, rfl⟩
theorem aX6_readNumber_95 : At cX6_readNumber 95 .ireturn 1 96 := ⟨by decide +kernel, rfl⟩
theorem aX6_swap_0 : At cX6_swap 0 (.aload_n 0) 1 1 := ⟨by decide +kernel, rfl⟩
theorem aX6_swap_1 : At cX6_swap 1 (.getfield 9) 3 4 := ⟨by decide +kernel, rfl⟩
theorem aX6_swap_4 : At cX6_swap 4 (.iload_n 1) 1 5 := ⟨by decide +kernel, rfl⟩
theorem aX6_swap_5 : At cX6_swap 5 .iaload 1 6 := ⟨by decide +kernel, rfl⟩
theorem aX6_swap_6 : At cX6_swap 6 (.istore_n 3) 1 7 := ⟨by decide +kernel, rfl⟩
theorem aX6_swap_7 : At cX6_swap 7 (.aload_n 0) 1 8 := ⟨by decide +kernel, rfl⟩
theorem aX6_swap_8 : At cX6_swap 8 (.getfield 9) 3 11 := ⟨by decide +kernel, rfl⟩
theorem aX6_swap_11 : At cX6_swap 11 (.iload_n 1) 1 12 := ⟨by decide +kernel, rfl⟩
theorem aX6_swap_12 : At cX6_swap 12 (.aload_n 0) 1 13 := ⟨by decide +kernel, rfl⟩
theorem aX6_swap_13 : At cX6_swap 13 (.getfield 9) 3 16 := ⟨by decide +kernel, rfl⟩
theorem aX6_swap_16 : At cX6_swap 16 (.iload_n 2) 1 17 := ⟨by decide +kernel, rfl⟩
theorem aX6_swap_17 : At cX6_swap 17 .iaload 1 18 := ⟨by decide +kernel, rfl⟩
theorem aX6_swap_18 : At cX6_swap 18 .iastore 1 19 := ⟨by decide +kernel, rfl⟩
theorem aX6_swap_19 : At cX6_swap 19 (.aload_n 0) 1 20 := ⟨by decide +kernel, rfl⟩
theorem aX6_swap_20 : At cX6_swap 20 (.getfield 9) 3 23 := ⟨by decide +kernel, rfl⟩
theorem aX6_swap_23 : At cX6_swap 23 (.iload_n 2) 1 24 := ⟨by decide +kernel, rfl⟩
theorem aX6_swap_24 : At cX6_swap 24 (.iload_n 3) 1 25 := ⟨by decide +kernel, rfl⟩
theorem aX6_swap_25 : At cX6_swap 25 .iastore 1 26 := ⟨by decide +kernel, rfl⟩
theorem aX6_swap_26 : At cX6_swap 26 .return_ 1 27 := ⟨by decide +kernel, rfl⟩
theorem aX7_fault_0 : At cX7_fault 0 (.aload_n 0) 1 1 := ⟨by decide +kernel, rfl⟩
theorem aX7_fault_1 : At cX7_fault 1 (.getfield 10) 3 4 := ⟨by decide +kernel, rfl⟩
theorem aX7_fault_4 : At cX7_fault 4 (.aload_n 0) 1 5 := ⟨by decide +kernel, rfl⟩
theorem aX7_fault_5 : At cX7_fault 5 (.getfield 19) 3 8 := ⟨by decide +kernel, rfl⟩
theorem aX7_fault_8 : At cX7_fault 8 (.getfield 61) 3 11 := ⟨by decide +kernel, rfl⟩
theorem aX7_fault_11 : At cX7_fault 11 (.invokevirtual 78) 3 14 := ⟨by decide +kernel, rfl⟩
theorem aX7_fault_14 : At cX7_fault 14 .ireturn 1 15 := ⟨by decide +kernel, rfl⟩
theorem aX7_follows_0 : At cX7_follows 0 (.aload_n 0) 1 1 := ⟨by decide +kernel, rfl⟩
theorem aX7_follows_1 : At cX7_follows 1 (.getfield 19) 3 4 := ⟨by decide +kernel, rfl⟩
theorem aX7_follows_4 : At cX7_follows 4 (.iload_n 1) 1 5 := ⟨by decide +kernel, rfl⟩
theorem aX7_follows_5 : At cX7_follows 5 (.invokevirtual 93) 3 8 := ⟨by decide +kernel, rfl⟩
theorem aX7_follows_8 : At cX7_follows 8 (.ifCond .eq 14) 3 11 := ⟨by decide +kernel, rfl⟩
theorem aX7_follows_11 : At cX7_follows 11 (.aload_n 0) 1 12 := ⟨by decide +kernel, rfl⟩
theorem aX7_follows_12 : At cX7_follows 12 (.getfield 19) 3 15 := ⟨by decide +kernel, rfl⟩
theorem aX7_follows_15 : At cX7_follows 15 (.iload_n 2) 1 16 := ⟨by decide +kernel, rfl⟩
theorem aX7_follows_16 : At cX7_follows 16 (.invokevirtual 93) 3 19 := ⟨by decide +kernel, rfl⟩
theorem aX7_follows_19 : At cX7_follows 19 (.ifCond .ne 5) 3 22 := ⟨by decide +kernel, rfl⟩
theorem aX7_follows_22 : At cX7_follows 22 (.iconst (-1)) 1 23 := ⟨by decide +kernel, rfl⟩
theorem aX7_follows_23 : At cX7_follows 23 .ireturn 1 24 := ⟨by decide +kernel, rfl⟩
theorem aX7_follows_24 : At cX7_follows 24 (.aload_n 0) 1 25 := ⟨by decide +kernel, rfl⟩
theorem aX7_follows_25 : At cX7_follows 25 (.invokevirtual 97) 3 28 := ⟨by decide +kernel, rfl⟩
theorem aX7_follows_28 : At cX7_follows 28 (.ifCond .ne 6) 3 31 := ⟨by decide +kernel, rfl⟩
theorem aX7_follows_31 : At cX7_follows 31 (.bipush (-3)) 2 33 := ⟨by decide +kernel, rfl⟩
theorem aX7_follows_33 : At cX7_follows 33 .ireturn 1 34 := ⟨by decide +kernel, rfl⟩
theorem aX7_follows_34 : At cX7_follows 34 (.aload_n 0) 1 35 := ⟨by decide +kernel, rfl⟩
theorem aX7_follows_35 : At cX7_follows 35 (.getfield 30) 3 38 := ⟨by decide +kernel, rfl⟩
theorem aX7_follows_38 : At cX7_follows 38 (.iload_n 1) 1 39 := ⟨by decide +kernel, rfl⟩
theorem aX7_follows_39 : At cX7_follows 39 (.iload_n 2) 1 40 := ⟨by decide +kernel, rfl⟩
theorem aX7_follows_40 : At cX7_follows 40 (.invokevirtual 101) 3 43 := ⟨by decide +kernel, rfl⟩
theorem aX7_follows_43 : At cX7_follows 43 .ireturn 1 44 := ⟨by decide +kernel, rfl⟩
theorem aX7_groupOrder_0 : At cX7_groupOrder 0 (.iconst 0) 1 1 := ⟨by decide +kernel, rfl⟩
theorem aX7_groupOrder_1 : At cX7_groupOrder 1 (.istore_n 2) 1 2 := ⟨by decide +kernel, rfl⟩
theorem aX7_groupOrder_2 : At cX7_groupOrder 2 (.iconst 0) 1 3 := ⟨by decide +kernel, rfl⟩
theorem aX7_groupOrder_3 : At cX7_groupOrder 3 (.istore_n 3) 1 4 := ⟨by decide +kernel, rfl⟩
theorem aX7_groupOrder_4 : At cX7_groupOrder 4 (.iload_n 3) 1 5 := ⟨by decide +kernel, rfl⟩
theorem aX7_groupOrder_5 : At cX7_groupOrder 5 (.iload_n 1) 1 6 := ⟨by decide +kernel, rfl⟩
theorem aX7_groupOrder_6 : At cX7_groupOrder 6 (.if_icmp .ge 60) 3 9 := ⟨by decide +kernel, rfl⟩
theorem aX7_groupOrder_9 : At cX7_groupOrder 9 (.iconst 0) 1 10 := ⟨by decide +kernel, rfl⟩
theorem aX7_groupOrder_10 : At cX7_groupOrder 10 (.istore 4) 2 12 := ⟨by decide +kernel, rfl⟩
theorem aX7_groupOrder_12 : At cX7_groupOrder 12 (.iload 4) 2 14 := ⟨by decide +kernel, rfl⟩
theorem aX7_groupOrder_14 : At cX7_groupOrder 14 (.iload_n 1) 1 15 := ⟨by decide +kernel, rfl⟩
theorem aX7_groupOrder_15 : At cX7_groupOrder 15 (.if_icmp .ge 45) 3 18 := ⟨by decide +kernel, rfl⟩
theorem aX7_groupOrder_18 : At cX7_groupOrder 18 (.aload_n 0) 1 19 := ⟨by decide +kernel, rfl⟩
theorem aX7_groupOrder_19 : At cX7_groupOrder 19 (.getfield 30) 3 22 := ⟨by decide +kernel, rfl⟩
theorem aX7_groupOrder_22 : At cX7_groupOrder 22 (.aload_n 0) 1 23 := ⟨by decide +kernel, rfl⟩
theorem aX7_groupOrder_23 : At cX7_groupOrder 23 (.getfield 30) 3 26 := ⟨by decide +kernel, rfl⟩
theorem aX7_groupOrder_26 : At cX7_groupOrder 26 (.iload_n 3) 1 27 := ⟨by decide +kernel, rfl⟩
theorem aX7_groupOrder_27 : At cX7_groupOrder 27 (.invokevirtual 167) 3 30 := ⟨by decide +kernel, rfl⟩
theorem aX7_groupOrder_30 : At cX7_groupOrder 30 (.aload_n 0) 1 31 := ⟨by decide +kernel, rfl⟩
theorem aX7_groupOrder_31 : At cX7_groupOrder 31 (.getfield 30) 3 34 := ⟨by decide +kernel, rfl⟩
theorem aX7_groupOrder_34 : At cX7_groupOrder 34 (.iload 4) 2 36 := ⟨by decide +kernel, rfl⟩
theorem aX7_groupOrder_36 : At cX7_groupOrder 36 (.invokevirtual 167) 3 39 := ⟨by decide +kernel, rfl⟩
theorem aX7_groupOrder_39 : At cX7_groupOrder 39 (.invokevirtual 172) 3 42 := ⟨by decide +kernel, rfl⟩
theorem aX7_groupOrder_42 : At cX7_groupOrder 42 (.ifCond .eq 12) 3 45 := ⟨by decide +kernel, rfl⟩
theorem aX7_groupOrder_45 : At cX7_groupOrder 45 (.iload_n 2) 1 46 := ⟨by decide +kernel, rfl⟩
theorem aX7_groupOrder_46 : At cX7_groupOrder 46 (.iload_n 3) 1 47 := ⟨by decide +kernel, rfl⟩
theorem aX7_groupOrder_47 : At cX7_groupOrder 47 (.iload 4) 2 49 := ⟨by decide +kernel, rfl⟩
theorem aX7_groupOrder_49 : At cX7_groupOrder 49 (.invokestatic 176) 3 52 := ⟨by decide +kernel, rfl⟩
theorem aX7_groupOrder_52 : At cX7_groupOrder 52 .ior 1 53 := ⟨by decide +kernel, rfl⟩
theorem aX7_groupOrder_53 : At cX7_groupOrder 53 (.istore_n 2) 1 54 := ⟨by decide +kernel, rfl⟩
theorem aX7_groupOrder_54 : At cX7_groupOrder 54 (.iinc 4 1) 3 57 := ⟨by decide +kernel, rfl⟩
theorem aX7_groupOrder_57 : At cX7_groupOrder 57 (.goto (-45)) 3 60 := ⟨by decide +kernel, rfl⟩
theorem aX7_groupOrder_60 : At cX7_groupOrder 60 (.iinc 3 1) 3 63 := ⟨by decide +kernel, rfl⟩
theorem aX7_groupOrder_63 : At cX7_groupOrder 63 (.goto (-59)) 3 66 := ⟨by decide +kernel, rfl⟩
theorem aX7_groupOrder_66 : At cX7_groupOrder 66 (.iload_n 2) 1 67 := ⟨by decide +kernel, rfl⟩
theorem aX7_groupOrder_67 : At cX7_groupOrder 67 .ireturn 1 68 := ⟨by decide +kernel, rfl⟩
theorem aX7_image_0 : At cX7_image 0 (.iload_n 1) 1 1 := ⟨by decide +kernel, rfl⟩
theorem aX7_image_1 : At cX7_image 1 (.ifCond .lt 8) 3 4 := ⟨by decide +kernel, rfl⟩
theorem aX7_image_4 : At cX7_image 4 (.iload_n 1) 1 5 := ⟨by decide +kernel, rfl⟩
theorem aX7_image_5 : At cX7_image 5 (.iconst 2) 1 6 := ⟨by decide +kernel, rfl⟩
theorem aX7_image_6 : At cX7_image 6 (.if_icmp .lt 6) 3 9 := ⟨by decide +kernel, rfl⟩
theorem aX7_image_9 : At cX7_image 9 (.bipush (-2)) 2 11 := ⟨by decide +kernel, rfl⟩
theorem aX7_image_11 : At cX7_image 11 .ireturn 1 12 := ⟨by decide +kernel, rfl⟩
theorem aX7_image_12 : At cX7_image 12 (.aload_n 0) 1 13 := ⟨by decide +kernel, rfl⟩
theorem aX7_image_13 : At cX7_image 13 (.getfield 23) 3 16 := ⟨by decide +kernel, rfl⟩
theorem aX7_image_16 : At cX7_image 16 (.iload_n 1) 1 17 := ⟨by decide +kernel, rfl⟩
theorem aX7_image_17 : At cX7_image 17 .aaload 1 18 := ⟨by decide +kernel, rfl⟩
theorem aX7_image_18 : At cX7_image 18 (.astore_n 2) 1 19 := ⟨by decide +kernel, rfl⟩
theorem aX7_image_19 : At cX7_image 19 (.aload_n 2) 1 20 := ⟨by decide +kernel, rfl⟩
theorem aX7_image_20 : At cX7_image 20 (.ifnonnull 18) 3 23 := ⟨by decide +kernel, rfl⟩
theorem aX7_image_23 : At cX7_image 23 (.new 16) 3 26 := ⟨by decide +kernel, rfl⟩
theorem aX7_image_26 : At cX7_image 26 .dup 1 27 := ⟨by decide +kernel, rfl⟩
theorem aX7_image_27 : At cX7_image 27 (.invokespecial 18) 3 30 := ⟨by decide +kernel, rfl⟩
theorem aX7_image_30 : At cX7_image 30 (.astore_n 2) 1 31 := ⟨by decide +kernel, rfl⟩
theorem aX7_image_31 : At cX7_image 31 (.aload_n 0) 1 32 := ⟨by decide +kernel, rfl⟩
theorem aX7_image_32 : At cX7_image 32 (.getfield 23) 3 35 := ⟨by decide +kernel, rfl⟩
theorem aX7_image_35 : At cX7_image 35 (.iload_n 1) 1 36 := ⟨by decide +kernel, rfl⟩
theorem aX7_image_36 : At cX7_image 36 (.aload_n 2) 1 37 := ⟨by decide +kernel, rfl⟩
theorem aX7_image_37 : At cX7_image 37 .aastore 1 38 := ⟨by decide +kernel, rfl⟩
theorem aX7_image_38 : At cX7_image 38 (.aload_n 2) 1 39 := ⟨by decide +kernel, rfl⟩
theorem aX7_image_39 : At cX7_image 39 (.aload_n 0) 1 40 := ⟨by decide +kernel, rfl⟩
theorem aX7_image_40 : At cX7_image 40 (.getfield 19) 3 43 := ⟨by decide +kernel, rfl⟩
theorem aX7_image_43 : At cX7_image 43 (.invokevirtual 231) 3 46 := ⟨by decide +kernel, rfl⟩
theorem aX7_image_46 : At cX7_image 46 (.iconst 1) 1 47 := ⟨by decide +kernel, rfl⟩
theorem aX7_image_47 : At cX7_image 47 .ireturn 1 48 := ⟨by decide +kernel, rfl⟩
theorem aX7_init_0 : At cX7_init 0 (.aload_n 0) 1 1 := ⟨by decide +kernel, rfl⟩
theorem aX7_init_1 : At cX7_init 1 (.invokespecial 1) 3 4 := ⟨by decide +kernel, rfl⟩
theorem aX7_init_4 : At cX7_init 4 (.aload_n 0) 1 5 := ⟨by decide +kernel, rfl⟩
theorem aX7_init_5 : At cX7_init 5 (.new 7) 3 8 := ⟨by decide +kernel, rfl⟩
theorem aX7_init_8 : At cX7_init 8 .dup 1 9 := ⟨by decide +kernel, rfl⟩
theorem aX7_init_9 : At cX7_init 9 (.invokespecial 9) 3 12 := ⟨by decide +kernel, rfl⟩
theorem aX7_init_12 : At cX7_init 12 (.putfield 10) 3 15 := ⟨by decide +kernel, rfl⟩
theorem aX7_init_15 : At cX7_init 15 (.aload_n 0) 1 16 := ⟨by decide +kernel, rfl⟩
theorem aX7_init_16 : At cX7_init 16 (.new 16) 3 19 := ⟨by decide +kernel, rfl⟩
theorem aX7_init_19 : At cX7_init 19 .dup 1 20 := ⟨by decide +kernel, rfl⟩
theorem aX7_init_20 : At cX7_init 20 (.invokespecial 18) 3 23 := ⟨by decide +kernel, rfl⟩
theorem aX7_init_23 : At cX7_init 23 (.putfield 19) 3 26 := ⟨by decide +kernel, rfl⟩
theorem aX7_init_26 : At cX7_init 26 (.aload_n 0) 1 27 := ⟨by decide +kernel, rfl⟩
theorem aX7_init_27 : At cX7_init 27 (.iconst 2) 1 28 := ⟨by decide +kernel, rfl⟩
theorem aX7_init_28 : At cX7_init 28 (.anewarray 16) 3 31 := ⟨by decide +kernel, rfl⟩
theorem aX7_init_31 : At cX7_init 31 (.putfield 23) 3 34 := ⟨by decide +kernel, rfl⟩
theorem aX7_init_34 : At cX7_init 34 (.aload_n 0) 1 35 := ⟨by decide +kernel, rfl⟩
theorem aX7_init_35 : At cX7_init 35 (.new 27) 3 38 := ⟨by decide +kernel, rfl⟩
theorem aX7_init_38 : At cX7_init 38 .dup 1 39 := ⟨by decide +kernel, rfl⟩
theorem aX7_init_39 : At cX7_init 39 (.invokespecial 29) 3 42 := ⟨by decide +kernel, rfl⟩
theorem aX7_init_42 : At cX7_init 42 (.putfield 30) 3 45 := ⟨by decide +kernel, rfl⟩
theorem aX7_init_45 : At cX7_init 45 (.aload_n 0) 1 46 := ⟨by decide +kernel, rfl⟩
theorem aX7_init_46 : At cX7_init 46 (.new 34) 3 49 := ⟨by decide +kernel, rfl⟩
theorem aX7_init_49 : At cX7_init 49 .dup 1 50 := ⟨by decide +kernel, rfl⟩
theorem aX7_init_50 : At cX7_init 50 (.invokespecial 36) 3 53 := ⟨by decide +kernel, rfl⟩
theorem aX7_init_53 : At cX7_init 53 (.putfield 37) 3 56 := ⟨by decide +kernel, rfl⟩
theorem aX7_init_56 : At cX7_init 56 (.aload_n 0) 1 57 := ⟨by decide +kernel, rfl⟩
theorem aX7_init_57 : At cX7_init 57 (.new 41) 3 60 := ⟨by decide +kernel, rfl⟩
theorem aX7_init_60 : At cX7_init 60 .dup 1 61 := ⟨by decide +kernel, rfl⟩
theorem aX7_init_61 : At cX7_init 61 (.invokespecial 43) 3 64 := ⟨by decide +kernel, rfl⟩
theorem aX7_init_64 : At cX7_init 64 (.putfield 44) 3 67 := ⟨by decide +kernel, rfl⟩
theorem aX7_init_67 : At cX7_init 67 (.aload_n 0) 1 68 := ⟨by decide +kernel, rfl⟩
theorem aX7_init_68 : At cX7_init 68 (.new 48) 3 71 := ⟨by decide +kernel, rfl⟩
theorem aX7_init_71 : At cX7_init 71 .dup 1 72 := ⟨by decide +kernel, rfl⟩
theorem aX7_init_72 : At cX7_init 72 (.invokespecial 50) 3 75 := ⟨by decide +kernel, rfl⟩
theorem aX7_init_75 : At cX7_init 75 (.putfield 51) 3 78 := ⟨by decide +kernel, rfl⟩
theorem aX7_init_78 : At cX7_init 78 (.aload_n 0) 1 79 := ⟨by decide +kernel, rfl⟩
theorem aX7_init_79 : At cX7_init 79 (.bipush 6) 2 81 := ⟨by decide +kernel, rfl⟩
theorem aX7_init_81 : At cX7_init 81 (.anewarray 55) 3 84 := ⟨by decide +kernel, rfl⟩
theorem aX7_init_84 : At cX7_init 84 (.putfield 57) 3 87 := ⟨by decide +kernel, rfl⟩
theorem aX7_init_87 : At cX7_init 87 .return_ 1 88 := ⟨by decide +kernel, rfl⟩
theorem aX7_isEnd_0 : At cX7_isEnd 0 (.iload_n 0) 1 1 := ⟨by decide +kernel, rfl⟩
theorem aX7_isEnd_1 : At cX7_isEnd 1 (.ifCond .eq 8) 3 4 := ⟨by decide +kernel, rfl⟩
theorem aX7_isEnd_4 : At cX7_isEnd 4 (.iload_n 0) 1 5 := ⟨by decide +kernel, rfl⟩
theorem aX7_isEnd_5 : At cX7_isEnd 5 (.iconst 1) 1 6 := ⟨by decide +kernel, rfl⟩
theorem aX7_isEnd_6 : At cX7_isEnd 6 (.if_icmp .ne 7) 3 9 := ⟨by decide +kernel, rfl⟩
theorem aX7_isEnd_9 : At cX7_isEnd 9 (.iconst 1) 1 10 := ⟨by decide +kernel, rfl⟩
theorem aX7_isEnd_10 : At cX7_isEnd 10 (.goto 4) 3 13 := ⟨by decide +kernel, rfl⟩
theorem aX7_isEnd_13 : At cX7_isEnd 13 (.iconst 0) 1 14 := ⟨by decide +kernel, rfl⟩
theorem aX7_isEnd_14 : At cX7_isEnd 14 .ireturn 1 15 := ⟨by decide +kernel, rfl⟩
theorem aX7_known_0 : At cX7_known 0 (.aload_n 0) 1 1 := ⟨by decide +kernel, rfl⟩
theorem aX7_known_1 : At cX7_known 1 (.getfield 19) 3 4 := ⟨by decide +kernel, rfl⟩
theorem aX7_known_4 : At cX7_known 4 (.iload_n 1) 1 5 := ⟨by decide +kernel, rfl⟩
theorem aX7_known_5 : At cX7_known 5 (.invokevirtual 93) 3 8 := ⟨by decide +kernel, rfl⟩
theorem aX7_known_8 : At cX7_known 8 (.ifCond .ne 5) 3 11 := ⟨by decide +kernel, rfl⟩
theorem aX7_known_11 : At cX7_known 11 (.iconst (-1)) 1 12 := ⟨by decide +kernel, rfl⟩
theorem aX7_known_12 : At cX7_known 12 .ireturn 1 13 := ⟨by decide +kernel, rfl⟩
theorem aX7_known_13 : At cX7_known 13 (.iload_n 2) 1 14 := ⟨by decide +kernel, rfl⟩
theorem aX7_known_14 : At cX7_known 14 (.ifCond .lt 15) 3 17 := ⟨by decide +kernel, rfl⟩
theorem aX7_known_17 : At cX7_known 17 (.iload_n 3) 1 18 := ⟨by decide +kernel, rfl⟩
theorem aX7_known_18 : At cX7_known 18 (.iload_n 2) 1 19 := ⟨by decide +kernel, rfl⟩
theorem aX7_known_19 : At cX7_known 19 (.if_icmp .lt 10) 3 22 := ⟨by decide +kernel, rfl⟩
theorem aX7_known_22 : At cX7_known 22 (.iload_n 3) 1 23 := ⟨by decide +kernel, rfl⟩
theorem aX7_known_23 : At cX7_known 23 (.sipush 999) 3 26 := ⟨by decide +kernel, rfl⟩
theorem aX7_known_26 : At cX7_known 26 (.if_icmp .le 6) 3 29 := ⟨by decide +kernel, rfl⟩
theorem aX7_known_29 : At cX7_known 29 (.bipush (-2)) 2 31 := ⟨by decide +kernel, rfl⟩
theorem aX7_known_31 : At cX7_known 31 .ireturn 1 32 := ⟨by decide +kernel, rfl⟩
theorem aX7_known_32 : At cX7_known 32 (.aload_n 0) 1 33 := ⟨by decide +kernel, rfl⟩
theorem aX7_known_33 : At cX7_known 33 (.getfield 19) 3 36 := ⟨by decide +kernel, rfl⟩
theorem aX7_known_36 : At cX7_known 36 (.getfield 179) 3 39 := ⟨by decide +kernel, rfl⟩
theorem aX7_known_39 : At cX7_known 39 (.iload_n 1) 1 40 := ⟨by decide +kernel, rfl⟩
theorem aX7_known_40 : At cX7_known 40 (.iload_n 2) 1 41 := ⟨by decide +kernel, rfl⟩
theorem aX7_known_41 : At cX7_known 41 .iastore 1 42 := ⟨by decide +kernel, rfl⟩
theorem aX7_known_42 : At cX7_known 42 (.aload_n 0) 1 43 := ⟨by decide +kernel, rfl⟩
theorem aX7_known_43 : At cX7_known 43 (.getfield 19) 3 46 := ⟨by decide +kernel, rfl⟩
theorem aX7_known_46 : At cX7_known 46 (.getfield 182) 3 49 := ⟨by decide +kernel, rfl⟩
theorem aX7_known_49 : At cX7_known 49 (.iload_n 1) 1 50 := ⟨by decide +kernel, rfl⟩
theorem aX7_known_50 : At cX7_known 50 (.iload_n 3) 1 51 := ⟨by decide +kernel, rfl⟩
theorem aX7_known_51 : At cX7_known 51 .iastore 1 52 := ⟨by decide +kernel, rfl⟩
theorem aX7_known_52 : At cX7_known 52 (.iconst 1) 1 53 := ⟨by decide +kernel, rfl⟩
theorem aX7_known_53 : At cX7_known 53 .ireturn 1 54 := ⟨by decide +kernel, rfl⟩
theorem aX7_leaves_0 : At cX7_leaves 0 (.aload_n 0) 1 1 := ⟨by decide +kernel, rfl⟩
theorem aX7_leaves_1 : At cX7_leaves 1 (.getfield 51) 3 4 := ⟨by decide +kernel, rfl⟩
theorem aX7_leaves_4 : At cX7_leaves 4 (.iload_n 1) 1 5 := ⟨by decide +kernel, rfl⟩
theorem aX7_leaves_5 : At cX7_leaves 5 (.aload_n 0) 1 6 := ⟨by decide +kernel, rfl⟩
theorem aX7_leaves_6 : At cX7_leaves 6 (.getfield 19) 3 9 := ⟨by decide +kernel, rfl⟩
theorem aX7_leaves_9 : At cX7_leaves 9 (.getfield 61) 3 12 := ⟨by decide +kernel, rfl⟩
theorem aX7_leaves_12 : At cX7_leaves 12 (.invokevirtual 214) 3 15 := ⟨by decide +kernel, rfl⟩
theorem aX7_leaves_15 : At cX7_leaves 15 (.ifCond .ne 6) 3 18 := ⟨by decide +kernel, rfl⟩
theorem aX7_leaves_18 : At cX7_leaves 18 (.bipush (-2)) 2 20 := ⟨by decide +kernel, rfl⟩
theorem aX7_leaves_20 : At cX7_leaves 20 .ireturn 1 21 := ⟨by decide +kernel, rfl⟩
theorem aX7_leaves_21 : At cX7_leaves 21 (.aload_n 0) 1 22 := ⟨by decide +kernel, rfl⟩
theorem aX7_leaves_22 : At cX7_leaves 22 (.getfield 51) 3 25 := ⟨by decide +kernel, rfl⟩
theorem aX7_leaves_25 : At cX7_leaves 25 (.aload_n 0) 1 26 := ⟨by decide +kernel, rfl⟩
theorem aX7_leaves_26 : At cX7_leaves 26 (.getfield 19) 3 29 := ⟨by decide +kernel, rfl⟩
theorem aX7_leaves_29 : At cX7_leaves 29 (.getfield 211) 3 32 := ⟨by decide +kernel, rfl⟩
theorem aX7_leaves_32 : At cX7_leaves 32 (.invokevirtual 217) 3 35 := ⟨by decide +kernel, rfl⟩
theorem aX7_leaves_35 : At cX7_leaves 35 .ireturn 1 36 := ⟨by decide +kernel, rfl⟩
theorem aX7_lies_0 : At cX7_lies 0 (.iload_n 1) 1 1 := ⟨by decide +kernel, rfl⟩
theorem aX7_lies_1 : At cX7_lies 1 (.ifCond .lt 8) 3 4 := ⟨by decide +kernel, rfl⟩
theorem aX7_lies_4 : At cX7_lies 4 (.iload_n 1) 1 5 := ⟨by decide +kernel, rfl⟩
theorem aX7_lies_5 : At cX7_lies 5 (.iconst 2) 1 6 := ⟨by decide +kernel, rfl⟩
theorem aX7_lies_6 : At cX7_lies 6 (.if_icmp .le 6) 3 9 := ⟨by decide +kernel, rfl⟩
theorem aX7_lies_9 : At cX7_lies 9 (.bipush (-2)) 2 11 := ⟨by decide +kernel, rfl⟩
theorem aX7_lies_11 : At cX7_lies 11 .ireturn 1 12 := ⟨by decide +kernel, rfl⟩
theorem aX7_lies_12 : At cX7_lies 12 (.aload_n 0) 1 13 := ⟨by decide +kernel, rfl⟩
theorem aX7_lies_13 : At cX7_lies 13 (.getfield 44) 3 16 := ⟨by decide +kernel, rfl⟩
theorem aX7_lies_16 : At cX7_lies 16 (.aload_n 0) 1 17 := ⟨by decide +kernel, rfl⟩
theorem aX7_lies_17 : At cX7_lies 17 (.getfield 19) 3 20 := ⟨by decide +kernel, rfl⟩
theorem aX7_lies_20 : At cX7_lies 20 (.aload_n 0) 1 21 := ⟨by decide +kernel, rfl⟩
theorem aX7_lies_21 : At cX7_lies 21 (.getfield 30) 3 24 := ⟨by decide +kernel, rfl⟩
theorem aX7_lies_24 : At cX7_lies 24 (.invokevirtual 198) 3 27 := ⟨by decide +kernel, rfl⟩
theorem aX7_lies_27 : At cX7_lies 27 (.iload_n 1) 1 28 := ⟨by decide +kernel, rfl⟩
theorem aX7_lies_28 : At cX7_lies 28 (.ifCond .ne 11) 3 31 := ⟨by decide +kernel, rfl⟩
theorem aX7_lies_31 : At cX7_lies 31 (.aload_n 0) 1 32 := ⟨by decide +kernel, rfl⟩
theorem aX7_lies_32 : At cX7_lies 32 (.getfield 44) 3 35 := ⟨by decide +kernel, rfl⟩
theorem aX7_lies_35 : At cX7_lies 35 (.getfield 202) 3 38 := ⟨by decide +kernel, rfl⟩
theorem aX7_lies_38 : At cX7_lies 38 .ireturn 1 39 := ⟨by decide +kernel, rfl⟩
theorem aX7_lies_39 : At cX7_lies 39 (.iload_n 1) 1 40 := ⟨by decide +kernel, rfl⟩
theorem aX7_lies_40 : At cX7_lies 40 (.iconst 1) 1 41 := ⟨by decide +kernel, rfl⟩
theorem aX7_lies_41 : At cX7_lies 41 (.if_icmp .ne 13) 3 44 := ⟨by decide +kernel, rfl⟩
theorem aX7_lies_44 : At cX7_lies 44 (.aload_n 0) 1 45 := ⟨by decide +kernel, rfl⟩
theorem aX7_lies_45 : At cX7_lies 45 (.getfield 44) 3 48 := ⟨by decide +kernel, rfl⟩
theorem aX7_lies_48 : At cX7_lies 48 (.getfield 205) 3 51 := ⟨by decide +kernel, rfl⟩
theorem aX7_lies_51 : At cX7_lies 51 (.goto 10) 3 54 := ⟨by decide +kernel, rfl⟩
theorem aX7_lies_54 : At cX7_lies 54 (.aload_n 0) 1 55 := ⟨by decide +kernel, rfl⟩
theorem aX7_lies_55 : At cX7_lies 55 (.getfield 44) 3 58 := ⟨by decide +kernel, rfl⟩
theorem aX7_lies_58 : At cX7_lies 58 (.getfield 208) 3 61 := ⟨by decide +kernel, rfl⟩
theorem aX7_lies_61 : At cX7_lies 61 .ireturn 1 62 := ⟨by decide +kernel, rfl⟩
theorem aX7_line_0 : At cX7_line 0 (.aload_n 0) 1 1 := ⟨by decide +kernel, rfl⟩
theorem aX7_line_1 : At cX7_line 1 (.getfield 10) 3 4 := ⟨by decide +kernel, rfl⟩
theorem aX7_line_4 : At cX7_line 4 (.aload_n 0) 1 5 := ⟨by decide +kernel, rfl⟩
theorem aX7_line_5 : At cX7_line 5 (.getfield 19) 3 8 := ⟨by decide +kernel, rfl⟩
theorem aX7_line_8 : At cX7_line 8 (.getfield 61) 3 11 := ⟨by decide +kernel, rfl⟩
theorem aX7_line_11 : At cX7_line 11 (.invokevirtual 78) 3 14 := ⟨by decide +kernel, rfl⟩
theorem aX7_line_14 : At cX7_line 14 (.bipush (-6)) 2 16 := ⟨by decide +kernel, rfl⟩
theorem aX7_line_16 : At cX7_line 16 (.if_icmp .eq 6) 3 19 := ⟨by decide +kernel, rfl⟩
theorem aX7_line_19 : At cX7_line 19 (.bipush (-5)) 2 21 := ⟨by decide +kernel, rfl⟩
theorem aX7_line_21 : At cX7_line 21 .ireturn 1 22 := ⟨by decide +kernel, rfl⟩
theorem aX7_line_22 : At cX7_line 22 (.aload_n 0) 1 23 := ⟨by decide +kernel, rfl⟩
theorem aX7_line_23 : At cX7_line 23 (.getfield 19) 3 26 := ⟨by decide +kernel, rfl⟩
theorem aX7_line_26 : At cX7_line 26 (.getfield 82) 3 29 := ⟨by decide +kernel, rfl⟩
theorem aX7_line_29 : At cX7_line 29 (.aload_n 0) 1 30 := ⟨by decide +kernel, rfl⟩
theorem aX7_line_30 : At cX7_line 30 (.getfield 10) 3 33 := ⟨by decide +kernel, rfl⟩
theorem aX7_line_33 : At cX7_line 33 (.getfield 69) 3 36 := ⟨by decide +kernel, rfl⟩
theorem aX7_line_36 : At cX7_line 36 (.iconst 2) 1 37 := ⟨by decide +kernel, rfl⟩
theorem aX7_line_37 : At cX7_line 37 .idiv 1 38 := ⟨by decide +kernel, rfl⟩
theorem aX7_line_38 : At cX7_line 38 .iadd 1 39 := ⟨by decide +kernel, rfl⟩
theorem aX7_line_39 : At cX7_line 39 (.bipush 12) 2 41 := ⟨by decide +kernel, rfl⟩
theorem aX7_line_41 : At cX7_line 41 (.if_icmp .le 6) 3 44 := ⟨by decide +kernel, rfl⟩
theorem aX7_line_44 : At cX7_line 44 (.bipush (-4)) 2 46 := ⟨by decide +kernel, rfl⟩
theorem aX7_line_46 : At cX7_line 46 .ireturn 1 47 := ⟨by decide +kernel, rfl⟩
theorem aX7_line_47 : At cX7_line 47 (.aload_n 0) 1 48 := ⟨by decide +kernel, rfl⟩
theorem aX7_line_48 : At cX7_line 48 (.getfield 19) 3 51 := ⟨by decide +kernel, rfl⟩
theorem aX7_line_51 : At cX7_line 51 (.aload_n 0) 1 52 := ⟨by decide +kernel, rfl⟩
theorem aX7_line_52 : At cX7_line 52 (.getfield 10) 3 55 := ⟨by decide +kernel, rfl⟩
theorem aX7_line_55 : At cX7_line 55 (.invokevirtual 85) 3 58 := ⟨by decide +kernel, rfl⟩
theorem aX7_line_58 : At cX7_line 58 (.aload_n 0) 1 59 := ⟨by decide +kernel, rfl⟩
theorem aX7_line_59 : At cX7_line 59 (.getfield 10) 3 62 := ⟨by decide +kernel, rfl⟩
theorem aX7_line_62 : At cX7_line 62 (.invokevirtual 75) 3 65 := ⟨by decide +kernel, rfl⟩
theorem aX7_line_65 : At cX7_line 65 (.aload_n 0) 1 66 := ⟨by decide +kernel, rfl⟩
theorem aX7_line_66 : At cX7_line 66 (.getfield 19) 3 69 := ⟨by decide +kernel, rfl⟩
theorem aX7_line_69 : At cX7_line 69 (.getfield 82) 3 72 := ⟨by decide +kernel, rfl⟩
theorem aX7_line_72 : At cX7_line 72 .ireturn 1 73 := ⟨by decide +kernel, rfl⟩
theorem aX7_lineBy_0 : At cX7_lineBy 0 (.iload_n 1) 1 1 := ⟨by decide +kernel, rfl⟩
theorem aX7_lineBy_1 : At cX7_lineBy 1 (.ifCond .lt 17) 3 4 := ⟨by decide +kernel, rfl⟩
theorem aX7_lineBy_4 : At cX7_lineBy 4 (.iload_n 1) 1 5 := ⟨by decide +kernel, rfl⟩
theorem aX7_lineBy_5 : At cX7_lineBy 5 (.iconst 1) 1 6 := ⟨by decide +kernel, rfl⟩
theorem aX7_lineBy_6 : At cX7_lineBy 6 (.if_icmp .gt 12) 3 9 := ⟨by decide +kernel, rfl⟩
theorem aX7_lineBy_9 : At cX7_lineBy 9 (.iload_n 2) 1 10 := ⟨by decide +kernel, rfl⟩
theorem aX7_lineBy_10 : At cX7_lineBy 10 (.ifCond .lt 8) 3 13 := ⟨by decide +kernel, rfl⟩
theorem aX7_lineBy_13 : At cX7_lineBy 13 (.iload_n 2) 1 14 := ⟨by decide +kernel, rfl⟩
theorem aX7_lineBy_14 : At cX7_lineBy 14 (.iconst 1) 1 15 := ⟨by decide +kernel, rfl⟩
theorem aX7_lineBy_15 : At cX7_lineBy 15 (.if_icmp .le 6) 3 18 := ⟨by decide +kernel, rfl⟩
theorem aX7_lineBy_18 : At cX7_lineBy 18 (.bipush (-2)) 2 20 := ⟨by decide +kernel, rfl⟩
theorem aX7_lineBy_20 : At cX7_lineBy 20 .ireturn 1 21 := ⟨by decide +kernel, rfl⟩
theorem aX7_lineBy_21 : At cX7_lineBy 21 (.aload_n 0) 1 22 := ⟨by decide +kernel, rfl⟩
theorem aX7_lineBy_22 : At cX7_lineBy 22 (.getfield 51) 3 25 := ⟨by decide +kernel, rfl⟩
theorem aX7_lineBy_25 : At cX7_lineBy 25 (.aload_n 0) 1 26 := ⟨by decide +kernel, rfl⟩
theorem aX7_lineBy_26 : At cX7_lineBy 26 (.getfield 19) 3 29 := ⟨by decide +kernel, rfl⟩
theorem aX7_lineBy_29 : At cX7_lineBy 29 (.getfield 211) 3 32 := ⟨by decide +kernel, rfl⟩
theorem aX7_lineBy_32 : At cX7_lineBy 32 (.aload_n 0) 1 33 := ⟨by decide +kernel, rfl⟩
theorem aX7_lineBy_33 : At cX7_lineBy 33 (.getfield 19) 3 36 := ⟨by decide +kernel, rfl⟩
theorem aX7_lineBy_36 : At cX7_lineBy 36 (.getfield 61) 3 39 := ⟨by decide +kernel, rfl⟩
theorem aX7_lineBy_39 : At cX7_lineBy 39 (.iload_n 1) 1 40 := ⟨by decide +kernel, rfl⟩
theorem aX7_lineBy_40 : At cX7_lineBy 40 (.iconst 1) 1 41 := ⟨by decide +kernel, rfl⟩
theorem aX7_lineBy_41 : At cX7_lineBy 41 (.if_icmp .ne 7) 3 44 := ⟨by decide +kernel, rfl⟩
theorem aX7_lineBy_44 : At cX7_lineBy 44 (.iconst 1) 1 45 := ⟨by decide +kernel, rfl⟩
theorem aX7_lineBy_45 : At cX7_lineBy 45 (.goto 4) 3 48 := ⟨by decide +kernel, rfl⟩
theorem aX7_lineBy_48 : At cX7_lineBy 48 (.iconst 0) 1 49 := ⟨by decide +kernel, rfl⟩
theorem aX7_lineBy_49 : At cX7_lineBy 49 (.invokevirtual 221) 3 52 := ⟨by decide +kernel, rfl⟩
theorem aX7_lineBy_52 : At cX7_lineBy 52 (.iload_n 2) 1 53 := ⟨by decide +kernel, rfl⟩
theorem aX7_lineBy_53 : At cX7_lineBy 53 (.ifCond .ne 13) 3 56 := ⟨by decide +kernel, rfl⟩
theorem aX7_lineBy_56 : At cX7_lineBy 56 (.aload_n 0) 1 57 := ⟨by decide +kernel, rfl⟩
theorem aX7_lineBy_57 : At cX7_lineBy 57 (.getfield 51) 3 60 := ⟨by decide +kernel, rfl⟩
theorem aX7_lineBy_60 : At cX7_lineBy 60 (.getfield 225) 3 63 := ⟨by decide +kernel, rfl⟩
theorem aX7_lineBy_63 : At cX7_lineBy 63 (.goto 10) 3 66 := ⟨by decide +kernel, rfl⟩
theorem aX7_lineBy_66 : At cX7_lineBy 66 (.aload_n 0) 1 67 := ⟨by decide +kernel, rfl⟩
theorem aX7_lineBy_67 : At cX7_lineBy 67 (.getfield 51) 3 70 := ⟨by decide +kernel, rfl⟩
theorem aX7_lineBy_70 : At cX7_lineBy 70 (.getfield 228) 3 73 := ⟨by decide +kernel, rfl⟩
theorem aX7_lineBy_73 : At cX7_lineBy 73 .ireturn 1 74 := ⟨by decide +kernel, rfl⟩
theorem aX7_loss_0 : At cX7_loss 0 (.iload_n 1) 1 1 := ⟨by decide +kernel, rfl⟩
theorem aX7_loss_1 : At cX7_loss 1 (.ifCond .lt 9) 3 4 := ⟨by decide +kernel, rfl⟩
theorem aX7_loss_4 : At cX7_loss 4 (.iload_n 1) 1 5 := ⟨by decide +kernel, rfl⟩
theorem aX7_loss_5 : At cX7_loss 5 (.bipush 20) 2 7 := ⟨by decide +kernel, rfl⟩
theorem aX7_loss_7 : At cX7_loss 7 (.if_icmp .le 6) 3 10 := ⟨by decide +kernel, rfl⟩
theorem aX7_loss_10 : At cX7_loss 10 (.bipush (-2)) 2 12 := ⟨by decide +kernel, rfl⟩
theorem aX7_loss_12 : At cX7_loss 12 .ireturn 1 13 := ⟨by decide +kernel, rfl⟩
theorem aX7_loss_13 : At cX7_loss 13 (.aload_n 0) 1 14 := ⟨by decide +kernel, rfl⟩
theorem aX7_loss_14 : At cX7_loss 14 (.getfield 19) 3 17 := ⟨by decide +kernel, rfl⟩
theorem aX7_loss_17 : At cX7_loss 17 (.getfield 185) 3 20 := ⟨by decide +kernel, rfl⟩
theorem aX7_loss_20 : At cX7_loss 20 (.istore_n 2) 1 21 := ⟨by decide +kernel, rfl⟩
theorem aX7_loss_21 : At cX7_loss 21 (.aload_n 0) 1 22 := ⟨by decide +kernel, rfl⟩
theorem aX7_loss_22 : At cX7_loss 22 (.getfield 19) 3 25 := ⟨by decide +kernel, rfl⟩
theorem aX7_loss_25 : At cX7_loss 25 (.iload_n 1) 1 26 := ⟨by decide +kernel, rfl⟩
theorem aX7_loss_26 : At cX7_loss 26 (.putfield 185) 3 29 := ⟨by decide +kernel, rfl⟩
theorem aX7_loss_29 : At cX7_loss 29 (.iload_n 2) 1 30 := ⟨by decide +kernel, rfl⟩
theorem aX7_loss_30 : At cX7_loss 30 .ireturn 1 31 := ⟨by decide +kernel, rfl⟩
theorem aX7_more_0 : At cX7_more 0 (.iload_n 1) 1 1 := ⟨by decide +kernel, rfl⟩
theorem aX7_more_1 : At cX7_more 1 (.iconst (-1)) 1 2 := ⟨by decide +kernel, rfl⟩
theorem aX7_more_2 : At cX7_more 2 (.if_icmp .eq 16) 3 5 := ⟨by decide +kernel, rfl⟩
theorem aX7_more_5 : At cX7_more 5 (.aload_n 0) 1 6 := ⟨by decide +kernel, rfl⟩
theorem aX7_more_6 : At cX7_more 6 (.getfield 19) 3 9 := ⟨by decide +kernel, rfl⟩
theorem aX7_more_9 : At cX7_more 9 (.iload_n 1) 1 10 := ⟨by decide +kernel, rfl⟩
theorem aX7_more_10 : At cX7_more 10 (.invokevirtual 93) 3 13 := ⟨by decide +kernel, rfl⟩
theorem aX7_more_13 : At cX7_more 13 (.ifCond .ne 5) 3 16 := ⟨by decide +kernel, rfl⟩
theorem aX7_more_16 : At cX7_more 16 (.iconst (-1)) 1 17 := ⟨by decide +kernel, rfl⟩
theorem aX7_more_17 : At cX7_more 17 .ireturn 1 18 := ⟨by decide +kernel, rfl⟩
theorem aX7_more_18 : At cX7_more 18 (.iload_n 2) 1 19 := ⟨by decide +kernel, rfl⟩
theorem aX7_more_19 : At cX7_more 19 (.ifCond .lt 8) 3 22 := ⟨by decide +kernel, rfl⟩
theorem aX7_more_22 : At cX7_more 22 (.iload_n 2) 1 23 := ⟨by decide +kernel, rfl⟩
theorem aX7_more_23 : At cX7_more 23 (.iconst 1) 1 24 := ⟨by decide +kernel, rfl⟩
theorem aX7_more_24 : At cX7_more 24 (.if_icmp .le 6) 3 27 := ⟨by decide +kernel, rfl⟩
theorem aX7_more_27 : At cX7_more 27 (.bipush (-2)) 2 29 := ⟨by decide +kernel, rfl⟩
theorem aX7_more_29 : At cX7_more 29 .ireturn 1 30 := ⟨by decide +kernel, rfl⟩
theorem aX7_more_30 : At cX7_more 30 (.aload_n 0) 1 31 := ⟨by decide +kernel, rfl⟩
theorem aX7_more_31 : At cX7_more 31 (.invokevirtual 97) 3 34 := ⟨by decide +kernel, rfl⟩
theorem aX7_more_34 : At cX7_more 34 (.ifCond .ne 6) 3 37 := ⟨by decide +kernel, rfl⟩
theorem aX7_more_37 : At cX7_more 37 (.bipush (-3)) 2 39 := ⟨by decide +kernel, rfl⟩
theorem aX7_more_39 : At cX7_more 39 .ireturn 1 40 := ⟨by decide +kernel, rfl⟩
theorem aX7_more_40 : At cX7_more 40 (.aload_n 0) 1 41 := ⟨by decide +kernel, rfl⟩
theorem aX7_more_41 : At cX7_more 41 (.getfield 30) 3 44 := ⟨by decide +kernel, rfl⟩
theorem aX7_more_44 : At cX7_more 44 (.invokevirtual 109) 3 47 := ⟨by decide +kernel, rfl⟩
theorem aX7_more_47 : At cX7_more 47 (.istore_n 3) 1 48 := ⟨by decide +kernel, rfl⟩
theorem aX7_more_48 : At cX7_more 48 (.iload_n 3) 1 49 := ⟨by decide +kernel, rfl⟩
theorem aX7_more_49 : At cX7_more 49 (.iconst 1) 1 50 := ⟨by decide +kernel, rfl⟩
theorem aX7_more_50 : At cX7_more 50 (.if_icmp .lt 8) 3 53 := ⟨by decide +kernel, rfl⟩
theorem aX7_more_53 : At cX7_more 53 (.iload_n 3) 1 54 := ⟨by decide +kernel, rfl⟩
theorem aX7_more_54 : At cX7_more 54 (.iconst 5) 1 55 := ⟨by decide +kernel, rfl⟩
theorem aX7_more_55 : At cX7_more 55 (.if_icmp .le 6) 3 58 := ⟨by decide +kernel, rfl⟩
theorem aX7_more_58 : At cX7_more 58 (.bipush (-5)) 2 60 := ⟨by decide +kernel, rfl⟩
theorem aX7_more_60 : At cX7_more 60 .ireturn 1 61 := ⟨by decide +kernel, rfl⟩
theorem aX7_more_61 : At cX7_more 61 (.aload_n 0) 1 62 := ⟨by decide +kernel, rfl⟩
theorem aX7_more_62 : At cX7_more 62 (.iload_n 3) 1 63 := ⟨by decide +kernel, rfl⟩
theorem aX7_more_63 : At cX7_more 63 (.invokevirtual 150) 3 66 := ⟨by decide +kernel, rfl⟩
theorem aX7_more_66 : At cX7_more 66 (.astore 4) 2 68 := ⟨by decide +kernel, rfl⟩
theorem aX7_more_68 : At cX7_more 68 (.iload_n 1) 1 69 := ⟨by decide +kernel, rfl⟩
theorem aX7_more_69 : At cX7_more 69 (.iconst (-1)) 1 70 := ⟨by decide +kernel, rfl⟩
theorem aX7_more_70 : At cX7_more 70 (.if_icmp .ne 7) 3 73 := ⟨by decide +kernel, rfl⟩
theorem aX7_more_73 : At cX7_more 73 (.iconst (-1)) 1 74 := ⟨by decide +kernel, rfl⟩
theorem aX7_more_74 : At cX7_more 74 (.goto 11) 3 77 := ⟨by decide +kernel, rfl⟩
theorem aX7_more_77 : At cX7_more 77 (.aload_n 0) 1 78 := ⟨by decide +kernel, rfl⟩
theorem aX7_more_78 : At cX7_more 78 (.getfield 30) 3 81 := ⟨by decide +kernel, rfl⟩
theorem aX7_more_81 : At cX7_more 81 (.iload_n 1) 1 82 := ⟨by decide +kernel, rfl⟩
theorem aX7_more_82 : At cX7_more 82 (.invokevirtual 154) 3 85 := ⟨by decide +kernel, rfl⟩
theorem aX7_more_85 : At cX7_more 85 (.istore 5) 2 87 := ⟨by decide +kernel, rfl⟩
theorem aX7_more_87 : At cX7_more 87 (.aload_n 0) 1 88 := ⟨by decide +kernel, rfl⟩
theorem aX7_more_88 : At cX7_more 88 (.iload_n 3) 1 89 := ⟨by decide +kernel, rfl⟩
theorem aX7_more_89 : At cX7_more 89 (.invokevirtual 157) 3 92 := ⟨by decide +kernel, rfl⟩
theorem aX7_more_92 : At cX7_more 92 (.istore 6) 2 94 := ⟨by decide +kernel, rfl⟩
theorem aX7_more_94 : At cX7_more 94 (.aload 4) 2 96 := ⟨by decide +kernel, rfl⟩
theorem aX7_more_96 : At cX7_more 96 (.iload 6) 2 98 := ⟨by decide +kernel, rfl⟩
theorem aX7_more_98 : At cX7_more 98 (.iload 5) 2 100 := ⟨by decide +kernel, rfl⟩
theorem aX7_more_100 : At cX7_more 100 (.invokevirtual 160) 3 103 := ⟨by decide +kernel, rfl⟩
theorem aX7_more_103 : At cX7_more 103 (.istore 7) 2 105 := ⟨by decide +kernel, rfl⟩
theorem aX7_more_105 : At cX7_more 105 (.iload_n 2) 1 106 := ⟨by decide +kernel, rfl⟩
theorem aX7_more_106 : At cX7_more 106 (.ifCond .ne 6) 3 109 := ⟨by decide +kernel, rfl⟩
theorem aX7_more_109 : At cX7_more 109 (.iload 7) 2 111 := ⟨by decide +kernel, rfl⟩
theorem aX7_more_111 : At cX7_more 111 .ireturn 1 112 := ⟨by decide +kernel, rfl⟩
theorem aX7_more_112 : At cX7_more 112 (.aload 4) 2 114 := ⟨by decide +kernel, rfl⟩
theorem aX7_more_114 : At cX7_more 114 (.iload 6) 2 116 := ⟨by decide +kernel, rfl⟩
theorem aX7_more_116 : At cX7_more 116 (.iload 5) 2 118 := ⟨by decide +kernel, rfl⟩
theorem aX7_more_118 : At cX7_more 118 (.iload 7) 2 120 := ⟨by decide +kernel, rfl⟩
theorem aX7_more_120 : At cX7_more 120 (.invokevirtual 163) 3 123 := ⟨by decide +kernel, rfl⟩
theorem aX7_more_123 : At cX7_more 123 (.istore 8) 2 125 := ⟨by decide +kernel, rfl⟩
theorem aX7_more_125 : At cX7_more 125 (.iload 8) 2 127 := ⟨by decide +kernel, rfl⟩
theorem aX7_more_127 : At cX7_more 127 (.iconst (-1)) 1 128 := ⟨by decide +kernel, rfl⟩
theorem aX7_more_128 : At cX7_more 128 (.if_icmp .ne 8) 3 131 := ⟨by decide +kernel, rfl⟩
theorem aX7_more_131 : At cX7_more 131 (.bipush (-6)) 2 133 := ⟨by decide +kernel, rfl⟩
theorem aX7_more_133 : At cX7_more 133 (.goto 12) 3 136 := ⟨by decide +kernel, rfl⟩
theorem aX7_more_136 : At cX7_more 136 (.aload_n 0) 1 137 := ⟨by decide +kernel, rfl⟩
theorem aX7_more_137 : At cX7_more 137 (.getfield 30) 3 140 := ⟨by decide +kernel, rfl⟩
theorem aX7_more_140 : At cX7_more 140 (.iload 8) 2 142 := ⟨by decide +kernel, rfl⟩
theorem aX7_more_142 : At cX7_more 142 (.invokevirtual 167) 3 145 := ⟨by decide +kernel, rfl⟩
theorem aX7_more_145 : At cX7_more 145 .ireturn 1 146 := ⟨by decide +kernel, rfl⟩
theorem aX7_open_0 : At cX7_open 0 (.iload_n 1) 1 1 := ⟨by decide +kernel, rfl⟩
theorem aX7_open_1 : At cX7_open 1 (.ifCond .lt 8) 3 4 := ⟨by decide +kernel, rfl⟩
theorem aX7_open_4 : At cX7_open 4 (.iload_n 1) 1 5 := ⟨by decide +kernel, rfl⟩
theorem aX7_open_5 : At cX7_open 5 (.iconst 2) 1 6 := ⟨by decide +kernel, rfl⟩
theorem aX7_open_6 : At cX7_open 6 (.if_icmp .le 6) 3 9 := ⟨by decide +kernel, rfl⟩
theorem aX7_open_9 : At cX7_open 9 (.bipush (-2)) 2 11 := ⟨by decide +kernel, rfl⟩
theorem aX7_open_11 : At cX7_open 11 .ireturn 1 12 := ⟨by decide +kernel, rfl⟩
theorem aX7_open_12 : At cX7_open 12 (.aload_n 0) 1 13 := ⟨by decide +kernel, rfl⟩
theorem aX7_open_13 : At cX7_open 13 (.invokevirtual 97) 3 16 := ⟨by decide +kernel, rfl⟩
theorem aX7_open_16 : At cX7_open 16 (.istore_n 2) 1 17 := ⟨by decide +kernel, rfl⟩
theorem aX7_open_17 : At cX7_open 17 (.iload_n 1) 1 18 := ⟨by decide +kernel, rfl⟩
theorem aX7_open_18 : At cX7_open 18 (.iconst 2) 1 19 := ⟨by decide +kernel, rfl⟩
theorem aX7_open_19 : At cX7_open 19 (.if_icmp .ne 13) 3 22 := ⟨by decide +kernel, rfl⟩
theorem aX7_open_22 : At cX7_open 22 (.iload_n 2) 1 23 := ⟨by decide +kernel, rfl⟩
theorem aX7_open_23 : At cX7_open 23 (.ifCond .eq 7) 3 26 := ⟨by decide +kernel, rfl⟩
theorem aX7_open_26 : At cX7_open 26 (.iconst 1) 1 27 := ⟨by decide +kernel, rfl⟩
theorem aX7_open_27 : At cX7_open 27 (.goto 4) 3 30 := ⟨by decide +kernel, rfl⟩
theorem aX7_open_30 : At cX7_open 30 (.iconst 0) 1 31 := ⟨by decide +kernel, rfl⟩
theorem aX7_open_31 : At cX7_open 31 .ireturn 1 32 := ⟨by decide +kernel, rfl⟩
theorem aX7_open_32 : At cX7_open 32 (.iload_n 2) 1 33 := ⟨by decide +kernel, rfl⟩
theorem aX7_open_33 : At cX7_open 33 (.ifCond .ne 6) 3 36 := ⟨by decide +kernel, rfl⟩
theorem aX7_open_36 : At cX7_open 36 (.bipush (-3)) 2 38 := ⟨by decide +kernel, rfl⟩
theorem aX7_open_38 : At cX7_open 38 .ireturn 1 39 := ⟨by decide +kernel, rfl⟩
theorem aX7_open_39 : At cX7_open 39 (.iload_n 1) 1 40 := ⟨by decide +kernel, rfl⟩
theorem aX7_open_40 : At cX7_open 40 (.ifCond .ne 13) 3 43 := ⟨by decide +kernel, rfl⟩
theorem aX7_open_43 : At cX7_open 43 (.aload_n 0) 1 44 := ⟨by decide +kernel, rfl⟩
theorem aX7_open_44 : At cX7_open 44 (.getfield 30) 3 47 := ⟨by decide +kernel, rfl⟩
theorem aX7_open_47 : At cX7_open 47 (.invokevirtual 105) 3 50 := ⟨by decide +kernel, rfl⟩
theorem aX7_open_50 : At cX7_open 50 (.goto 10) 3 53 := ⟨by decide +kernel, rfl⟩
theorem aX7_open_53 : At cX7_open 53 (.aload_n 0) 1 54 := ⟨by decide +kernel, rfl⟩
theorem aX7_open_54 : At cX7_open 54 (.getfield 30) 3 57 := ⟨by decide +kernel, rfl⟩
theorem aX7_open_57 : At cX7_open 57 (.invokevirtual 109) 3 60 := ⟨by decide +kernel, rfl⟩
theorem aX7_open_60 : At cX7_open 60 .ireturn 1 61 := ⟨by decide +kernel, rfl⟩
theorem aX7_orders_0 : At cX7_orders 0 (.aload_n 0) 1 1 := ⟨by decide +kernel, rfl⟩
theorem aX7_orders_1 : At cX7_orders 1 (.invokevirtual 97) 3 4 := ⟨by decide +kernel, rfl⟩
theorem aX7_orders_4 : At cX7_orders 4 (.ifCond .ne 6) 3 7 := ⟨by decide +kernel, rfl⟩
theorem aX7_orders_7 : At cX7_orders 7 (.bipush (-3)) 2 9 := ⟨by decide +kernel, rfl⟩
theorem aX7_orders_9 : At cX7_orders 9 .ireturn 1 10 := ⟨by decide +kernel, rfl⟩
theorem aX7_orders_10 : At cX7_orders 10 (.aload_n 0) 1 11 := ⟨by decide +kernel, rfl⟩
theorem aX7_orders_11 : At cX7_orders 11 (.getfield 30) 3 14 := ⟨by decide +kernel, rfl⟩
theorem aX7_orders_14 : At cX7_orders 14 (.invokevirtual 121) 3 17 := ⟨by decide +kernel, rfl⟩
theorem aX7_orders_17 : At cX7_orders 17 .ireturn 1 18 := ⟨by decide +kernel, rfl⟩
theorem aX7_paymentOf_0 : At cX7_paymentOf 0 (.aload_n 0) 1 1 := ⟨by decide +kernel, rfl⟩
theorem aX7_paymentOf_1 : At cX7_paymentOf 1 (.getfield 30) 3 4 := ⟨by decide +kernel, rfl⟩
theorem aX7_paymentOf_4 : At cX7_paymentOf 4 (.iload_n 1) 1 5 := ⟨by decide +kernel, rfl⟩
theorem aX7_paymentOf_5 : At cX7_paymentOf 5 (.invokevirtual 118) 3 8 := ⟨by decide +kernel, rfl⟩
theorem aX7_paymentOf_8 : At cX7_paymentOf 8 (.istore_n 3) 1 9 := ⟨by decide +kernel, rfl⟩
theorem aX7_paymentOf_9 : At cX7_paymentOf 9 (.iload_n 2) 1 10 := ⟨by decide +kernel, rfl⟩
theorem aX7_paymentOf_10 : At cX7_paymentOf 10 (.ifCond .ne 8) 3 13 := ⟨by decide +kernel, rfl⟩
theorem aX7_paymentOf_13 : At cX7_paymentOf 13 (.bipush 99) 2 15 := ⟨by decide +kernel, rfl⟩
theorem aX7_paymentOf_15 : At cX7_paymentOf 15 (.goto 4) 3 18 := ⟨by decide +kernel, rfl⟩
theorem aX7_paymentOf_18 : At cX7_paymentOf 18 (.iconst 0) 1 19 := ⟨by decide +kernel, rfl⟩
theorem aX7_paymentOf_19 : At cX7_paymentOf 19 (.istore 4) 2 21 := ⟨by decide +kernel, rfl⟩
theorem aX7_paymentOf_21 : At cX7_paymentOf 21 (.aload_n 0) 1 22 := ⟨by decide +kernel, rfl⟩
theorem aX7_paymentOf_22 : At cX7_paymentOf 22 (.getfield 30) 3 25 := ⟨by decide +kernel, rfl⟩
theorem aX7_paymentOf_25 : At cX7_paymentOf 25 (.iload_n 1) 1 26 := ⟨by decide +kernel, rfl⟩
theorem aX7_paymentOf_26 : At cX7_paymentOf 26 (.invokevirtual 115) 3 29 := ⟨by decide +kernel, rfl⟩
theorem aX7_paymentOf_29 : At cX7_paymentOf 29 (.istore 5) 2 31 := ⟨by decide +kernel, rfl⟩
theorem aX7_paymentOf_31 : At cX7_paymentOf 31 (.iload 5) 2 33 := ⟨by decide +kernel, rfl⟩
theorem aX7_paymentOf_33 : At cX7_paymentOf 33 (.iload_n 3) 1 34 := ⟨by decide +kernel, rfl⟩
theorem aX7_paymentOf_34 : At cX7_paymentOf 34 (.if_icmp .gt 51) 3 37 := ⟨by decide +kernel, rfl⟩
theorem aX7_paymentOf_37 : At cX7_paymentOf 37 (.iload 5) 2 39 := ⟨by decide +kernel, rfl⟩
theorem aX7_paymentOf_39 : At cX7_paymentOf 39 (.bipush 6) 2 41 := ⟨by decide +kernel, rfl⟩
theorem aX7_paymentOf_41 : At cX7_paymentOf 41 (.if_icmp .ge 44) 3 44 := ⟨by decide +kernel, rfl⟩
theorem aX7_paymentOf_44 : At cX7_paymentOf 44 (.aload_n 0) 1 45 := ⟨by decide +kernel, rfl⟩
theorem aX7_paymentOf_45 : At cX7_paymentOf 45 (.getfield 19) 3 48 := ⟨by decide +kernel, rfl⟩
theorem aX7_paymentOf_48 : At cX7_paymentOf 48 (.getfield 124) 3 51 := ⟨by decide +kernel, rfl⟩
theorem aX7_paymentOf_51 : At cX7_paymentOf 51 (.iload 5) 2 53 := ⟨by decide +kernel, rfl⟩
theorem aX7_paymentOf_53 : At cX7_paymentOf 53 .iaload 1 54 := ⟨by decide +kernel, rfl⟩
theorem aX7_paymentOf_54 : At cX7_paymentOf 54 (.istore 6) 2 56 := ⟨by decide +kernel, rfl⟩
theorem aX7_paymentOf_56 : At cX7_paymentOf 56 (.iload_n 2) 1 57 := ⟨by decide +kernel, rfl⟩
theorem aX7_paymentOf_57 : At cX7_paymentOf 57 (.ifCond .ne 13) 3 60 := ⟨by decide +kernel, rfl⟩
theorem aX7_paymentOf_60 : At cX7_paymentOf 60 (.iload 4) 2 62 := ⟨by decide +kernel, rfl⟩
theorem aX7_paymentOf_62 : At cX7_paymentOf 62 (.iload 6) 2 64 := ⟨by decide +kernel, rfl⟩
theorem aX7_paymentOf_64 : At cX7_paymentOf 64 (.invokestatic 134) 3 67 := ⟨by decide +kernel, rfl⟩
theorem aX7_paymentOf_67 : At cX7_paymentOf 67 (.goto 10) 3 70 := ⟨by decide +kernel, rfl⟩
theorem aX7_paymentOf_70 : At cX7_paymentOf 70 (.iload 4) 2 72 := ⟨by decide +kernel, rfl⟩
theorem aX7_paymentOf_72 : At cX7_paymentOf 72 (.iload 6) 2 74 := ⟨by decide +kernel, rfl⟩
theorem aX7_paymentOf_74 : At cX7_paymentOf 74 (.invokestatic 139) 3 77 := ⟨by decide +kernel, rfl⟩
theorem aX7_paymentOf_77 : At cX7_paymentOf 77 (.istore 4) 2 79 := ⟨by decide +kernel, rfl⟩
theorem aX7_paymentOf_79 : At cX7_paymentOf 79 (.iinc 5 1) 3 82 := ⟨by decide +kernel, rfl⟩
theorem aX7_paymentOf_82 : At cX7_paymentOf 82 (.goto (-51)) 3 85 := ⟨by decide +kernel, rfl⟩
theorem aX7_paymentOf_85 : At cX7_paymentOf 85 (.iload 4) 2 87 := ⟨by decide +kernel, rfl⟩
theorem aX7_paymentOf_87 : At cX7_paymentOf 87 .ireturn 1 88 := ⟨by decide +kernel, rfl⟩
theorem aX7_paymentOfAll_0 : At cX7_paymentOfAll 0 (.iconst 0) 1 1 := ⟨by decide +kernel, rfl⟩
theorem aX7_paymentOfAll_1 : At cX7_paymentOfAll 1 (.istore_n 2) 1 2 := ⟨by decide +kernel, rfl⟩
theorem aX7_paymentOfAll_2 : At cX7_paymentOfAll 2 (.iconst 0) 1 3 := ⟨by decide +kernel, rfl⟩
theorem aX7_paymentOfAll_3 : At cX7_paymentOfAll 3 (.istore_n 3) 1 4 := ⟨by decide +kernel, rfl⟩
theorem aX7_paymentOfAll_4 : At cX7_paymentOfAll 4 (.iload_n 3) 1 5 := ⟨by decide +kernel, rfl⟩
theorem aX7_paymentOfAll_5 : At cX7_paymentOfAll 5 (.aload_n 0) 1 6 := ⟨by decide +kernel, rfl⟩
theorem aX7_paymentOfAll_6 : At cX7_paymentOfAll 6 (.getfield 19) 3 9 := ⟨by decide +kernel, rfl⟩
theorem aX7_paymentOfAll_9 : At cX7_paymentOfAll 9 (.getfield 61) 3 12 := ⟨by decide +kernel, rfl⟩
theorem aX7_paymentOfAll_12 : At cX7_paymentOfAll 12 (.if_icmp .ge 18) 3 15 := ⟨by decide +kernel, rfl⟩
theorem aX7_paymentOfAll_15 : At cX7_paymentOfAll 15 (.iload_n 2) 1 16 := ⟨by decide +kernel, rfl⟩
theorem aX7_paymentOfAll_16 : At cX7_paymentOfAll 16 (.aload_n 0) 1 17 := ⟨by decide +kernel, rfl⟩
theorem aX7_paymentOfAll_17 : At cX7_paymentOfAll 17 (.iload_n 3) 1 18 := ⟨by decide +kernel, rfl⟩
theorem aX7_paymentOfAll_18 : At cX7_paymentOfAll 18 (.iload_n 1) 1 19 := ⟨by decide +kernel, rfl⟩
theorem aX7_paymentOfAll_19 : At cX7_paymentOfAll 19 (.invokevirtual 131) 3 22 := ⟨by decide +kernel, rfl⟩
theorem aX7_paymentOfAll_22 : At cX7_paymentOfAll 22 .iadd 1 23 := ⟨by decide +kernel, rfl⟩
theorem aX7_paymentOfAll_23 : At cX7_paymentOfAll 23 (.istore_n 2) 1 24 := ⟨by decide +kernel, rfl⟩
theorem aX7_paymentOfAll_24 : At cX7_paymentOfAll 24 (.iinc 3 1) 3 27 := ⟨by decide +kernel, rfl⟩
theorem aX7_paymentOfAll_27 : At cX7_paymentOfAll 27 (.goto (-23)) 3 30 := ⟨by decide +kernel, rfl⟩
theorem aX7_paymentOfAll_30 : At cX7_paymentOfAll 30 (.iload_n 2) 1 31 := ⟨by decide +kernel, rfl⟩
theorem aX7_paymentOfAll_31 : At cX7_paymentOfAll 31 .ireturn 1 32 := ⟨by decide +kernel, rfl⟩
theorem aX7_pays_0 : At cX7_pays 0 (.iload_n 1) 1 1 := ⟨by decide +kernel, rfl⟩
theorem aX7_pays_1 : At cX7_pays 1 (.iconst (-1)) 1 2 := ⟨by decide +kernel, rfl⟩
theorem aX7_pays_2 : At cX7_pays 2 (.if_icmp .eq 16) 3 5 := ⟨by decide +kernel, rfl⟩
theorem aX7_pays_5 : At cX7_pays 5 (.aload_n 0) 1 6 := ⟨by decide +kernel, rfl⟩
theorem aX7_pays_6 : At cX7_pays 6 (.getfield 19) 3 9 := ⟨by decide +kernel, rfl⟩
theorem aX7_pays_9 : At cX7_pays 9 (.iload_n 1) 1 10 := ⟨by decide +kernel, rfl⟩
theorem aX7_pays_10 : At cX7_pays 10 (.invokevirtual 93) 3 13 := ⟨by decide +kernel, rfl⟩
theorem aX7_pays_13 : At cX7_pays 13 (.ifCond .ne 5) 3 16 := ⟨by decide +kernel, rfl⟩
theorem aX7_pays_16 : At cX7_pays 16 (.iconst (-1)) 1 17 := ⟨by decide +kernel, rfl⟩
theorem aX7_pays_17 : At cX7_pays 17 .ireturn 1 18 := ⟨by decide +kernel, rfl⟩
theorem aX7_pays_18 : At cX7_pays 18 (.iload_n 2) 1 19 := ⟨by decide +kernel, rfl⟩
theorem aX7_pays_19 : At cX7_pays 19 (.invokestatic 112) 3 22 := ⟨by decide +kernel, rfl⟩
theorem aX7_pays_22 : At cX7_pays 22 (.ifCond .ne 6) 3 25 := ⟨by decide +kernel, rfl⟩
theorem aX7_pays_25 : At cX7_pays 25 (.bipush (-2)) 2 27 := ⟨by decide +kernel, rfl⟩
theorem aX7_pays_27 : At cX7_pays 27 .ireturn 1 28 := ⟨by decide +kernel, rfl⟩
theorem aX7_pays_28 : At cX7_pays 28 (.aload_n 0) 1 29 := ⟨by decide +kernel, rfl⟩
theorem aX7_pays_29 : At cX7_pays 29 (.invokevirtual 97) 3 32 := ⟨by decide +kernel, rfl⟩
theorem aX7_pays_32 : At cX7_pays 32 (.ifCond .ne 6) 3 35 := ⟨by decide +kernel, rfl⟩
theorem aX7_pays_35 : At cX7_pays 35 (.bipush (-3)) 2 37 := ⟨by decide +kernel, rfl⟩
theorem aX7_pays_37 : At cX7_pays 37 .ireturn 1 38 := ⟨by decide +kernel, rfl⟩
theorem aX7_pays_38 : At cX7_pays 38 (.iload_n 1) 1 39 := ⟨by decide +kernel, rfl⟩
theorem aX7_pays_39 : At cX7_pays 39 (.iconst (-1)) 1 40 := ⟨by decide +kernel, rfl⟩
theorem aX7_pays_40 : At cX7_pays 40 (.if_icmp .ne 11) 3 43 := ⟨by decide +kernel, rfl⟩
theorem aX7_pays_43 : At cX7_pays 43 (.aload_n 0) 1 44 := ⟨by decide +kernel, rfl⟩
theorem aX7_pays_44 : At cX7_pays 44 (.iload_n 2) 1 45 := ⟨by decide +kernel, rfl⟩
theorem aX7_pays_45 : At cX7_pays 45 (.invokevirtual 128) 3 48 := ⟨by decide +kernel, rfl⟩
theorem aX7_pays_48 : At cX7_pays 48 (.goto 9) 3 51 := ⟨by decide +kernel, rfl⟩
theorem aX7_pays_51 : At cX7_pays 51 (.aload_n 0) 1 52 := ⟨by decide +kernel, rfl⟩
theorem aX7_pays_52 : At cX7_pays 52 (.iload_n 1) 1 53 := ⟨by decide +kernel, rfl⟩
theorem aX7_pays_53 : At cX7_pays 53 (.iload_n 2) 1 54 := ⟨by decide +kernel, rfl⟩
theorem aX7_pays_54 : At cX7_pays 54 (.invokevirtual 131) 3 57 := ⟨by decide +kernel, rfl⟩
theorem aX7_pays_57 : At cX7_pays 57 .ireturn 1 58 := ⟨by decide +kernel, rfl⟩
theorem aX7_plannerFor_0 : At cX7_plannerFor 0 (.aload_n 0) 1 1 := ⟨by decide +kernel, rfl⟩
theorem aX7_plannerFor_1 : At cX7_plannerFor 1 (.getfield 57) 3 4 := ⟨by decide +kernel, rfl⟩
theorem aX7_plannerFor_4 : At cX7_plannerFor 4 (.iload_n 1) 1 5 := ⟨by decide +kernel, rfl⟩
theorem aX7_plannerFor_5 : At cX7_plannerFor 5 .aaload 1 6 := ⟨by decide +kernel, rfl⟩
theorem aX7_plannerFor_6 : At cX7_plannerFor 6 (.astore_n 2) 1 7 := ⟨by decide +kernel, rfl⟩
theorem aX7_plannerFor_7 : At cX7_plannerFor 7 (.aload_n 2) 1 8 := ⟨by decide +kernel, rfl⟩
theorem aX7_plannerFor_8 : At cX7_plannerFor 8 (.ifnonnull 19) 3 11 := ⟨by decide +kernel, rfl⟩
theorem aX7_plannerFor_11 : At cX7_plannerFor 11 (.new 55) 3 14 := ⟨by decide +kernel, rfl⟩
theorem aX7_plannerFor_14 : At cX7_plannerFor 14 .dup 1 15 := ⟨by decide +kernel, rfl⟩
theorem aX7_plannerFor_15 : At cX7_plannerFor 15 (.iload_n 1) 1 16 := ⟨by decide +kernel, rfl⟩
theorem aX7_plannerFor_16 : At cX7_plannerFor 16 (.invokespecial 170) 3 19 := ⟨by decide +kernel, rfl⟩
theorem aX7_plannerFor_19 : At cX7_plannerFor 19 (.astore_n 2) 1 20 := ⟨by decide +kernel, rfl⟩
theorem aX7_plannerFor_20 : At cX7_plannerFor 20 (.aload_n 0) 1 21 := ⟨by decide +kernel, rfl⟩
theorem aX7_plannerFor_21 : At cX7_plannerFor 21 (.getfield 57) 3 24 := ⟨by decide +kernel, rfl⟩
theorem aX7_plannerFor_24 : At cX7_plannerFor 24 (.iload_n 1) 1 25 := ⟨by decide +kernel, rfl⟩
theorem aX7_plannerFor_25 : At cX7_plannerFor 25 (.aload_n 2) 1 26 := ⟨by decide +kernel, rfl⟩
theorem aX7_plannerFor_26 : At cX7_plannerFor 26 .aastore 1 27 := ⟨by decide +kernel, rfl⟩
theorem aX7_plannerFor_27 : At cX7_plannerFor 27 (.aload_n 2) 1 28 := ⟨by decide +kernel, rfl⟩
theorem aX7_plannerFor_28 : At cX7_plannerFor 28 .areturn 1 29 := ⟨by decide +kernel, rfl⟩
theorem aX7_rank_0 : At cX7_rank 0 (.aload_n 0) 1 1 := ⟨by decide +kernel, rfl⟩
theorem aX7_rank_1 : At cX7_rank 1 (.getfield 19) 3 4 := ⟨by decide +kernel, rfl⟩
theorem aX7_rank_4 : At cX7_rank 4 (.iload_n 1) 1 5 := ⟨by decide +kernel, rfl⟩
theorem aX7_rank_5 : At cX7_rank 5 (.invokevirtual 93) 3 8 := ⟨by decide +kernel, rfl⟩
theorem aX7_rank_8 : At cX7_rank 8 (.ifCond .ne 5) 3 11 := ⟨by decide +kernel, rfl⟩
theorem aX7_rank_11 : At cX7_rank 11 (.iconst (-1)) 1 12 := ⟨by decide +kernel, rfl⟩
theorem aX7_rank_12 : At cX7_rank 12 .ireturn 1 13 := ⟨by decide +kernel, rfl⟩
theorem aX7_rank_13 : At cX7_rank 13 (.iload_n 2) 1 14 := ⟨by decide +kernel, rfl⟩
theorem aX7_rank_14 : At cX7_rank 14 (.invokestatic 112) 3 17 := ⟨by decide +kernel, rfl⟩
theorem aX7_rank_17 : At cX7_rank 17 (.ifCond .ne 6) 3 20 := ⟨by decide +kernel, rfl⟩
theorem aX7_rank_20 : At cX7_rank 20 (.bipush (-2)) 2 22 := ⟨by decide +kernel, rfl⟩
theorem aX7_rank_22 : At cX7_rank 22 .ireturn 1 23 := ⟨by decide +kernel, rfl⟩
theorem aX7_rank_23 : At cX7_rank 23 (.aload_n 0) 1 24 := ⟨by decide +kernel, rfl⟩
theorem aX7_rank_24 : At cX7_rank 24 (.invokevirtual 97) 3 27 := ⟨by decide +kernel, rfl⟩
theorem aX7_rank_27 : At cX7_rank 27 (.ifCond .ne 6) 3 30 := ⟨by decide +kernel, rfl⟩
theorem aX7_rank_30 : At cX7_rank 30 (.bipush (-3)) 2 32 := ⟨by decide +kernel, rfl⟩
theorem aX7_rank_32 : At cX7_rank 32 .ireturn 1 33 := ⟨by decide +kernel, rfl⟩
theorem aX7_rank_33 : At cX7_rank 33 (.iload_n 2) 1 34 := ⟨by decide +kernel, rfl⟩
theorem aX7_rank_34 : At cX7_rank 34 (.ifCond .ne 14) 3 37 := ⟨by decide +kernel, rfl⟩
theorem aX7_rank_37 : At cX7_rank 37 (.aload_n 0) 1 38 := ⟨by decide +kernel, rfl⟩
theorem aX7_rank_38 : At cX7_rank 38 (.getfield 30) 3 41 := ⟨by decide +kernel, rfl⟩
theorem aX7_rank_41 : At cX7_rank 41 (.iload_n 1) 1 42 := ⟨by decide +kernel, rfl⟩
theorem aX7_rank_42 : At cX7_rank 42 (.invokevirtual 115) 3 45 := ⟨by decide +kernel, rfl⟩
theorem aX7_rank_45 : At cX7_rank 45 (.goto 11) 3 48 := ⟨by decide +kernel, rfl⟩
theorem aX7_rank_48 : At cX7_rank 48 (.aload_n 0) 1 49 := ⟨by decide +kernel, rfl⟩
theorem aX7_rank_49 : At cX7_rank 49 (.getfield 30) 3 52 := ⟨by decide +kernel, rfl⟩
theorem aX7_rank_52 : At cX7_rank 52 (.iload_n 1) 1 53 := ⟨by decide +kernel, rfl⟩
theorem aX7_rank_53 : At cX7_rank 53 (.invokevirtual 118) 3 56 := ⟨by decide +kernel, rfl⟩
theorem aX7_rank_56 : At cX7_rank 56 .ireturn 1 57 := ⟨by decide +kernel, rfl⟩
theorem aX7_readBook_0 : At cX7_readBook 0 (.aload_n 0) 1 1 := ⟨by decide +kernel, rfl⟩
theorem aX7_readBook_1 : At cX7_readBook 1 (.getfield 30) 3 4 := ⟨by decide +kernel, rfl⟩
theorem aX7_readBook_4 : At cX7_readBook 4 (.aload_n 0) 1 5 := ⟨by decide +kernel, rfl⟩
theorem aX7_readBook_5 : At cX7_readBook 5 (.getfield 19) 3 8 := ⟨by decide +kernel, rfl⟩
theorem aX7_readBook_8 : At cX7_readBook 8 (.iconst 0) 1 9 := ⟨by decide +kernel, rfl⟩
theorem aX7_readBook_9 : At cX7_readBook 9 (.invokevirtual 142) 3 12 := ⟨by decide +kernel, rfl⟩
theorem aX7_readBook_12 : At cX7_readBook 12 (.aload_n 0) 1 13 := ⟨by decide +kernel, rfl⟩
theorem aX7_readBook_13 : At cX7_readBook 13 (.getfield 30) 3 16 := ⟨by decide +kernel, rfl⟩
theorem aX7_readBook_16 : At cX7_readBook 16 (.getfield 146) 3 19 := ⟨by decide +kernel, rfl⟩
theorem aX7_readBook_19 : At cX7_readBook 19 .ireturn 1 20 := ⟨by decide +kernel, rfl⟩
theorem aX7_restore_0 : At cX7_restore 0 (.iload_n 1) 1 1 := ⟨by decide +kernel, rfl⟩
theorem aX7_restore_1 : At cX7_restore 1 (.ifCond .lt 8) 3 4 := ⟨by decide +kernel, rfl⟩
theorem aX7_restore_4 : At cX7_restore 4 (.iload_n 1) 1 5 := ⟨by decide +kernel, rfl⟩
theorem aX7_restore_5 : At cX7_restore 5 (.iconst 2) 1 6 := ⟨by decide +kernel, rfl⟩
theorem aX7_restore_6 : At cX7_restore 6 (.if_icmp .lt 6) 3 9 := ⟨by decide +kernel, rfl⟩
theorem aX7_restore_9 : At cX7_restore 9 (.bipush (-2)) 2 11 := ⟨by decide +kernel, rfl⟩
theorem aX7_restore_11 : At cX7_restore 11 .ireturn 1 12 := ⟨by decide +kernel, rfl⟩
theorem aX7_restore_12 : At cX7_restore 12 (.aload_n 0) 1 13 := ⟨by decide +kernel, rfl⟩
theorem aX7_restore_13 : At cX7_restore 13 (.getfield 23) 3 16 := ⟨by decide +kernel, rfl⟩
theorem aX7_restore_16 : At cX7_restore 16 (.iload_n 1) 1 17 := ⟨by decide +kernel, rfl⟩
theorem aX7_restore_17 : At cX7_restore 17 .aaload 1 18 := ⟨by decide +kernel, rfl⟩
theorem aX7_restore_18 : At cX7_restore 18 (.astore_n 2) 1 19 := ⟨by decide +kernel, rfl⟩
theorem aX7_restore_19 : At cX7_restore 19 (.aload_n 2) 1 20 := ⟨by decide +kernel, rfl⟩
theorem aX7_restore_20 : At cX7_restore 20 (.ifnonnull 6) 3 23 := ⟨by decide +kernel, rfl⟩
theorem aX7_restore_23 : At cX7_restore 23 (.bipush (-3)) 2 25 := ⟨by decide +kernel, rfl⟩
theorem aX7_restore_25 : At cX7_restore 25 .ireturn 1 26 := ⟨by decide +kernel, rfl⟩
theorem aX7_restore_26 : At cX7_restore 26 (.aload_n 0) 1 27 := ⟨by decide +kernel, rfl⟩
theorem aX7_restore_27 : At cX7_restore 27 (.getfield 19) 3 30 := ⟨by decide +kernel, rfl⟩
theorem aX7_restore_30 : At cX7_restore 30 (.aload_n 2) 1 31 := ⟨by decide +kernel, rfl⟩
theorem aX7_restore_31 : At cX7_restore 31 (.invokevirtual 231) 3 34 := ⟨by decide +kernel, rfl⟩
theorem aX7_restore_34 : At cX7_restore 34 (.iconst 1) 1 35 := ⟨by decide +kernel, rfl⟩
theorem aX7_restore_35 : At cX7_restore 35 .ireturn 1 36 := ⟨by decide +kernel, rfl⟩
theorem aX7_sacks_0 : At cX7_sacks 0 (.iload_n 1) 1 1 := ⟨by decide +kernel, rfl⟩
theorem aX7_sacks_1 : At cX7_sacks 1 (.iconst 2) 1 2 := ⟨by decide +kernel, rfl⟩
theorem aX7_sacks_2 : At cX7_sacks 2 (.if_icmp .lt 9) 3 5 := ⟨by decide +kernel, rfl⟩
theorem aX7_sacks_5 : At cX7_sacks 5 (.iload_n 1) 1 6 := ⟨by decide +kernel, rfl⟩
theorem aX7_sacks_6 : At cX7_sacks 6 (.bipush 6) 2 8 := ⟨by decide +kernel, rfl⟩
theorem aX7_sacks_8 : At cX7_sacks 8 (.if_icmp .le 6) 3 11 := ⟨by decide +kernel, rfl⟩
theorem aX7_sacks_11 : At cX7_sacks 11 (.bipush (-2)) 2 13 := ⟨by decide +kernel, rfl⟩
theorem aX7_sacks_13 : At cX7_sacks 13 .ireturn 1 14 := ⟨by decide +kernel, rfl⟩
theorem aX7_sacks_14 : At cX7_sacks 14 (.aload_n 0) 1 15 := ⟨by decide +kernel, rfl⟩
theorem aX7_sacks_15 : At cX7_sacks 15 (.getfield 19) 3 18 := ⟨by decide +kernel, rfl⟩
theorem aX7_sacks_18 : At cX7_sacks 18 (.getfield 61) 3 21 := ⟨by decide +kernel, rfl⟩
theorem aX7_sacks_21 : At cX7_sacks 21 (.istore_n 2) 1 22 := ⟨by decide +kernel, rfl⟩
theorem aX7_sacks_22 : At cX7_sacks 22 (.aload_n 0) 1 23 := ⟨by decide +kernel, rfl⟩
theorem aX7_sacks_23 : At cX7_sacks 23 (.getfield 19) 3 26 := ⟨by decide +kernel, rfl⟩
theorem aX7_sacks_26 : At cX7_sacks 26 (.iload_n 1) 1 27 := ⟨by decide +kernel, rfl⟩
theorem aX7_sacks_27 : At cX7_sacks 27 (.invokevirtual 65) 3 30 := ⟨by decide +kernel, rfl⟩
theorem aX7_sacks_30 : At cX7_sacks 30 (.iload_n 2) 1 31 := ⟨by decide +kernel, rfl⟩
theorem aX7_sacks_31 : At cX7_sacks 31 .ireturn 1 32 := ⟨by decide +kernel, rfl⟩
theorem aX7_say_0 : At cX7_say 0 (.iload_n 1) 1 1 := ⟨by decide +kernel, rfl⟩
theorem aX7_say_1 : At cX7_say 1 (.bipush 33) 2 3 := ⟨by decide +kernel, rfl⟩
theorem aX7_say_3 : At cX7_say 3 (.if_icmp .lt 9) 3 6 := ⟨by decide +kernel, rfl⟩
theorem aX7_say_6 : At cX7_say 6 (.iload_n 1) 1 7 := ⟨by decide +kernel, rfl⟩
theorem aX7_say_7 : At cX7_say 7 (.bipush 126) 2 9 := ⟨by decide +kernel, rfl⟩
theorem aX7_say_9 : At cX7_say 9 (.if_icmp .le 6) 3 12 := ⟨by decide +kernel, rfl⟩
theorem aX7_say_12 : At cX7_say 12 (.bipush (-2)) 2 14 := ⟨by decide +kernel, rfl⟩
theorem aX7_say_14 : At cX7_say 14 .ireturn 1 15 := ⟨by decide +kernel, rfl⟩
theorem aX7_say_15 : At cX7_say 15 (.aload_n 0) 1 16 := ⟨by decide +kernel, rfl⟩
theorem aX7_say_16 : At cX7_say 16 (.getfield 10) 3 19 := ⟨by decide +kernel, rfl⟩
theorem aX7_say_19 : At cX7_say 19 (.getfield 69) 3 22 := ⟨by decide +kernel, rfl⟩
theorem aX7_say_22 : At cX7_say 22 (.bipush 40) 2 24 := ⟨by decide +kernel, rfl⟩
theorem aX7_say_24 : At cX7_say 24 (.if_icmp .lt 6) 3 27 := ⟨by decide +kernel, rfl⟩
theorem aX7_say_27 : At cX7_say 27 (.bipush (-4)) 2 29 := ⟨by decide +kernel, rfl⟩
theorem aX7_say_29 : At cX7_say 29 .ireturn 1 30 := ⟨by decide +kernel, rfl⟩
theorem aX7_say_30 : At cX7_say 30 (.aload_n 0) 1 31 := ⟨by decide +kernel, rfl⟩
theorem aX7_say_31 : At cX7_say 31 (.getfield 10) 3 34 := ⟨by decide +kernel, rfl⟩
theorem aX7_say_34 : At cX7_say 34 (.iload_n 1) 1 35 := ⟨by decide +kernel, rfl⟩
theorem aX7_say_35 : At cX7_say 35 (.invokevirtual 72) 3 38 := ⟨by decide +kernel, rfl⟩
theorem aX7_say_38 : At cX7_say 38 (.aload_n 0) 1 39 := ⟨by decide +kernel, rfl⟩
theorem aX7_say_39 : At cX7_say 39 (.getfield 10) 3 42 := ⟨by decide +kernel, rfl⟩
theorem aX7_say_42 : At cX7_say 42 (.getfield 69) 3 45 := ⟨by decide +kernel, rfl⟩
theorem aX7_say_45 : At cX7_say 45 .ireturn 1 46 := ⟨by decide +kernel, rfl⟩
theorem aX7_saying_0 : At cX7_saying 0 (.iload_n 1) 1 1 := ⟨by decide +kernel, rfl⟩
theorem aX7_saying_1 : At cX7_saying 1 (.ifCond .lt 14) 3 4 := ⟨by decide +kernel, rfl⟩
theorem aX7_saying_4 : At cX7_saying 4 (.iload_n 1) 1 5 := ⟨by decide +kernel, rfl⟩
theorem aX7_saying_5 : At cX7_saying 5 (.aload_n 0) 1 6 := ⟨by decide +kernel, rfl⟩
theorem aX7_saying_6 : At cX7_saying 6 (.getfield 19) 3 9 := ⟨by decide +kernel, rfl⟩
theorem aX7_saying_9 : At cX7_saying 9 (.getfield 82) 3 12 := ⟨by decide +kernel, rfl⟩
theorem aX7_saying_12 : At cX7_saying 12 (.if_icmp .lt 5) 3 15 := ⟨by decide +kernel, rfl⟩
theorem aX7_saying_15 : At cX7_saying 15 (.iconst (-1)) 1 16 := ⟨by decide +kernel, rfl⟩
theorem aX7_saying_16 : At cX7_saying 16 .ireturn 1 17 := ⟨by decide +kernel, rfl⟩
theorem aX7_saying_17 : At cX7_saying 17 (.iload_n 2) 1 18 := ⟨by decide +kernel, rfl⟩
theorem aX7_saying_18 : At cX7_saying 18 (.ifCond .lt 8) 3 21 := ⟨by decide +kernel, rfl⟩
theorem aX7_saying_21 : At cX7_saying 21 (.iload_n 2) 1 22 := ⟨by decide +kernel, rfl⟩
theorem aX7_saying_22 : At cX7_saying 22 (.iconst 5) 1 23 := ⟨by decide +kernel, rfl⟩
theorem aX7_saying_23 : At cX7_saying 23 (.if_icmp .lt 6) 3 26 := ⟨by decide +kernel, rfl⟩
theorem aX7_saying_26 : At cX7_saying 26 (.bipush (-2)) 2 28 := ⟨by decide +kernel, rfl⟩
theorem aX7_saying_28 : At cX7_saying 28 .ireturn 1 29 := ⟨by decide +kernel, rfl⟩
theorem aX7_saying_29 : At cX7_saying 29 (.aload_n 0) 1 30 := ⟨by decide +kernel, rfl⟩
theorem aX7_saying_30 : At cX7_saying 30 (.getfield 19) 3 33 := ⟨by decide +kernel, rfl⟩
theorem aX7_saying_33 : At cX7_saying 33 (.getfield 89) 3 36 := ⟨by decide +kernel, rfl⟩
theorem aX7_saying_36 : At cX7_saying 36 (.iload_n 1) 1 37 := ⟨by decide +kernel, rfl⟩
theorem aX7_saying_37 : At cX7_saying 37 .aaload 1 38 := ⟨by decide +kernel, rfl⟩
theorem aX7_saying_38 : At cX7_saying 38 (.iload_n 2) 1 39 := ⟨by decide +kernel, rfl⟩
theorem aX7_saying_39 : At cX7_saying 39 .iaload 1 40 := ⟨by decide +kernel, rfl⟩
theorem aX7_saying_40 : At cX7_saying 40 .ireturn 1 41 := ⟨by decide +kernel, rfl⟩
theorem aX7_span_0 : At cX7_span 0 (.aload_n 0) 1 1 := ⟨by decide +kernel, rfl⟩
theorem aX7_span_1 : At cX7_span 1 (.getfield 19) 3 4 := ⟨by decide +kernel, rfl⟩
theorem aX7_span_4 : At cX7_span 4 (.iload_n 1) 1 5 := ⟨by decide +kernel, rfl⟩
theorem aX7_span_5 : At cX7_span 5 (.invokevirtual 93) 3 8 := ⟨by decide +kernel, rfl⟩
theorem aX7_span_8 : At cX7_span 8 (.ifCond .ne 5) 3 11 := ⟨by decide +kernel, rfl⟩
theorem aX7_span_11 : At cX7_span 11 (.iconst (-1)) 1 12 := ⟨by decide +kernel, rfl⟩
theorem aX7_span_12 : At cX7_span 12 .ireturn 1 13 := ⟨by decide +kernel, rfl⟩
theorem aX7_span_13 : At cX7_span 13 (.iload_n 2) 1 14 := ⟨by decide +kernel, rfl⟩
theorem aX7_span_14 : At cX7_span 14 (.invokestatic 112) 3 17 := ⟨by decide +kernel, rfl⟩
theorem aX7_span_17 : At cX7_span 17 (.ifCond .ne 6) 3 20 := ⟨by decide +kernel, rfl⟩
theorem aX7_span_20 : At cX7_span 20 (.bipush (-2)) 2 22 := ⟨by decide +kernel, rfl⟩
theorem aX7_span_22 : At cX7_span 22 .ireturn 1 23 := ⟨by decide +kernel, rfl⟩
theorem aX7_span_23 : At cX7_span 23 (.aload_n 0) 1 24 := ⟨by decide +kernel, rfl⟩
theorem aX7_span_24 : At cX7_span 24 (.getfield 37) 3 27 := ⟨by decide +kernel, rfl⟩
theorem aX7_span_27 : At cX7_span 27 (.aload_n 0) 1 28 := ⟨by decide +kernel, rfl⟩
theorem aX7_span_28 : At cX7_span 28 (.getfield 19) 3 31 := ⟨by decide +kernel, rfl⟩
theorem aX7_span_31 : At cX7_span 31 (.invokevirtual 188) 3 34 := ⟨by decide +kernel, rfl⟩
theorem aX7_span_34 : At cX7_span 34 (.ifCond .ne 6) 3 37 := ⟨by decide +kernel, rfl⟩
theorem aX7_span_37 : At cX7_span 37 (.bipush (-6)) 2 39 := ⟨by decide +kernel, rfl⟩
theorem aX7_span_39 : At cX7_span 39 .ireturn 1 40 := ⟨by decide +kernel, rfl⟩
theorem aX7_span_40 : At cX7_span 40 (.iload_n 2) 1 41 := ⟨by decide +kernel, rfl⟩
theorem aX7_span_41 : At cX7_span 41 (.ifCond .ne 15) 3 44 := ⟨by decide +kernel, rfl⟩
theorem aX7_span_44 : At cX7_span 44 (.aload_n 0) 1 45 := ⟨by decide +kernel, rfl⟩
theorem aX7_span_45 : At cX7_span 45 (.getfield 37) 3 48 := ⟨by decide +kernel, rfl⟩
theorem aX7_span_48 : At cX7_span 48 (.getfield 192) 3 51 := ⟨by decide +kernel, rfl⟩
theorem aX7_span_51 : At cX7_span 51 (.iload_n 1) 1 52 := ⟨by decide +kernel, rfl⟩
theorem aX7_span_52 : At cX7_span 52 .iaload 1 53 := ⟨by decide +kernel, rfl⟩
theorem aX7_span_53 : At cX7_span 53 (.goto 12) 3 56 := ⟨by decide +kernel, rfl⟩
theorem aX7_span_56 : At cX7_span 56 (.aload_n 0) 1 57 := ⟨by decide +kernel, rfl⟩
theorem aX7_span_57 : At cX7_span 57 (.getfield 37) 3 60 := ⟨by decide +kernel, rfl⟩
theorem aX7_span_60 : At cX7_span 60 (.getfield 195) 3 63 := ⟨by decide +kernel, rfl⟩
theorem aX7_span_63 : At cX7_span 63 (.iload_n 1) 1 64 := ⟨by decide +kernel, rfl⟩
theorem aX7_span_64 : At cX7_span 64 .iaload 1 65 := ⟨by decide +kernel, rfl⟩
theorem aX7_span_65 : At cX7_span 65 .ireturn 1 66 := ⟨by decide +kernel, rfl⟩
theorem aX7_strike_0 : At cX7_strike 0 (.aload_n 0) 1 1 := ⟨by decide +kernel, rfl⟩
theorem aX7_strike_1 : At cX7_strike 1 (.getfield 19) 3 4 := ⟨by decide +kernel, rfl⟩
theorem aX7_strike_4 : At cX7_strike 4 (.getfield 82) 3 7 := ⟨by decide +kernel, rfl⟩
theorem aX7_strike_7 : At cX7_strike 7 (.ifCond .ne 6) 3 10 := ⟨by decide +kernel, rfl⟩
theorem aX7_strike_10 : At cX7_strike 10 (.bipush (-5)) 2 12 := ⟨by decide +kernel, rfl⟩
theorem aX7_strike_12 : At cX7_strike 12 .ireturn 1 13 := ⟨by decide +kernel, rfl⟩
theorem aX7_strike_13 : At cX7_strike 13 (.aload_n 0) 1 14 := ⟨by decide +kernel, rfl⟩
theorem aX7_strike_14 : At cX7_strike 14 (.getfield 19) 3 17 := ⟨by decide +kernel, rfl⟩
theorem aX7_strike_17 : At cX7_strike 17 .dup 1 18 := ⟨by decide +kernel, rfl⟩
theorem aX7_strike_18 : At cX7_strike 18 (.getfield 82) 3 21 := ⟨by decide +kernel, rfl⟩
theorem aX7_strike_21 : At cX7_strike 21 (.iconst 1) 1 22 := ⟨by decide +kernel, rfl⟩
theorem aX7_strike_22 : At cX7_strike 22 .isub 1 23 := ⟨by decide +kernel, rfl⟩
theorem aX7_strike_23 : At cX7_strike 23 (.putfield 82) 3 26 := ⟨by decide +kernel, rfl⟩
theorem aX7_strike_26 : At cX7_strike 26 (.aload_n 0) 1 27 := ⟨by decide +kernel, rfl⟩
theorem aX7_strike_27 : At cX7_strike 27 (.getfield 19) 3 30 := ⟨by decide +kernel, rfl⟩
theorem aX7_strike_30 : At cX7_strike 30 (.getfield 82) 3 33 := ⟨by decide +kernel, rfl⟩
theorem aX7_strike_33 : At cX7_strike 33 .ireturn 1 34 := ⟨by decide +kernel, rfl⟩
theorem aX7_told_0 : At cX7_told 0 (.iload_n 1) 1 1 := ⟨by decide +kernel, rfl⟩
theorem aX7_told_1 : At cX7_told 1 (.tableswitch 63 0 3 #[31, 39, 47, 55]) 31 32 := ⟨by decide +kernel, rfl⟩
theorem aX7_told_32 : At cX7_told 32 (.aload_n 0) 1 33 := ⟨by decide +kernel, rfl⟩
theorem aX7_told_33 : At cX7_told 33 (.getfield 10) 3 36 := ⟨by decide +kernel, rfl⟩
theorem aX7_told_36 : At cX7_told 36 (.getfield 69) 3 39 := ⟨by decide +kernel, rfl⟩
theorem aX7_told_39 : At cX7_told 39 .ireturn 1 40 := ⟨by decide +kernel, rfl⟩
theorem aX7_told_40 : At cX7_told 40 (.aload_n 0) 1 41 := ⟨by decide +kernel, rfl⟩
theorem aX7_told_41 : At cX7_told 41 (.getfield 19) 3 44 := ⟨by decide +kernel, rfl⟩
theorem aX7_told_44 : At cX7_told 44 (.getfield 61) 3 47 := ⟨by decide +kernel, rfl⟩
theorem aX7_told_47 : At cX7_told 47 .ireturn 1 48 := ⟨by decide +kernel, rfl⟩
theorem aX7_told_48 : At cX7_told 48 (.aload_n 0) 1 49 := ⟨by decide +kernel, rfl⟩
theorem aX7_told_49 : At cX7_told 49 (.getfield 19) 3 52 := ⟨by decide +kernel, rfl⟩
theorem aX7_told_52 : At cX7_told 52 (.getfield 82) 3 55 := ⟨by decide +kernel, rfl⟩
theorem aX7_told_55 : At cX7_told 55 .ireturn 1 56 := ⟨by decide +kernel, rfl⟩
theorem aX7_told_56 : At cX7_told 56 (.aload_n 0) 1 57 := ⟨by decide +kernel, rfl⟩
theorem aX7_told_57 : At cX7_told 57 (.getfield 19) 3 60 := ⟨by decide +kernel, rfl⟩
theorem aX7_told_60 : At cX7_told 60 (.getfield 185) 3 63 := ⟨by decide +kernel, rfl⟩
theorem aX7_told_63 : At cX7_told 63 .ireturn 1 64 := ⟨by decide +kernel, rfl⟩
theorem aX7_told_64 : At cX7_told 64 (.aload_n 0) 1 65 := ⟨by decide +kernel, rfl⟩
theorem aX7_told_65 : At cX7_told 65 (.iload_n 1) 1 66 := ⟨by decide +kernel, rfl⟩
theorem aX7_told_66 : At cX7_told 66 (.invokevirtual 235) 3 69 := ⟨by decide +kernel, rfl⟩
theorem aX7_told_69 : At cX7_told 69 .ireturn 1 70 := ⟨by decide +kernel, rfl⟩
theorem aX7_toldOfRow_0 : At cX7_toldOfRow 0 (.iload_n 1) 1 1 := ⟨by decide +kernel, rfl⟩
theorem aX7_toldOfRow_1 : At cX7_toldOfRow 1 (.bipush 10) 2 3 := ⟨by decide +kernel, rfl⟩
theorem aX7_toldOfRow_3 : At cX7_toldOfRow 3 (.if_icmp .lt 9) 3 6 := ⟨by decide +kernel, rfl⟩
theorem aX7_toldOfRow_6 : At cX7_toldOfRow 6 (.iload_n 1) 1 7 := ⟨by decide +kernel, rfl⟩
theorem aX7_toldOfRow_7 : At cX7_toldOfRow 7 (.bipush 60) 2 9 := ⟨by decide +kernel, rfl⟩
theorem aX7_toldOfRow_9 : At cX7_toldOfRow 9 (.if_icmp .lt 6) 3 12 := ⟨by decide +kernel, rfl⟩
theorem aX7_toldOfRow_12 : At cX7_toldOfRow 12 (.bipush (-2)) 2 14 := ⟨by decide +kernel, rfl⟩
theorem aX7_toldOfRow_14 : At cX7_toldOfRow 14 .ireturn 1 15 := ⟨by decide +kernel, rfl⟩
theorem aX7_toldOfRow_15 : At cX7_toldOfRow 15 (.iload_n 1) 1 16 := ⟨by decide +kernel, rfl⟩
theorem aX7_toldOfRow_16 : At cX7_toldOfRow 16 (.bipush 10) 2 18 := ⟨by decide +kernel, rfl⟩
theorem aX7_toldOfRow_18 : At cX7_toldOfRow 18 .idiv 1 19 := ⟨by decide +kernel, rfl⟩
theorem aX7_toldOfRow_19 : At cX7_toldOfRow 19 (.istore_n 2) 1 20 := ⟨by decide +kernel, rfl⟩
theorem aX7_toldOfRow_20 : At cX7_toldOfRow 20 (.iload_n 1) 1 21 := ⟨by decide +kernel, rfl⟩
theorem aX7_toldOfRow_21 : At cX7_toldOfRow 21 (.bipush 10) 2 23 := ⟨by decide +kernel, rfl⟩
theorem aX7_toldOfRow_23 : At cX7_toldOfRow 23 .irem 1 24 := ⟨by decide +kernel, rfl⟩
theorem aX7_toldOfRow_24 : At cX7_toldOfRow 24 (.istore_n 3) 1 25 := ⟨by decide +kernel, rfl⟩
theorem aX7_toldOfRow_25 : At cX7_toldOfRow 25 (.iload_n 3) 1 26 := ⟨by decide +kernel, rfl⟩
theorem aX7_toldOfRow_26 : At cX7_toldOfRow 26 (.iload_n 2) 1 27 := ⟨by decide +kernel, rfl⟩
theorem aX7_toldOfRow_27 : At cX7_toldOfRow 27 (.iconst 1) 1 28 := ⟨by decide +kernel, rfl⟩
theorem aX7_toldOfRow_28 : At cX7_toldOfRow 28 (.if_icmp .ne 8) 3 31 := ⟨by decide +kernel, rfl⟩
theorem aX7_toldOfRow_31 : At cX7_toldOfRow 31 (.bipush 6) 2 33 := ⟨by decide +kernel, rfl⟩
theorem aX7_toldOfRow_33 : At cX7_toldOfRow 33 (.goto 10) 3 36 := ⟨by decide +kernel, rfl⟩
theorem aX7_toldOfRow_36 : At cX7_toldOfRow 36 (.aload_n 0) 1 37 := ⟨by decide +kernel, rfl⟩
theorem aX7_toldOfRow_37 : At cX7_toldOfRow 37 (.getfield 19) 3 40 := ⟨by decide +kernel, rfl⟩
theorem aX7_toldOfRow_40 : At cX7_toldOfRow 40 (.getfield 61) 3 43 := ⟨by decide +kernel, rfl⟩
theorem aX7_toldOfRow_43 : At cX7_toldOfRow 43 (.if_icmp .lt 6) 3 46 := ⟨by decide +kernel, rfl⟩
theorem aX7_toldOfRow_46 : At cX7_toldOfRow 46 (.bipush (-2)) 2 48 := ⟨by decide +kernel, rfl⟩
theorem aX7_toldOfRow_48 : At cX7_toldOfRow 48 .ireturn 1 49 := ⟨by decide +kernel, rfl⟩
theorem aX7_toldOfRow_49 : At cX7_toldOfRow 49 (.iload_n 2) 1 50 := ⟨by decide +kernel, rfl⟩
theorem aX7_toldOfRow_50 : At cX7_toldOfRow 50 (.tableswitch 70 1 4 #[30, 40, 50, 60]) 30 80 := ⟨by decide +kernel, rfl⟩
theorem aX7_toldOfRow_80 : At cX7_toldOfRow 80 (.aload_n 0) 1 81 := ⟨by decide +kernel, rfl⟩
theorem aX7_toldOfRow_81 : At cX7_toldOfRow 81 (.getfield 19) 3 84 := ⟨by decide +kernel, rfl⟩
theorem aX7_toldOfRow_84 : At cX7_toldOfRow 84 (.getfield 124) 3 87 := ⟨by decide +kernel, rfl⟩
theorem aX7_toldOfRow_87 : At cX7_toldOfRow 87 (.iload_n 3) 1 88 := ⟨by decide +kernel, rfl⟩
theorem aX7_toldOfRow_88 : At cX7_toldOfRow 88 .iaload 1 89 := ⟨by decide +kernel, rfl⟩
theorem aX7_toldOfRow_89 : At cX7_toldOfRow 89 .ireturn 1 90 := ⟨by decide +kernel, rfl⟩
theorem aX7_toldOfRow_90 : At cX7_toldOfRow 90 (.aload_n 0) 1 91 := ⟨by decide +kernel, rfl⟩
theorem aX7_toldOfRow_91 : At cX7_toldOfRow 91 (.getfield 19) 3 94 := ⟨by decide +kernel, rfl⟩
theorem aX7_toldOfRow_94 : At cX7_toldOfRow 94 (.getfield 211) 3 97 := ⟨by decide +kernel, rfl⟩
theorem aX7_toldOfRow_97 : At cX7_toldOfRow 97 (.iload_n 3) 1 98 := ⟨by decide +kernel, rfl⟩
theorem aX7_toldOfRow_98 : At cX7_toldOfRow 98 .iaload 1 99 := ⟨by decide +kernel, rfl⟩
theorem aX7_toldOfRow_99 : At cX7_toldOfRow 99 .ireturn 1 100 := ⟨by decide +kernel, rfl⟩
theorem aX7_toldOfRow_100 : At cX7_toldOfRow 100 (.aload_n 0) 1 101 := ⟨by decide +kernel, rfl⟩
theorem aX7_toldOfRow_101 : At cX7_toldOfRow 101 (.getfield 19) 3 104 := ⟨by decide +kernel, rfl⟩
theorem aX7_toldOfRow_104 : At cX7_toldOfRow 104 (.getfield 238) 3 107 := ⟨by decide +kernel, rfl⟩
theorem aX7_toldOfRow_107 : At cX7_toldOfRow 107 (.iload_n 3) 1 108 := ⟨by decide +kernel, rfl⟩
theorem aX7_toldOfRow_108 : At cX7_toldOfRow 108 .iaload 1 109 := ⟨by decide +kernel, rfl⟩
theorem aX7_toldOfRow_109 : At cX7_toldOfRow 109 .ireturn 1 110 := ⟨by decide +kernel, rfl⟩
theorem aX7_toldOfRow_110 : At cX7_toldOfRow 110 (.aload_n 0) 1 111 := ⟨by decide +kernel, rfl⟩
theorem aX7_toldOfRow_111 : At cX7_toldOfRow 111 (.getfield 19) 3 114 := ⟨by decide +kernel, rfl⟩
theorem aX7_toldOfRow_114 : At cX7_toldOfRow 114 (.getfield 179) 3 117 := ⟨by decide +kernel, rfl⟩
theorem aX7_toldOfRow_117 : At cX7_toldOfRow 117 (.iload_n 3) 1 118 := ⟨by decide +kernel, rfl⟩
theorem aX7_toldOfRow_118 : At cX7_toldOfRow 118 .iaload 1 119 := ⟨by decide +kernel, rfl⟩
theorem aX7_toldOfRow_119 : At cX7_toldOfRow 119 .ireturn 1 120 := ⟨by decide +kernel, rfl⟩
theorem aX7_toldOfRow_120 : At cX7_toldOfRow 120 (.aload_n 0) 1 121 := ⟨by decide +kernel, rfl⟩
theorem aX7_toldOfRow_121 : At cX7_toldOfRow 121 (.getfield 19) 3 124 := ⟨by decide +kernel, rfl⟩
theorem aX7_toldOfRow_124 : At cX7_toldOfRow 124 (.getfield 182) 3 127 := ⟨by decide +kernel, rfl⟩
theorem aX7_toldOfRow_127 : At cX7_toldOfRow 127 (.iload_n 3) 1 128 := ⟨by decide +kernel, rfl⟩
theorem aX7_toldOfRow_128 : At cX7_toldOfRow 128 .iaload 1 129 := ⟨by decide +kernel, rfl⟩
theorem aX7_toldOfRow_129 : At cX7_toldOfRow 129 .ireturn 1 130 := ⟨by decide +kernel, rfl⟩
theorem aX7_toll_0 : At cX7_toll 0 (.iload_n 1) 1 1 := ⟨by decide +kernel, rfl⟩
theorem aX7_toll_1 : At cX7_toll 1 (.ifCond .lt 19) 3 4 := ⟨by decide +kernel, rfl⟩
theorem aX7_toll_4 : At cX7_toll 4 (.iload_n 1) 1 5 := ⟨by decide +kernel, rfl⟩
theorem aX7_toll_5 : At cX7_toll 5 (.bipush 6) 2 7 := ⟨by decide +kernel, rfl⟩
theorem aX7_toll_7 : At cX7_toll 7 (.if_icmp .ge 13) 3 10 := ⟨by decide +kernel, rfl⟩
theorem aX7_toll_10 : At cX7_toll 10 (.iload_n 2) 1 11 := ⟨by decide +kernel, rfl⟩
theorem aX7_toll_11 : At cX7_toll 11 (.ifCond .lt 9) 3 14 := ⟨by decide +kernel, rfl⟩
theorem aX7_toll_14 : At cX7_toll 14 (.iload_n 2) 1 15 := ⟨by decide +kernel, rfl⟩
theorem aX7_toll_15 : At cX7_toll 15 (.bipush 99) 2 17 := ⟨by decide +kernel, rfl⟩
theorem aX7_toll_17 : At cX7_toll 17 (.if_icmp .le 6) 3 20 := ⟨by decide +kernel, rfl⟩
theorem aX7_toll_20 : At cX7_toll 20 (.bipush (-2)) 2 22 := ⟨by decide +kernel, rfl⟩
theorem aX7_toll_22 : At cX7_toll 22 .ireturn 1 23 := ⟨by decide +kernel, rfl⟩
theorem aX7_toll_23 : At cX7_toll 23 (.aload_n 0) 1 24 := ⟨by decide +kernel, rfl⟩
theorem aX7_toll_24 : At cX7_toll 24 (.getfield 19) 3 27 := ⟨by decide +kernel, rfl⟩
theorem aX7_toll_27 : At cX7_toll 27 (.getfield 124) 3 30 := ⟨by decide +kernel, rfl⟩
theorem aX7_toll_30 : At cX7_toll 30 (.iload_n 1) 1 31 := ⟨by decide +kernel, rfl⟩
theorem aX7_toll_31 : At cX7_toll 31 .iaload 1 32 := ⟨by decide +kernel, rfl⟩
theorem aX7_toll_32 : At cX7_toll 32 (.istore_n 3) 1 33 := ⟨by decide +kernel, rfl⟩
theorem aX7_toll_33 : At cX7_toll 33 (.aload_n 0) 1 34 := ⟨by decide +kernel, rfl⟩
theorem aX7_toll_34 : At cX7_toll 34 (.getfield 19) 3 37 := ⟨by decide +kernel, rfl⟩
theorem aX7_toll_37 : At cX7_toll 37 (.getfield 124) 3 40 := ⟨by decide +kernel, rfl⟩
theorem aX7_toll_40 : At cX7_toll 40 (.iload_n 1) 1 41 := ⟨by decide +kernel, rfl⟩
theorem aX7_toll_41 : At cX7_toll 41 (.iload_n 2) 1 42 := ⟨by decide +kernel, rfl⟩
theorem aX7_toll_42 : At cX7_toll 42 .iastore 1 43 := ⟨by decide +kernel, rfl⟩
theorem aX7_toll_43 : At cX7_toll 43 (.iload_n 3) 1 44 := ⟨by decide +kernel, rfl⟩
theorem aX7_toll_44 : At cX7_toll 44 .ireturn 1 45 := ⟨by decide +kernel, rfl⟩
theorem aX7_weight_0 : At cX7_weight 0 (.aload_n 0) 1 1 := ⟨by decide +kernel, rfl⟩
theorem aX7_weight_1 : At cX7_weight 1 (.getfield 19) 3 4 := ⟨by decide +kernel, rfl⟩
theorem aX7_weight_4 : At cX7_weight 4 (.iload_n 1) 1 5 := ⟨by decide +kernel, rfl⟩
theorem aX7_weight_5 : At cX7_weight 5 (.invokevirtual 93) 3 8 := ⟨by decide +kernel, rfl⟩
theorem aX7_weight_8 : At cX7_weight 8 (.ifCond .ne 5) 3 11 := ⟨by decide +kernel, rfl⟩
theorem aX7_weight_11 : At cX7_weight 11 (.iconst (-1)) 1 12 := ⟨by decide +kernel, rfl⟩
theorem aX7_weight_12 : At cX7_weight 12 .ireturn 1 13 := ⟨by decide +kernel, rfl⟩
theorem aX7_weight_13 : At cX7_weight 13 (.iload_n 2) 1 14 := ⟨by decide +kernel, rfl⟩
theorem aX7_weight_14 : At cX7_weight 14 (.ifCond .lt 9) 3 17 := ⟨by decide +kernel, rfl⟩
theorem aX7_weight_17 : At cX7_weight 17 (.iload_n 2) 1 18 := ⟨by decide +kernel, rfl⟩
theorem aX7_weight_18 : At cX7_weight 18 (.bipush 99) 2 20 := ⟨by decide +kernel, rfl⟩
theorem aX7_weight_20 : At cX7_weight 20 (.if_icmp .le 6) 3 23 := ⟨by decide +kernel, rfl⟩
theorem aX7_weight_23 : At cX7_weight 23 (.bipush (-2)) 2 25 := ⟨by decide +kernel, rfl⟩
theorem aX7_weight_25 : At cX7_weight 25 .ireturn 1 26 := ⟨by decide +kernel, rfl⟩
theorem aX7_weight_26 : At cX7_weight 26 (.aload_n 0) 1 27 := ⟨by decide +kernel, rfl⟩
theorem aX7_weight_27 : At cX7_weight 27 (.getfield 19) 3 30 := ⟨by decide +kernel, rfl⟩
theorem aX7_weight_30 : At cX7_weight 30 (.getfield 211) 3 33 := ⟨by decide +kernel, rfl⟩
theorem aX7_weight_33 : At cX7_weight 33 (.iload_n 1) 1 34 := ⟨by decide +kernel, rfl⟩
theorem aX7_weight_34 : At cX7_weight 34 .iaload 1 35 := ⟨by decide +kernel, rfl⟩
theorem aX7_weight_35 : At cX7_weight 35 (.istore_n 3) 1 36 := ⟨by decide +kernel, rfl⟩
theorem aX7_weight_36 : At cX7_weight 36 (.aload_n 0) 1 37 := ⟨by decide +kernel, rfl⟩
theorem aX7_weight_37 : At cX7_weight 37 (.getfield 19) 3 40 := ⟨by decide +kernel, rfl⟩
theorem aX7_weight_40 : At cX7_weight 40 (.getfield 211) 3 43 := ⟨by decide +kernel, rfl⟩
theorem aX7_weight_43 : At cX7_weight 43 (.iload_n 1) 1 44 := ⟨by decide +kernel, rfl⟩
theorem aX7_weight_44 : At cX7_weight 44 (.iload_n 2) 1 45 := ⟨by decide +kernel, rfl⟩
theorem aX7_weight_45 : At cX7_weight 45 .iastore 1 46 := ⟨by decide +kernel, rfl⟩
theorem aX7_weight_46 : At cX7_weight 46 (.iload_n 3) 1 47 := ⟨by decide +kernel, rfl⟩
theorem aX7_weight_47 : At cX7_weight 47 .ireturn 1 48 := ⟨by decide +kernel, rfl⟩
theorem aX7_wipe_0 : At cX7_wipe 0 (.aload_n 0) 1 1 := ⟨by decide +kernel, rfl⟩
theorem aX7_wipe_1 : At cX7_wipe 1 (.getfield 10) 3 4 := ⟨by decide +kernel, rfl⟩
theorem aX7_wipe_4 : At cX7_wipe 4 (.getfield 69) 3 7 := ⟨by decide +kernel, rfl⟩
theorem aX7_wipe_7 : At cX7_wipe 7 (.istore_n 1) 1 8 := ⟨by decide +kernel, rfl⟩
theorem aX7_wipe_8 : At cX7_wipe 8 (.aload_n 0) 1 9 := ⟨by decide +kernel, rfl⟩
theorem aX7_wipe_9 : At cX7_wipe 9 (.getfield 10) 3 12 := ⟨by decide +kernel, rfl⟩
theorem aX7_wipe_12 : At cX7_wipe 12 (.invokevirtual 75) 3 15 := ⟨by decide +kernel, rfl⟩
theorem aX7_wipe_15 : At cX7_wipe 15 (.iload_n 1) 1 16 := ⟨by decide +kernel, rfl⟩
theorem aX7_wipe_16 : At cX7_wipe 16 .ireturn 1 17 := ⟨by decide +kernel, rfl⟩
theorem aX8_bits_0 : At cX8_bits 0 (.iconst 0) 1 1 := ⟨by decide +kernel, rfl⟩
theorem aX8_bits_1 : At cX8_bits 1 (.istore_n 1) 1 2 := ⟨by decide +kernel, rfl⟩
theorem aX8_bits_2 : At cX8_bits 2 (.iconst 0) 1 3 := ⟨by decide +kernel, rfl⟩
theorem aX8_bits_3 : At cX8_bits 3 (.istore_n 2) 1 4 := ⟨by decide +kernel, rfl⟩
theorem aX8_bits_4 : At cX8_bits 4 (.iload_n 2) 1 5 := ⟨by decide +kernel, rfl⟩
theorem aX8_bits_5 : At cX8_bits 5 (.bipush 12) 2 7 := ⟨by decide +kernel, rfl⟩
theorem aX8_bits_7 : At cX8_bits 7 (.if_icmp .ge 17) 3 10 := ⟨by decide +kernel, rfl⟩
theorem aX8_bits_10 : At cX8_bits 10 (.iload_n 1) 1 11 := ⟨by decide +kernel, rfl⟩
theorem aX8_bits_11 : At cX8_bits 11 (.iload_n 0) 1 12 := ⟨by decide +kernel, rfl⟩
theorem aX8_bits_12 : At cX8_bits 12 (.iload_n 2) 1 13 := ⟨by decide +kernel, rfl⟩
theorem aX8_bits_13 : At cX8_bits 13 .ishr 1 14 := ⟨by decide +kernel, rfl⟩
theorem aX8_bits_14 : At cX8_bits 14 (.iconst 1) 1 15 := ⟨by decide +kernel, rfl⟩
theorem aX8_bits_15 : At cX8_bits 15 .iand 1 16 := ⟨by decide +kernel, rfl⟩
theorem aX8_bits_16 : At cX8_bits 16 .iadd 1 17 := ⟨by decide +kernel, rfl⟩
theorem aX8_bits_17 : At cX8_bits 17 (.istore_n 1) 1 18 := ⟨by decide +kernel, rfl⟩
theorem aX8_bits_18 : At cX8_bits 18 (.iinc 2 1) 3 21 := ⟨by decide +kernel, rfl⟩
theorem aX8_bits_21 : At cX8_bits 21 (.goto (-17)) 3 24 := ⟨by decide +kernel, rfl⟩
theorem aX8_bits_24 : At cX8_bits 24 (.iload_n 1) 1 25 := ⟨by decide +kernel, rfl⟩
theorem aX8_bits_25 : At cX8_bits 25 .ireturn 1 26 := ⟨by decide +kernel, rfl⟩
theorem aX8_canSpan_0 : At cX8_canSpan 0 (.iconst 1) 1 1 := ⟨by decide +kernel, rfl⟩
theorem aX8_canSpan_1 : At cX8_canSpan 1 (.istore_n 1) 1 2 := ⟨by decide +kernel, rfl⟩
theorem aX8_canSpan_2 : At cX8_canSpan 2 (.iconst 0) 1 3 := ⟨by decide +kernel, rfl⟩
theorem aX8_canSpan_3 : At cX8_canSpan 3 (.istore_n 2) 1 4 := ⟨by decide +kernel, rfl⟩
theorem aX8_canSpan_4 : At cX8_canSpan 4 (.iload_n 2) 1 5 := ⟨by decide +kernel, rfl⟩
theorem aX8_canSpan_5 : At cX8_canSpan 5 (.aload_n 0) 1 6 := ⟨by decide +kernel, rfl⟩
theorem aX8_canSpan_6 : At cX8_canSpan 6 (.getfield 7) 3 9 := ⟨by decide +kernel, rfl⟩
theorem aX8_canSpan_9 : At cX8_canSpan 9 (.if_icmp .ge 34) 3 12 := ⟨by decide +kernel, rfl⟩
theorem aX8_canSpan_12 : At cX8_canSpan 12 (.iload_n 1) 1 13 := ⟨by decide +kernel, rfl⟩
theorem aX8_canSpan_13 : At cX8_canSpan 13 (.ifCond .eq 22) 3 16 := ⟨by decide +kernel, rfl⟩
theorem aX8_canSpan_16 : At cX8_canSpan 16 (.aload_n 0) 1 17 := ⟨by decide +kernel, rfl⟩
theorem aX8_canSpan_17 : At cX8_canSpan 17 (.getfield 64) 3 20 := ⟨by decide +kernel, rfl⟩
theorem aX8_canSpan_20 : At cX8_canSpan 20 (.iload_n 2) 1 21 := ⟨by decide +kernel, rfl⟩
theorem aX8_canSpan_21 : At cX8_canSpan 21 .iaload 1 22 := ⟨by decide +kernel, rfl⟩
theorem aX8_canSpan_22 : At cX8_canSpan 22 (.aload_n 0) 1 23 := ⟨by decide +kernel, rfl⟩
theorem aX8_canSpan_23 : At cX8_canSpan 23 (.getfield 67) 3 26 := ⟨by decide +kernel, rfl⟩
theorem aX8_canSpan_26 : At cX8_canSpan 26 (.iload_n 2) 1 27 := ⟨by decide +kernel, rfl⟩
theorem aX8_canSpan_27 : At cX8_canSpan 27 .iaload 1 28 := ⟨by decide +kernel, rfl⟩
theorem aX8_canSpan_28 : At cX8_canSpan 28 (.if_icmp .gt 7) 3 31 := ⟨by decide +kernel, rfl⟩
theorem aX8_canSpan_31 : At cX8_canSpan 31 (.iconst 1) 1 32 := ⟨by decide +kernel, rfl⟩
theorem aX8_canSpan_32 : At cX8_canSpan 32 (.goto 4) 3 35 := ⟨by decide +kernel, rfl⟩
theorem aX8_canSpan_35 : At cX8_canSpan 35 (.iconst 0) 1 36 := ⟨by decide +kernel, rfl⟩
theorem aX8_canSpan_36 : At cX8_canSpan 36 (.istore_n 1) 1 37 := ⟨by decide +kernel, rfl⟩
theorem aX8_canSpan_37 : At cX8_canSpan 37 (.iinc 2 1) 3 40 := ⟨by decide +kernel, rfl⟩
theorem aX8_canSpan_40 : At cX8_canSpan 40 (.goto (-36)) 3 43 := ⟨by decide +kernel, rfl⟩
theorem aX8_canSpan_43 : At cX8_canSpan 43 (.iload_n 1) 1 44 := ⟨by decide +kernel, rfl⟩
theorem aX8_canSpan_44 : At cX8_canSpan 44 .ireturn 1 45 := ⟨by decide +kernel, rfl⟩
theorem aX8_clear_0 : At cX8_clear 0 (.iconst 0) 1 1 := ⟨by decide +kernel, rfl⟩
theorem aX8_clear_1 : At cX8_clear 1 (.istore_n 1) 1 2 := ⟨by decide +kernel, rfl⟩
theorem aX8_clear_2 : At cX8_clear 2 (.iload_n 1) 1 3 := ⟨by decide +kernel, rfl⟩
theorem aX8_clear_3 : At cX8_clear 3 (.bipush 36) 2 5 := ⟨by decide +kernel, rfl⟩
theorem aX8_clear_5 : At cX8_clear 5 (.if_icmp .ge 38) 3 8 := ⟨by decide +kernel, rfl⟩
theorem aX8_clear_8 : At cX8_clear 8 (.aload_n 0) 1 9 := ⟨by decide +kernel, rfl⟩
theorem aX8_clear_9 : At cX8_clear 9 (.getfield 35) 3 12 := ⟨by decide +kernel, rfl⟩
theorem aX8_clear_12 : At cX8_clear 12 (.iload_n 1) 1 13 := ⟨by decide +kernel, rfl⟩
theorem aX8_clear_13 : At cX8_clear 13 (.iconst 0) 1 14 := ⟨by decide +kernel, rfl⟩
theorem aX8_clear_14 : At cX8_clear 14 .bastore 1 15 := ⟨by decide +kernel, rfl⟩
theorem aX8_clear_15 : At cX8_clear 15 (.aload_n 0) 1 16 := ⟨by decide +kernel, rfl⟩
theorem aX8_clear_16 : At cX8_clear 16 (.getfield 39) 3 19 := ⟨by decide +kernel, rfl⟩
theorem aX8_clear_19 : At cX8_clear 19 (.iload_n 1) 1 20 := ⟨by decide +kernel, rfl⟩
theorem aX8_clear_20 : At cX8_clear 20 (.iload_n 1) 1 21 := ⟨by decide +kernel, rfl⟩
theorem aX8_clear_21 : At cX8_clear 21 (.bipush 6) 2 23 := ⟨by decide +kernel, rfl⟩
theorem aX8_clear_23 : At cX8_clear 23 .idiv 1 24 := ⟨by decide +kernel, rfl⟩
theorem aX8_clear_24 : At cX8_clear 24 (.iload_n 1) 1 25 := ⟨by decide +kernel, rfl⟩
theorem aX8_clear_25 : At cX8_clear 25 (.bipush 6) 2 27 := ⟨by decide +kernel, rfl⟩
theorem aX8_clear_27 : At cX8_clear 27 .irem 1 28 := ⟨by decide +kernel, rfl⟩
theorem aX8_clear_28 : At cX8_clear 28 (.if_icmp .ne 7) 3 31 := ⟨by decide +kernel, rfl⟩
theorem aX8_clear_31 : At cX8_clear 31 (.iconst 1) 1 32 := ⟨by decide +kernel, rfl⟩
theorem aX8_clear_32 : At cX8_clear 32 (.goto 4) 3 35 := ⟨by decide +kernel, rfl⟩
theorem aX8_clear_35 : At cX8_clear 35 (.iconst 0) 1 36 := ⟨by decide +kernel, rfl⟩
theorem aX8_clear_36 : At cX8_clear 36 .bastore 1 37 := ⟨by decide +kernel, rfl⟩
theorem aX8_clear_37 : At cX8_clear 37 (.iinc 1 1) 3 40 := ⟨by decide +kernel, rfl⟩
theorem aX8_clear_40 : At cX8_clear 40 (.goto (-38)) 3 43 := ⟨by decide +kernel, rfl⟩
theorem aX8_clear_43 : At cX8_clear 43 .return_ 1 44 := ⟨by decide +kernel, rfl⟩
theorem aX8_close_0 : At cX8_close 0 (.iconst 0) 1 1 := ⟨by decide +kernel, rfl⟩
theorem aX8_close_1 : At cX8_close 1 (.istore_n 1) 1 2 := ⟨by decide +kernel, rfl⟩
theorem aX8_close_2 : At cX8_close 2 (.iload_n 1) 1 3 := ⟨by decide +kernel, rfl⟩
theorem aX8_close_3 : At cX8_close 3 (.bipush 6) 2 5 := ⟨by decide +kernel, rfl⟩
theorem aX8_close_5 : At cX8_close 5 (.if_icmp .ge 95) 3 8 := ⟨by decide +kernel, rfl⟩
theorem aX8_close_8 : At cX8_close 8 (.iconst 0) 1 9 := ⟨by decide +kernel, rfl⟩
theorem aX8_close_9 : At cX8_close 9 (.istore_n 2) 1 10 := ⟨by decide +kernel, rfl⟩
theorem aX8_close_10 : At cX8_close 10 (.iload_n 2) 1 11 := ⟨by decide +kernel, rfl⟩
theorem aX8_close_11 : At cX8_close 11 (.bipush 6) 2 13 := ⟨by decide +kernel, rfl⟩
theorem aX8_close_13 : At cX8_close 13 (.if_icmp .ge 81) 3 16 := ⟨by decide +kernel, rfl⟩
theorem aX8_close_16 : At cX8_close 16 (.iconst 0) 1 17 := ⟨by decide +kernel, rfl⟩
theorem aX8_close_17 : At cX8_close 17 (.istore_n 3) 1 18 := ⟨by decide +kernel, rfl⟩
theorem aX8_close_18 : At cX8_close 18 (.iload_n 3) 1 19 := ⟨by decide +kernel, rfl⟩
theorem aX8_close_19 : At cX8_close 19 (.bipush 6) 2 21 := ⟨by decide +kernel, rfl⟩
theorem aX8_close_21 : At cX8_close 21 (.if_icmp .ge 67) 3 24 := ⟨by decide +kernel, rfl⟩
theorem aX8_close_24 : At cX8_close 24 (.aload_n 0) 1 25 := ⟨by decide +kernel, rfl⟩
theorem aX8_close_25 : At cX8_close 25 (.getfield 39) 3 28 := ⟨by decide +kernel, rfl⟩
theorem aX8_close_28 : At cX8_close 28 (.bipush 6) 2 30 := ⟨by decide +kernel, rfl⟩
theorem aX8_close_30 : At cX8_close 30 (.iload_n 2) 1 31 := ⟨by decide +kernel, rfl⟩
theorem aX8_close_31 : At cX8_close 31 .imul 1 32 := ⟨by decide +kernel, rfl⟩
theorem aX8_close_32 : At cX8_close 32 (.iload_n 3) 1 33 := ⟨by decide +kernel, rfl⟩
theorem aX8_close_33 : At cX8_close 33 .iadd 1 34 := ⟨by decide +kernel, rfl⟩
theorem aX8_close_34 : At cX8_close 34 (.aload_n 0) 1 35 := ⟨by decide +kernel, rfl⟩
theorem aX8_close_35 : At cX8_close 35 (.getfield 39) 3 38 := ⟨by decide +kernel, rfl⟩
theorem aX8_close_38 : At cX8_close 38 (.bipush 6) 2 40 := ⟨by decide +kernel, rfl⟩
theorem aX8_close_40 : At cX8_close 40 (.iload_n 2) 1 41 := ⟨by decide +kernel, rfl⟩
theorem aX8_close_41 : At cX8_close 41 .imul 1 42 := ⟨by decide +kernel, rfl⟩
theorem aX8_close_42 : At cX8_close 42 (.iload_n 3) 1 43 := ⟨by decide +kernel, rfl⟩
theorem aX8_close_43 : At cX8_close 43 .iadd 1 44 := ⟨by decide +kernel, rfl⟩
theorem aX8_close_44 : At cX8_close 44 .baload 1 45 := ⟨by decide +kernel, rfl⟩
theorem aX8_close_45 : At cX8_close 45 (.ifCond .ne 31) 3 48 := ⟨by decide +kernel, rfl⟩
theorem aX8_close_48 : At cX8_close 48 (.aload_n 0) 1 49 := ⟨by decide +kernel, rfl⟩
theorem aX8_close_49 : At cX8_close 49 (.getfield 39) 3 52 := ⟨by decide +kernel, rfl⟩
theorem aX8_close_52 : At cX8_close 52 (.bipush 6) 2 54 := ⟨by decide +kernel, rfl⟩
theorem aX8_close_54 : At cX8_close 54 (.iload_n 2) 1 55 := ⟨by decide +kernel, rfl⟩
theorem aX8_close_55 : At cX8_close 55 .imul 1 56 := ⟨by decide +kernel, rfl⟩
theorem aX8_close_56 : At cX8_close 56 (.iload_n 1) 1 57 := ⟨by decide +kernel, rfl⟩
theorem aX8_close_57 : At cX8_close 57 .iadd 1 58 := ⟨by decide +kernel, rfl⟩
theorem aX8_close_58 : At cX8_close 58 .baload 1 59 := ⟨by decide +kernel, rfl⟩
theorem aX8_close_59 : At cX8_close 59 (.ifCond .eq 21) 3 62 := ⟨by decide +kernel, rfl⟩
theorem aX8_close_62 : At cX8_close 62 (.aload_n 0) 1 63 := ⟨by decide +kernel, rfl⟩
theorem aX8_close_63 : At cX8_close 63 (.getfield 39) 3 66 := ⟨by decide +kernel, rfl⟩
theorem aX8_close_66 : At cX8_close 66 (.bipush 6) 2 68 := ⟨by decide +kernel, rfl⟩
theorem aX8_close_68 : At cX8_close 68 (.iload_n 1) 1 69 := ⟨by decide +kernel, rfl⟩
theorem aX8_close_69 : At cX8_close 69 .imul 1 70 := ⟨by decide +kernel, rfl⟩
theorem aX8_close_70 : At cX8_close 70 (.iload_n 3) 1 71 := ⟨by decide +kernel, rfl⟩
theorem aX8_close_71 : At cX8_close 71 .iadd 1 72 := ⟨by decide +kernel, rfl⟩
theorem aX8_close_72 : At cX8_close 72 .baload 1 73 := ⟨by decide +kernel, rfl⟩
theorem aX8_close_73 : At cX8_close 73 (.ifCond .eq 7) 3 76 := ⟨by decide +kernel, rfl⟩
theorem aX8_close_76 : At cX8_close 76 (.iconst 1) 1 77 := ⟨by decide +kernel, rfl⟩
theorem aX8_close_77 : At cX8_close 77 (.goto 4) 3 80 := ⟨by decide +kernel, rfl⟩
theorem aX8_close_80 : At cX8_close 80 (.iconst 0) 1 81 := ⟨by decide +kernel, rfl⟩
theorem aX8_close_81 : At cX8_close 81 .bastore 1 82 := ⟨by decide +kernel, rfl⟩
theorem aX8_close_82 : At cX8_close 82 (.iinc 3 1) 3 85 := ⟨by decide +kernel, rfl⟩
theorem aX8_close_85 : At cX8_close 85 (.goto (-67)) 3 88 := ⟨by decide +kernel, rfl⟩
theorem aX8_close_88 : At cX8_close 88 (.iinc 2 1) 3 91 := ⟨by decide +kernel, rfl⟩
theorem aX8_close_91 : At cX8_close 91 (.goto (-81)) 3 94 := ⟨by decide +kernel, rfl⟩
theorem aX8_close_94 : At cX8_close 94 (.iinc 1 1) 3 97 := ⟨by decide +kernel, rfl⟩
theorem aX8_close_97 : At cX8_close 97 (.goto (-95)) 3 100 := ⟨by decide +kernel, rfl⟩
theorem aX8_close_100 : At cX8_close 100 (.iconst 0) 1 101 := ⟨by decide +kernel, rfl⟩
theorem aX8_close_101 : At cX8_close 101 (.istore_n 1) 1 102 := ⟨by decide +kernel, rfl⟩
theorem aX8_close_102 : At cX8_close 102 (.iload_n 1) 1 103 := ⟨by decide +kernel, rfl⟩
theorem aX8_close_103 : At cX8_close 103 (.bipush 6) 2 105 := ⟨by decide +kernel, rfl⟩
theorem aX8_close_105 : At cX8_close 105 (.if_icmp .ge 95) 3 108 := ⟨by decide +kernel, rfl⟩
theorem aX8_close_108 : At cX8_close 108 (.iconst 0) 1 109 := ⟨by decide +kernel, rfl⟩
theorem aX8_close_109 : At cX8_close 109 (.istore_n 2) 1 110 := ⟨by decide +kernel, rfl⟩
theorem aX8_close_110 : At cX8_close 110 (.iload_n 2) 1 111 := ⟨by decide +kernel, rfl⟩
theorem aX8_close_111 : At cX8_close 111 (.bipush 6) 2 113 := ⟨by decide +kernel, rfl⟩
theorem aX8_close_113 : At cX8_close 113 (.if_icmp .ge 81) 3 116 := ⟨by decide +kernel, rfl⟩
theorem aX8_close_116 : At cX8_close 116 (.iconst 0) 1 117 := ⟨by decide +kernel, rfl⟩
theorem aX8_close_117 : At cX8_close 117 (.istore_n 3) 1 118 := ⟨by decide +kernel, rfl⟩
theorem aX8_close_118 : At cX8_close 118 (.iload_n 3) 1 119 := ⟨by decide +kernel, rfl⟩
theorem aX8_close_119 : At cX8_close 119 (.bipush 6) 2 121 := ⟨by decide +kernel, rfl⟩
theorem aX8_close_121 : At cX8_close 121 (.if_icmp .ge 67) 3 124 := ⟨by decide +kernel, rfl⟩
theorem aX8_close_124 : At cX8_close 124 (.aload_n 0) 1 125 := ⟨by decide +kernel, rfl⟩
theorem aX8_close_125 : At cX8_close 125 (.getfield 35) 3 128 := ⟨by decide +kernel, rfl⟩
theorem aX8_close_128 : At cX8_close 128 (.bipush 6) 2 130 := ⟨by decide +kernel, rfl⟩
theorem aX8_close_130 : At cX8_close 130 (.iload_n 2) 1 131 := ⟨by decide +kernel, rfl⟩
theorem aX8_close_131 : At cX8_close 131 .imul 1 132 := ⟨by decide +kernel, rfl⟩
theorem aX8_close_132 : At cX8_close 132 (.iload_n 3) 1 133 := ⟨by decide +kernel, rfl⟩
theorem aX8_close_133 : At cX8_close 133 .iadd 1 134 := ⟨by decide +kernel, rfl⟩
theorem aX8_close_134 : At cX8_close 134 (.aload_n 0) 1 135 := ⟨by decide +kernel, rfl⟩
theorem aX8_close_135 : At cX8_close 135 (.getfield 35) 3 138 := ⟨by decide +kernel, rfl⟩
theorem aX8_close_138 : At cX8_close 138 (.bipush 6) 2 140 := ⟨by decide +kernel, rfl⟩
theorem aX8_close_140 : At cX8_close 140 (.iload_n 2) 1 141 := ⟨by decide +kernel, rfl⟩
theorem aX8_close_141 : At cX8_close 141 .imul 1 142 := ⟨by decide +kernel, rfl⟩
theorem aX8_close_142 : At cX8_close 142 (.iload_n 3) 1 143 := ⟨by decide +kernel, rfl⟩
theorem aX8_close_143 : At cX8_close 143 .iadd 1 144 := ⟨by decide +kernel, rfl⟩
theorem aX8_close_144 : At cX8_close 144 .baload 1 145 := ⟨by decide +kernel, rfl⟩
theorem aX8_close_145 : At cX8_close 145 (.ifCond .ne 31) 3 148 := ⟨by decide +kernel, rfl⟩
theorem aX8_close_148 : At cX8_close 148 (.aload_n 0) 1 149 := ⟨by decide +kernel, rfl⟩
theorem aX8_close_149 : At cX8_close 149 (.getfield 39) 3 152 := ⟨by decide +kernel, rfl⟩
theorem aX8_close_152 : At cX8_close 152 (.bipush 6) 2 154 := ⟨by decide +kernel, rfl⟩
theorem aX8_close_154 : At cX8_close 154 (.iload_n 2) 1 155 := ⟨by decide +kernel, rfl⟩
theorem aX8_close_155 : At cX8_close 155 .imul 1 156 := ⟨by decide +kernel, rfl⟩
theorem aX8_close_156 : At cX8_close 156 (.iload_n 1) 1 157 := ⟨by decide +kernel, rfl⟩
theorem aX8_close_157 : At cX8_close 157 .iadd 1 158 := ⟨by decide +kernel, rfl⟩
theorem aX8_close_158 : At cX8_close 158 .baload 1 159 := ⟨by decide +kernel, rfl⟩
theorem aX8_close_159 : At cX8_close 159 (.ifCond .eq 21) 3 162 := ⟨by decide +kernel, rfl⟩
theorem aX8_close_162 : At cX8_close 162 (.aload_n 0) 1 163 := ⟨by decide +kernel, rfl⟩
theorem aX8_close_163 : At cX8_close 163 (.getfield 35) 3 166 := ⟨by decide +kernel, rfl⟩
theorem aX8_close_166 : At cX8_close 166 (.bipush 6) 2 168 := ⟨by decide +kernel, rfl⟩
theorem aX8_close_168 : At cX8_close 168 (.iload_n 1) 1 169 := ⟨by decide +kernel, rfl⟩
theorem aX8_close_169 : At cX8_close 169 .imul 1 170 := ⟨by decide +kernel, rfl⟩
theorem aX8_close_170 : At cX8_close 170 (.iload_n 3) 1 171 := ⟨by decide +kernel, rfl⟩
theorem aX8_close_171 : At cX8_close 171 .iadd 1 172 := ⟨by decide +kernel, rfl⟩
theorem aX8_close_172 : At cX8_close 172 .baload 1 173 := ⟨by decide +kernel, rfl⟩
theorem aX8_close_173 : At cX8_close 173 (.ifCond .eq 7) 3 176 := ⟨by decide +kernel, rfl⟩
theorem aX8_close_176 : At cX8_close 176 (.iconst 1) 1 177 := ⟨by decide +kernel, rfl⟩
theorem aX8_close_177 : At cX8_close 177 (.goto 4) 3 180 := ⟨by decide +kernel, rfl⟩
theorem aX8_close_180 : At cX8_close 180 (.iconst 0) 1 181 := ⟨by decide +kernel, rfl⟩
theorem aX8_close_181 : At cX8_close 181 .bastore 1 182 := ⟨by decide +kernel, rfl⟩
theorem aX8_close_182 : At cX8_close 182 (.iinc 3 1) 3 185 := ⟨by decide +kernel, rfl⟩
theorem aX8_close_185 : At cX8_close 185 (.goto (-67)) 3 188 := ⟨by decide +kernel, rfl⟩
theorem aX8_close_188 : At cX8_close 188 (.iinc 2 1) 3 191 := ⟨by decide +kernel, rfl⟩
theorem aX8_close_191 : At cX8_close 191 (.goto (-81)) 3 194 := ⟨by decide +kernel, rfl⟩
theorem aX8_close_194 : At cX8_close 194 (.iinc 1 1) 3 197 := ⟨by decide +kernel, rfl⟩
theorem aX8_close_197 : At cX8_close 197 (.goto (-95)) 3 200 := ⟨by decide +kernel, rfl⟩
theorem aX8_close_200 : At cX8_close 200 (.iconst 0) 1 201 := ⟨by decide +kernel, rfl⟩
theorem aX8_close_201 : At cX8_close 201 (.istore_n 1) 1 202 := ⟨by decide +kernel, rfl⟩
theorem aX8_close_202 : At cX8_close 202 (.iload_n 1) 1 203 := ⟨by decide +kernel, rfl⟩
theorem aX8_close_203 : At cX8_close 203 (.bipush 6) 2 205 := ⟨by decide +kernel, rfl⟩
theorem aX8_close_205 : At cX8_close 205 (.if_icmp .ge 95) 3 208 := ⟨by decide +kernel, rfl⟩
theorem aX8_close_208 : At cX8_close 208 (.iconst 0) 1 209 := ⟨by decide +kernel, rfl⟩
theorem aX8_close_209 : At cX8_close 209 (.istore_n 2) 1 210 := ⟨by decide +kernel, rfl⟩
theorem aX8_close_210 : At cX8_close 210 (.iload_n 2) 1 211 := ⟨by decide +kernel, rfl⟩
theorem aX8_close_211 : At cX8_close 211 (.bipush 6) 2 213 := ⟨by decide +kernel, rfl⟩
theorem aX8_close_213 : At cX8_close 213 (.if_icmp .ge 81) 3 216 := ⟨by decide +kernel, rfl⟩
theorem aX8_close_216 : At cX8_close 216 (.iconst 0) 1 217 := ⟨by decide +kernel, rfl⟩
theorem aX8_close_217 : At cX8_close 217 (.istore_n 3) 1 218 := ⟨by decide +kernel, rfl⟩
theorem aX8_close_218 : At cX8_close 218 (.iload_n 3) 1 219 := ⟨by decide +kernel, rfl⟩
theorem aX8_close_219 : At cX8_close 219 (.bipush 6) 2 221 := ⟨by decide +kernel, rfl⟩
theorem aX8_close_221 : At cX8_close 221 (.if_icmp .ge 67) 3 224 := ⟨by decide +kernel, rfl⟩
theorem aX8_close_224 : At cX8_close 224 (.aload_n 0) 1 225 := ⟨by decide +kernel, rfl⟩
theorem aX8_close_225 : At cX8_close 225 (.getfield 35) 3 228 := ⟨by decide +kernel, rfl⟩
theorem aX8_close_228 : At cX8_close 228 (.bipush 6) 2 230 := ⟨by decide +kernel, rfl⟩
theorem aX8_close_230 : At cX8_close 230 (.iload_n 2) 1 231 := ⟨by decide +kernel, rfl⟩
theorem aX8_close_231 : At cX8_close 231 .imul 1 232 := ⟨by decide +kernel, rfl⟩
theorem aX8_close_232 : At cX8_close 232 (.iload_n 3) 1 233 := ⟨by decide +kernel, rfl⟩
theorem aX8_close_233 : At cX8_close 233 .iadd 1 234 := ⟨by decide +kernel, rfl⟩
theorem aX8_close_234 : At cX8_close 234 (.aload_n 0) 1 235 := ⟨by decide +kernel, rfl⟩
theorem aX8_close_235 : At cX8_close 235 (.getfield 35) 3 238 := ⟨by decide +kernel, rfl⟩
theorem aX8_close_238 : At cX8_close 238 (.bipush 6) 2 240 := ⟨by decide +kernel, rfl⟩
theorem aX8_close_240 : At cX8_close 240 (.iload_n 2) 1 241 := ⟨by decide +kernel, rfl⟩
theorem aX8_close_241 : At cX8_close 241 .imul 1 242 := ⟨by decide +kernel, rfl⟩
theorem aX8_close_242 : At cX8_close 242 (.iload_n 3) 1 243 := ⟨by decide +kernel, rfl⟩
theorem aX8_close_243 : At cX8_close 243 .iadd 1 244 := ⟨by decide +kernel, rfl⟩
theorem aX8_close_244 : At cX8_close 244 .baload 1 245 := ⟨by decide +kernel, rfl⟩
theorem aX8_close_245 : At cX8_close 245 (.ifCond .ne 31) 3 248 := ⟨by decide +kernel, rfl⟩
theorem aX8_close_248 : At cX8_close 248 (.aload_n 0) 1 249 := ⟨by decide +kernel, rfl⟩
theorem aX8_close_249 : At cX8_close 249 (.getfield 35) 3 252 := ⟨by decide +kernel, rfl⟩
theorem aX8_close_252 : At cX8_close 252 (.bipush 6) 2 254 := ⟨by decide +kernel, rfl⟩
theorem aX8_close_254 : At cX8_close 254 (.iload_n 2) 1 255 := ⟨by decide +kernel, rfl⟩
theorem aX8_close_255 : At cX8_close 255 .imul 1 256 := ⟨by decide +kernel, rfl⟩
theorem aX8_close_256 : At cX8_close 256 (.iload_n 1) 1 257 := ⟨by decide +kernel, rfl⟩
theorem aX8_close_257 : At cX8_close 257 .iadd 1 258 := ⟨by decide +kernel, rfl⟩
theorem aX8_close_258 : At cX8_close 258 .baload 1 259 := ⟨by decide +kernel, rfl⟩
theorem aX8_close_259 : At cX8_close 259 (.ifCond .eq 21) 3 262 := ⟨by decide +kernel, rfl⟩
theorem aX8_close_262 : At cX8_close 262 (.aload_n 0) 1 263 := ⟨by decide +kernel, rfl⟩
theorem aX8_close_263 : At cX8_close 263 (.getfield 39) 3 266 := ⟨by decide +kernel, rfl⟩
theorem aX8_close_266 : At cX8_close 266 (.bipush 6) 2 268 := ⟨by decide +kernel, rfl⟩
theorem aX8_close_268 : At cX8_close 268 (.iload_n 1) 1 269 := ⟨by decide +kernel, rfl⟩
theorem aX8_close_269 : At cX8_close 269 .imul 1 270 := ⟨by decide +kernel, rfl⟩
theorem aX8_close_270 : At cX8_close 270 (.iload_n 3) 1 271 := ⟨by decide +kernel, rfl⟩
theorem aX8_close_271 : At cX8_close 271 .iadd 1 272 := ⟨by decide +kernel, rfl⟩
theorem aX8_close_272 : At cX8_close 272 .baload 1 273 := ⟨by decide +kernel, rfl⟩
theorem aX8_close_273 : At cX8_close 273 (.ifCond .eq 7) 3 276 := ⟨by decide +kernel, rfl⟩
theorem aX8_close_276 : At cX8_close 276 (.iconst 1) 1 277 := ⟨by decide +kernel, rfl⟩
theorem aX8_close_277 : At cX8_close 277 (.goto 4) 3 280 := ⟨by decide +kernel, rfl⟩
theorem aX8_close_280 : At cX8_close 280 (.iconst 0) 1 281 := ⟨by decide +kernel, rfl⟩
theorem aX8_close_281 : At cX8_close 281 .bastore 1 282 := ⟨by decide +kernel, rfl⟩
theorem aX8_close_282 : At cX8_close 282 (.iinc 3 1) 3 285 := ⟨by decide +kernel, rfl⟩
theorem aX8_close_285 : At cX8_close 285 (.goto (-67)) 3 288 := ⟨by decide +kernel, rfl⟩
theorem aX8_close_288 : At cX8_close 288 (.iinc 2 1) 3 291 := ⟨by decide +kernel, rfl⟩
theorem aX8_close_291 : At cX8_close 291 (.goto (-81)) 3 294 := ⟨by decide +kernel, rfl⟩
theorem aX8_close_294 : At cX8_close 294 (.iinc 1 1) 3 297 := ⟨by decide +kernel, rfl⟩
theorem aX8_close_297 : At cX8_close 297 (.goto (-95)) 3 300 := ⟨by decide +kernel, rfl⟩
theorem aX8_close_300 : At cX8_close 300 (.iconst 0) 1 301 := ⟨by decide +kernel, rfl⟩
theorem aX8_close_301 : At cX8_close 301 (.istore_n 1) 1 302 := ⟨by decide +kernel, rfl⟩
theorem aX8_close_302 : At cX8_close 302 (.iload_n 1) 1 303 := ⟨by decide +kernel, rfl⟩
theorem aX8_close_303 : At cX8_close 303 (.bipush 6) 2 305 := ⟨by decide +kernel, rfl⟩
theorem aX8_close_305 : At cX8_close 305 (.if_icmp .ge 95) 3 308 := ⟨by decide +kernel, rfl⟩
theorem aX8_close_308 : At cX8_close 308 (.iconst 0) 1 309 := ⟨by decide +kernel, rfl⟩
theorem aX8_close_309 : At cX8_close 309 (.istore_n 2) 1 310 := ⟨by decide +kernel, rfl⟩
theorem aX8_close_310 : At cX8_close 310 (.iload_n 2) 1 311 := ⟨by decide +kernel, rfl⟩
theorem aX8_close_311 : At cX8_close 311 (.bipush 6) 2 313 := ⟨by decide +kernel, rfl⟩
theorem aX8_close_313 : At cX8_close 313 (.if_icmp .ge 81) 3 316 := ⟨by decide +kernel, rfl⟩
theorem aX8_close_316 : At cX8_close 316 (.iconst 0) 1 317 := ⟨by decide +kernel, rfl⟩
theorem aX8_close_317 : At cX8_close 317 (.istore_n 3) 1 318 := ⟨by decide +kernel, rfl⟩
theorem aX8_close_318 : At cX8_close 318 (.iload_n 3) 1 319 := ⟨by decide +kernel, rfl⟩
theorem aX8_close_319 : At cX8_close 319 (.bipush 6) 2 321 := ⟨by decide +kernel, rfl⟩
theorem aX8_close_321 : At cX8_close 321 (.if_icmp .ge 67) 3 324 := ⟨by decide +kernel, rfl⟩
theorem aX8_close_324 : At cX8_close 324 (.aload_n 0) 1 325 := ⟨by decide +kernel, rfl⟩
theorem aX8_close_325 : At cX8_close 325 (.getfield 35) 3 328 := ⟨by decide +kernel, rfl⟩
theorem aX8_close_328 : At cX8_close 328 (.bipush 6) 2 330 := ⟨by decide +kernel, rfl⟩
theorem aX8_close_330 : At cX8_close 330 (.iload_n 2) 1 331 := ⟨by decide +kernel, rfl⟩
theorem aX8_close_331 : At cX8_close 331 .imul 1 332 := ⟨by decide +kernel, rfl⟩
theorem aX8_close_332 : At cX8_close 332 (.iload_n 3) 1 333 := ⟨by decide +kernel, rfl⟩
theorem aX8_close_333 : At cX8_close 333 .iadd 1 334 := ⟨by decide +kernel, rfl⟩
theorem aX8_close_334 : At cX8_close 334 (.aload_n 0) 1 335 := ⟨by decide +kernel, rfl⟩
theorem aX8_close_335 : At cX8_close 335 (.getfield 35) 3 338 := ⟨by decide +kernel, rfl⟩
theorem aX8_close_338 : At cX8_close 338 (.bipush 6) 2 340 := ⟨by decide +kernel, rfl⟩
theorem aX8_close_340 : At cX8_close 340 (.iload_n 2) 1 341 := ⟨by decide +kernel, rfl⟩
theorem aX8_close_341 : At cX8_close 341 .imul 1 342 := ⟨by decide +kernel, rfl⟩
theorem aX8_close_342 : At cX8_close 342 (.iload_n 3) 1 343 := ⟨by decide +kernel, rfl⟩
theorem aX8_close_343 : At cX8_close 343 .iadd 1 344 := ⟨by decide +kernel, rfl⟩
theorem aX8_close_344 : At cX8_close 344 .baload 1 345 := ⟨by decide +kernel, rfl⟩
theorem aX8_close_345 : At cX8_close 345 (.ifCond .ne 31) 3 348 := ⟨by decide +kernel, rfl⟩
theorem aX8_close_348 : At cX8_close 348 (.aload_n 0) 1 349 := ⟨by decide +kernel, rfl⟩
theorem aX8_close_349 : At cX8_close 349 (.getfield 35) 3 352 := ⟨by decide +kernel, rfl⟩
theorem aX8_close_352 : At cX8_close 352 (.bipush 6) 2 354 := ⟨by decide +kernel, rfl⟩
theorem aX8_close_354 : At cX8_close 354 (.iload_n 2) 1 355 := ⟨by decide +kernel, rfl⟩
theorem aX8_close_355 : At cX8_close 355 .imul 1 356 := ⟨by decide +kernel, rfl⟩
theorem aX8_close_356 : At cX8_close 356 (.iload_n 1) 1 357 := ⟨by decide +kernel, rfl⟩
theorem aX8_close_357 : At cX8_close 357 .iadd 1 358 := ⟨by decide +kernel, rfl⟩
theorem aX8_close_358 : At cX8_close 358 .baload 1 359 := ⟨by decide +kernel, rfl⟩
theorem aX8_close_359 : At cX8_close 359 (.ifCond .eq 21) 3 362 := ⟨by decide +kernel, rfl⟩
theorem aX8_close_362 : At cX8_close 362 (.aload_n 0) 1 363 := ⟨by decide +kernel, rfl⟩
theorem aX8_close_363 : At cX8_close 363 (.getfield 35) 3 366 := ⟨by decide +kernel, rfl⟩
theorem aX8_close_366 : At cX8_close 366 (.bipush 6) 2 368 := ⟨by decide +kernel, rfl⟩
theorem aX8_close_368 : At cX8_close 368 (.iload_n 1) 1 369 := ⟨by decide +kernel, rfl⟩
theorem aX8_close_369 : At cX8_close 369 .imul 1 370 := ⟨by decide +kernel, rfl⟩
theorem aX8_close_370 : At cX8_close 370 (.iload_n 3) 1 371 := ⟨by decide +kernel, rfl⟩
theorem aX8_close_371 : At cX8_close 371 .iadd 1 372 := ⟨by decide +kernel, rfl⟩
theorem aX8_close_372 : At cX8_close 372 .baload 1 373 := ⟨by decide +kernel, rfl⟩
theorem aX8_close_373 : At cX8_close 373 (.ifCond .eq 7) 3 376 := ⟨by decide +kernel, rfl⟩
theorem aX8_close_376 : At cX8_close 376 (.iconst 1) 1 377 := ⟨by decide +kernel, rfl⟩
theorem aX8_close_377 : At cX8_close 377 (.goto 4) 3 380 := ⟨by decide +kernel, rfl⟩
theorem aX8_close_380 : At cX8_close 380 (.iconst 0) 1 381 := ⟨by decide +kernel, rfl⟩
theorem aX8_close_381 : At cX8_close 381 .bastore 1 382 := ⟨by decide +kernel, rfl⟩
theorem aX8_close_382 : At cX8_close 382 (.iinc 3 1) 3 385 := ⟨by decide +kernel, rfl⟩
theorem aX8_close_385 : At cX8_close 385 (.goto (-67)) 3 388 := ⟨by decide +kernel, rfl⟩
theorem aX8_close_388 : At cX8_close 388 (.iinc 2 1) 3 391 := ⟨by decide +kernel, rfl⟩
theorem aX8_close_391 : At cX8_close 391 (.goto (-81)) 3 394 := ⟨by decide +kernel, rfl⟩
theorem aX8_close_394 : At cX8_close 394 (.iinc 1 1) 3 397 := ⟨by decide +kernel, rfl⟩
theorem aX8_close_397 : At cX8_close 397 (.goto (-95)) 3 400 := ⟨by decide +kernel, rfl⟩
theorem aX8_close_400 : At cX8_close 400 (.iconst 1) 1 401 := ⟨by decide +kernel, rfl⟩
theorem aX8_close_401 : At cX8_close 401 (.istore_n 1) 1 402 := ⟨by decide +kernel, rfl⟩
theorem aX8_close_402 : At cX8_close 402 (.iconst 0) 1 403 := ⟨by decide +kernel, rfl⟩
theorem aX8_close_403 : At cX8_close 403 (.istore_n 2) 1 404 := ⟨by decide +kernel, rfl⟩
theorem aX8_close_404 : At cX8_close 404 (.iload_n 2) 1 405 := ⟨by decide +kernel, rfl⟩
theorem aX8_close_405 : At cX8_close 405 (.bipush 6) 2 407 := ⟨by decide +kernel, rfl⟩
theorem aX8_close_407 : At cX8_close 407 (.if_icmp .ge 31) 3 410 := ⟨by decide +kernel, rfl⟩
theorem aX8_close_410 : At cX8_close 410 (.iload_n 1) 1 411 := ⟨by decide +kernel, rfl⟩
theorem aX8_close_411 : At cX8_close 411 (.ifCond .eq 19) 3 414 := ⟨by decide +kernel, rfl⟩
theorem aX8_close_414 : At cX8_close 414 (.aload_n 0) 1 415 := ⟨by decide +kernel, rfl⟩
theorem aX8_close_415 : At cX8_close 415 (.getfield 35) 3 418 := ⟨by decide +kernel, rfl⟩
theorem aX8_close_418 : At cX8_close 418 (.bipush 7) 2 420 := ⟨by decide +kernel, rfl⟩
theorem aX8_close_420 : At cX8_close 420 (.iload_n 2) 1 421 := ⟨by decide +kernel, rfl⟩
theorem aX8_close_421 : At cX8_close 421 .imul 1 422 := ⟨by decide +kernel, rfl⟩
theorem aX8_close_422 : At cX8_close 422 .baload 1 423 := ⟨by decide +kernel, rfl⟩
theorem aX8_close_423 : At cX8_close 423 (.ifCond .ne 7) 3 426 := ⟨by decide +kernel, rfl⟩
theorem aX8_close_426 : At cX8_close 426 (.iconst 1) 1 427 := ⟨by decide +kernel, rfl⟩
theorem aX8_close_427 : At cX8_close 427 (.goto 4) 3 430 := ⟨by decide +kernel, rfl⟩
theorem aX8_close_430 : At cX8_close 430 (.iconst 0) 1 431 := ⟨by decide +kernel, rfl⟩
theorem aX8_close_431 : At cX8_close 431 (.istore_n 1) 1 432 := ⟨by decide +kernel, rfl⟩
theorem aX8_close_432 : At cX8_close 432 (.iinc 2 1) 3 435 := ⟨by decide +kernel, rfl⟩
theorem aX8_close_435 : At cX8_close 435 (.goto (-31)) 3 438 := ⟨by decide +kernel, rfl⟩
theorem aX8_close_438 : At cX8_close 438 (.iload_n 1) 1 439 := ⟨by decide +kernel, rfl⟩
theorem aX8_close_439 : At cX8_close 439 .ireturn 1 440 := ⟨by decide +kernel, rfl⟩
theorem aX8_does_0 : At cX8_does 0 (.iload_n 2) 1 1 := ⟨by decide +kernel, rfl⟩
theorem aX8_does_1 : At cX8_does 1 (.aload_n 0) 1 2 := ⟨by decide +kernel, rfl⟩
theorem aX8_does_2 : At cX8_does 2 (.getfield 54) 3 5 := ⟨by decide +kernel, rfl⟩
theorem aX8_does_5 : At cX8_does 5 (.iload_n 1) 1 6 := ⟨by decide +kernel, rfl⟩
theorem aX8_does_6 : At cX8_does 6 .iaload 1 7 := ⟨by decide +kernel, rfl⟩
theorem aX8_does_7 : At cX8_does 7 (.if_icmp .ne 5) 3 10 := ⟨by decide +kernel, rfl⟩
theorem aX8_does_10 : At cX8_does 10 (.iconst 0) 1 11 := ⟨by decide +kernel, rfl⟩
theorem aX8_does_11 : At cX8_does 11 .ireturn 1 12 := ⟨by decide +kernel, rfl⟩
theorem aX8_does_12 : At cX8_does 12 (.aload_n 0) 1 13 := ⟨by decide +kernel, rfl⟩
theorem aX8_does_13 : At cX8_does 13 (.getfield 57) 3 16 := ⟨by decide +kernel, rfl⟩
theorem aX8_does_16 : At cX8_does 16 (.aload_n 0) 1 17 := ⟨by decide +kernel, rfl⟩
theorem aX8_does_17 : At cX8_does 17 (.iload_n 1) 1 18 := ⟨by decide +kernel, rfl⟩
theorem aX8_does_18 : At cX8_does 18 (.iload_n 2) 1 19 := ⟨by decide +kernel, rfl⟩
theorem aX8_does_19 : At cX8_does 19 (.iconst 0) 1 20 := ⟨by decide +kernel, rfl⟩
theorem aX8_does_20 : At cX8_does 20 (.invokevirtual 155) 3 23 := ⟨by decide +kernel, rfl⟩
theorem aX8_does_23 : At cX8_does 23 .iaload 1 24 := ⟨by decide +kernel, rfl⟩
theorem aX8_does_24 : At cX8_does 24 (.istore 4) 2 26 := ⟨by decide +kernel, rfl⟩
theorem aX8_does_26 : At cX8_does 26 (.aload_n 0) 1 27 := ⟨by decide +kernel, rfl⟩
theorem aX8_does_27 : At cX8_does 27 (.getfield 57) 3 30 := ⟨by decide +kernel, rfl⟩
theorem aX8_does_30 : At cX8_does 30 (.aload_n 0) 1 31 := ⟨by decide +kernel, rfl⟩
theorem aX8_does_31 : At cX8_does 31 (.iload_n 1) 1 32 := ⟨by decide +kernel, rfl⟩
theorem aX8_does_32 : At cX8_does 32 (.iload_n 2) 1 33 := ⟨by decide +kernel, rfl⟩
theorem aX8_does_33 : At cX8_does 33 (.iconst 1) 1 34 := ⟨by decide +kernel, rfl⟩
theorem aX8_does_34 : At cX8_does 34 (.invokevirtual 155) 3 37 := ⟨by decide +kernel, rfl⟩
theorem aX8_does_37 : At cX8_does 37 .iaload 1 38 := ⟨by decide +kernel, rfl⟩
theorem aX8_does_38 : At cX8_does 38 (.istore 5) 2 40 := ⟨by decide +kernel, rfl⟩
theorem aX8_does_40 : At cX8_does 40 (.iload 4) 2 42 := ⟨by decide +kernel, rfl⟩
theorem aX8_does_42 : At cX8_does 42 (.ifCond .lt 24) 3 45 := ⟨by decide +kernel, rfl⟩
theorem aX8_does_45 : At cX8_does 45 (.iload 4) 2 47 := ⟨by decide +kernel, rfl⟩
theorem aX8_does_47 : At cX8_does 47 (.iload_n 3) 1 48 := ⟨by decide +kernel, rfl⟩
theorem aX8_does_48 : At cX8_does 48 (.if_icmp .gt 18) 3 51 := ⟨by decide +kernel, rfl⟩
theorem aX8_does_51 : At cX8_does 51 (.iload 5) 2 53 := ⟨by decide +kernel, rfl⟩
theorem aX8_does_53 : At cX8_does 53 (.ifCond .lt 13) 3 56 := ⟨by decide +kernel, rfl⟩
theorem aX8_does_56 : At cX8_does 56 (.iload 5) 2 58 := ⟨by decide +kernel, rfl⟩
theorem aX8_does_58 : At cX8_does 58 (.iload_n 3) 1 59 := ⟨by decide +kernel, rfl⟩
theorem aX8_does_59 : At cX8_does 59 (.if_icmp .gt 7) 3 62 := ⟨by decide +kernel, rfl⟩
theorem aX8_does_62 : At cX8_does 62 (.iconst 1) 1 63 := ⟨by decide +kernel, rfl⟩
theorem aX8_does_63 : At cX8_does 63 (.goto 4) 3 66 := ⟨by decide +kernel, rfl⟩
theorem aX8_does_66 : At cX8_does 66 (.iconst 0) 1 67 := ⟨by decide +kernel, rfl⟩
theorem aX8_does_67 : At cX8_does 67 .ireturn 1 68 := ⟨by decide +kernel, rfl⟩
theorem aX8_fault_0 : At cX8_fault 0 (.aload_n 0) 1 1 := ⟨by decide +kernel, rfl⟩
theorem aX8_fault_1 : At cX8_fault 1 (.invokevirtual 93) 3 4 := ⟨by decide +kernel, rfl⟩
theorem aX8_fault_4 : At cX8_fault 4 .ireturn 1 5 := ⟨by decide +kernel, rfl⟩
theorem aX8_faultOf_0 : At cX8_faultOf 0 (.iconst 0) 1 1 := ⟨by decide +kernel, rfl⟩
theorem aX8_faultOf_1 : At cX8_faultOf 1 (.istore_n 1) 1 2 := ⟨by decide +kernel, rfl⟩
theorem aX8_faultOf_2 : At cX8_faultOf 2 (.iload_n 1) 1 3 := ⟨by decide +kernel, rfl⟩
theorem aX8_faultOf_3 : At cX8_faultOf 3 (.aload_n 0) 1 4 := ⟨by decide +kernel, rfl⟩
theorem aX8_faultOf_4 : At cX8_faultOf 4 (.getfield 86) 3 7 := ⟨by decide +kernel, rfl⟩
theorem aX8_faultOf_7 : At cX8_faultOf 7 (.if_icmp .ge 95) 3 10 := ⟨by decide +kernel, rfl⟩
theorem aX8_faultOf_10 : At cX8_faultOf 10 (.aload_n 0) 1 11 := ⟨by decide +kernel, rfl⟩
theorem aX8_faultOf_11 : At cX8_faultOf 11 (.getfield 13) 3 14 := ⟨by decide +kernel, rfl⟩
theorem aX8_faultOf_14 : At cX8_faultOf 14 (.iload_n 1) 1 15 := ⟨by decide +kernel, rfl⟩
theorem aX8_faultOf_15 : At cX8_faultOf 15 .iaload 1 16 := ⟨by decide +kernel, rfl⟩
theorem aX8_faultOf_16 : At cX8_faultOf 16 (.istore_n 2) 1 17 := ⟨by decide +kernel, rfl⟩
theorem aX8_faultOf_17 : At cX8_faultOf 17 (.iload_n 2) 1 18 := ⟨by decide +kernel, rfl⟩
theorem aX8_faultOf_18 : At cX8_faultOf 18 (.bipush 43) 2 20 := ⟨by decide +kernel, rfl⟩
theorem aX8_faultOf_20 : At cX8_faultOf 20 (.if_icmp .eq 15) 3 23 := ⟨by decide +kernel, rfl⟩
theorem aX8_faultOf_23 : At cX8_faultOf 23 (.iload_n 2) 1 24 := ⟨by decide +kernel, rfl⟩
theorem aX8_faultOf_24 : At cX8_faultOf 24 (.bipush 45) 2 26 := ⟨by decide +kernel, rfl⟩
theorem aX8_faultOf_26 : At cX8_faultOf 26 (.if_icmp .eq 9) 3 29 := ⟨by decide +kernel, rfl⟩
theorem aX8_faultOf_29 : At cX8_faultOf 29 (.iload_n 2) 1 30 := ⟨by decide +kernel, rfl⟩
theorem aX8_faultOf_30 : At cX8_faultOf 30 (.bipush 61) 2 32 := ⟨by decide +kernel, rfl⟩
theorem aX8_faultOf_32 : At cX8_faultOf 32 (.if_icmp .ne 7) 3 35 := ⟨by decide +kernel, rfl⟩
theorem aX8_faultOf_35 : At cX8_faultOf 35 (.iconst 1) 1 36 := ⟨by decide +kernel, rfl⟩
theorem aX8_faultOf_36 : At cX8_faultOf 36 (.goto 4) 3 39 := ⟨by decide +kernel, rfl⟩
theorem aX8_faultOf_39 : At cX8_faultOf 39 (.iconst 0) 1 40 := ⟨by decide +kernel, rfl⟩
theorem aX8_faultOf_40 : At cX8_faultOf 40 (.istore_n 3) 1 41 := ⟨by decide +kernel, rfl⟩
theorem aX8_faultOf_41 : At cX8_faultOf 41 (.aload_n 0) 1 42 := ⟨by decide +kernel, rfl⟩
theorem aX8_faultOf_42 : At cX8_faultOf 42 (.iload_n 2) 1 43 := ⟨by decide +kernel, rfl⟩
theorem aX8_faultOf_43 : At cX8_faultOf 43 (.bipush 97) 2 45 := ⟨by decide +kernel, rfl⟩
theorem aX8_faultOf_45 : At cX8_faultOf 45 .isub 1 46 := ⟨by decide +kernel, rfl⟩
theorem aX8_faultOf_46 : At cX8_faultOf 46 (.invokevirtual 89) 3 49 := ⟨by decide +kernel, rfl⟩
theorem aX8_faultOf_49 : At cX8_faultOf 49 (.ifCond .eq 24) 3 52 := ⟨by decide +kernel, rfl⟩
theorem aX8_faultOf_52 : At cX8_faultOf 52 (.iload_n 1) 1 53 := ⟨by decide +kernel, rfl⟩
theorem aX8_faultOf_53 : At cX8_faultOf 53 (.iconst 2) 1 54 := ⟨by decide +kernel, rfl⟩
theorem aX8_faultOf_54 : At cX8_faultOf 54 (.if_icmp .lt 15) 3 57 := ⟨by decide +kernel, rfl⟩
theorem aX8_faultOf_57 : At cX8_faultOf 57 (.aload_n 0) 1 58 := ⟨by decide +kernel, rfl⟩
theorem aX8_faultOf_58 : At cX8_faultOf 58 (.getfield 13) 3 61 := ⟨by decide +kernel, rfl⟩
theorem aX8_faultOf_61 : At cX8_faultOf 61 (.iload_n 1) 1 62 := ⟨by decide +kernel, rfl⟩
theorem aX8_faultOf_62 : At cX8_faultOf 62 (.iconst 2) 1 63 := ⟨by decide +kernel, rfl⟩
theorem aX8_faultOf_63 : At cX8_faultOf 63 .isub 1 64 := ⟨by decide +kernel, rfl⟩
theorem aX8_faultOf_64 : At cX8_faultOf 64 .iaload 1 65 := ⟨by decide +kernel, rfl⟩
theorem aX8_faultOf_65 : At cX8_faultOf 65 (.iload_n 2) 1 66 := ⟨by decide +kernel, rfl⟩
theorem aX8_faultOf_66 : At cX8_faultOf 66 (.if_icmp .eq 7) 3 69 := ⟨by decide +kernel, rfl⟩
theorem aX8_faultOf_69 : At cX8_faultOf 69 (.iconst 1) 1 70 := ⟨by decide +kernel, rfl⟩
theorem aX8_faultOf_70 : At cX8_faultOf 70 (.goto 4) 3 73 := ⟨by decide +kernel, rfl⟩
theorem aX8_faultOf_73 : At cX8_faultOf 73 (.iconst 0) 1 74 := ⟨by decide +kernel, rfl⟩
theorem aX8_faultOf_74 : At cX8_faultOf 74 (.istore 4) 2 76 := ⟨by decide +kernel, rfl⟩
theorem aX8_faultOf_76 : At cX8_faultOf 76 (.iload_n 1) 1 77 := ⟨by decide +kernel, rfl⟩
theorem aX8_faultOf_77 : At cX8_faultOf 77 (.iconst 2) 1 78 := ⟨by decide +kernel, rfl⟩
theorem aX8_faultOf_78 : At cX8_faultOf 78 .irem 1 79 := ⟨by decide +kernel, rfl⟩
theorem aX8_faultOf_79 : At cX8_faultOf 79 (.ifCond .ne 11) 3 82 := ⟨by decide +kernel, rfl⟩
theorem aX8_faultOf_82 : At cX8_faultOf 82 (.iload 4) 2 84 := ⟨by decide +kernel, rfl⟩
theorem aX8_faultOf_84 : At cX8_faultOf 84 (.ifCond .ne 12) 3 87 := ⟨by decide +kernel, rfl⟩
theorem aX8_faultOf_87 : At cX8_faultOf 87 (.goto 7) 3 90 := ⟨by decide +kernel, rfl⟩
theorem aX8_faultOf_90 : At cX8_faultOf 90 (.iload_n 3) 1 91 := ⟨by decide +kernel, rfl⟩
theorem aX8_faultOf_91 : At cX8_faultOf 91 (.ifCond .ne 5) 3 94 := ⟨by decide +kernel, rfl⟩
theorem aX8_faultOf_94 : At cX8_faultOf 94 (.iload_n 1) 1 95 := ⟨by decide +kernel, rfl⟩
theorem aX8_faultOf_95 : At cX8_faultOf 95 .ireturn 1 96 := ⟨by decide +kernel, rfl⟩
theorem aX8_faultOf_96 : At cX8_faultOf 96 (.iinc 1 1) 3 99 := ⟨by decide +kernel, rfl⟩
theorem aX8_faultOf_99 : At cX8_faultOf 99 (.goto (-97)) 3 102 := ⟨by decide +kernel, rfl⟩
theorem aX8_faultOf_102 : At cX8_faultOf 102 (.aload_n 0) 1 103 := ⟨by decide +kernel, rfl⟩
theorem aX8_faultOf_103 : At cX8_faultOf 103 (.getfield 86) 3 106 := ⟨by decide +kernel, rfl⟩
theorem aX8_faultOf_106 : At cX8_faultOf 106 (.iconst 2) 1 107 := ⟨by decide +kernel, rfl⟩
theorem aX8_faultOf_107 : At cX8_faultOf 107 .irem 1 108 := ⟨by decide +kernel, rfl⟩
theorem aX8_faultOf_108 : At cX8_faultOf 108 (.iconst 1) 1 109 := ⟨by decide +kernel, rfl⟩
theorem aX8_faultOf_109 : At cX8_faultOf 109 (.if_icmp .ne 8) 3 112 := ⟨by decide +kernel, rfl⟩
theorem aX8_faultOf_112 : At cX8_faultOf 112 (.bipush (-6)) 2 114 := ⟨by decide +kernel, rfl⟩
theorem aX8_faultOf_114 : At cX8_faultOf 114 (.goto 7) 3 117 := ⟨by decide +kernel, rfl⟩
theorem aX8_faultOf_117 : At cX8_faultOf 117 (.aload_n 0) 1 118 := ⟨by decide +kernel, rfl⟩
theorem aX8_faultOf_118 : At cX8_faultOf 118 (.getfield 86) 3 121 := ⟨by decide +kernel, rfl⟩
theorem aX8_faultOf_121 : At cX8_faultOf 121 .ireturn 1 122 := ⟨by decide +kernel, rfl⟩
theorem aX8_follow_0 : At cX8_follow 0 (.aload_n 0) 1 1 := ⟨by decide +kernel, rfl⟩
theorem aX8_follow_1 : At cX8_follow 1 (.invokevirtual 97) 3 4 := ⟨by decide +kernel, rfl⟩
theorem aX8_follow_4 : At cX8_follow 4 (.iconst 0) 1 5 := ⟨by decide +kernel, rfl⟩
theorem aX8_follow_5 : At cX8_follow 5 (.istore_n 2) 1 6 := ⟨by decide +kernel, rfl⟩
theorem aX8_follow_6 : At cX8_follow 6 (.iload_n 2) 1 7 := ⟨by decide +kernel, rfl⟩
theorem aX8_follow_7 : At cX8_follow 7 (.aload_n 0) 1 8 := ⟨by decide +kernel, rfl⟩
theorem aX8_follow_8 : At cX8_follow 8 (.getfield 83) 3 11 := ⟨by decide +kernel, rfl⟩
theorem aX8_follow_11 : At cX8_follow 11 (.if_icmp .ge 50) 3 14 := ⟨by decide +kernel, rfl⟩
theorem aX8_follow_14 : At cX8_follow 14 (.iload_n 1) 1 15 := ⟨by decide +kernel, rfl⟩
theorem aX8_follow_15 : At cX8_follow 15 (.iload_n 2) 1 16 := ⟨by decide +kernel, rfl⟩
theorem aX8_follow_16 : At cX8_follow 16 .ishr 1 17 := ⟨by decide +kernel, rfl⟩
theorem aX8_follow_17 : At cX8_follow 17 (.iconst 1) 1 18 := ⟨by decide +kernel, rfl⟩
theorem aX8_follow_18 : At cX8_follow 18 .iand 1 19 := ⟨by decide +kernel, rfl⟩
theorem aX8_follow_19 : At cX8_follow 19 (.iconst 1) 1 20 := ⟨by decide +kernel, rfl⟩
theorem aX8_follow_20 : At cX8_follow 20 (.if_icmp .ne 35) 3 23 := ⟨by decide +kernel, rfl⟩
theorem aX8_follow_23 : At cX8_follow 23 (.aload_n 0) 1 24 := ⟨by decide +kernel, rfl⟩
theorem aX8_follow_24 : At cX8_follow 24 (.aload_n 0) 1 25 := ⟨by decide +kernel, rfl⟩
theorem aX8_follow_25 : At cX8_follow 25 (.getfield 17) 3 28 := ⟨by decide +kernel, rfl⟩
theorem aX8_follow_28 : At cX8_follow 28 (.iconst 5) 1 29 := ⟨by decide +kernel, rfl⟩
theorem aX8_follow_29 : At cX8_follow 29 (.iload_n 2) 1 30 := ⟨by decide +kernel, rfl⟩
theorem aX8_follow_30 : At cX8_follow 30 .imul 1 31 := ⟨by decide +kernel, rfl⟩
theorem aX8_follow_31 : At cX8_follow 31 .iaload 1 32 := ⟨by decide +kernel, rfl⟩
theorem aX8_follow_32 : At cX8_follow 32 (.aload_n 0) 1 33 := ⟨by decide +kernel, rfl⟩
theorem aX8_follow_33 : At cX8_follow 33 (.getfield 17) 3 36 := ⟨by decide +kernel, rfl⟩
theorem aX8_follow_36 : At cX8_follow 36 (.iconst 5) 1 37 := ⟨by decide +kernel, rfl⟩
theorem aX8_follow_37 : At cX8_follow 37 (.iload_n 2) 1 38 := ⟨by decide +kernel, rfl⟩
theorem aX8_follow_38 : At cX8_follow 38 .imul 1 39 := ⟨by decide +kernel, rfl⟩
theorem aX8_follow_39 : At cX8_follow 39 (.iconst 1) 1 40 := ⟨by decide +kernel, rfl⟩
theorem aX8_follow_40 : At cX8_follow 40 .iadd 1 41 := ⟨by decide +kernel, rfl⟩
theorem aX8_follow_41 : At cX8_follow 41 .iaload 1 42 := ⟨by decide +kernel, rfl⟩
theorem aX8_follow_42 : At cX8_follow 42 (.aload_n 0) 1 43 := ⟨by decide +kernel, rfl⟩
theorem aX8_follow_43 : At cX8_follow 43 (.getfield 17) 3 46 := ⟨by decide +kernel, rfl⟩
theorem aX8_follow_46 : At cX8_follow 46 (.iconst 5) 1 47 := ⟨by decide +kernel, rfl⟩
theorem aX8_follow_47 : At cX8_follow 47 (.iload_n 2) 1 48 := ⟨by decide +kernel, rfl⟩
theorem aX8_follow_48 : At cX8_follow 48 .imul 1 49 := ⟨by decide +kernel, rfl⟩
theorem aX8_follow_49 : At cX8_follow 49 (.iconst 2) 1 50 := ⟨by decide +kernel, rfl⟩
theorem aX8_follow_50 : At cX8_follow 50 .iadd 1 51 := ⟨by decide +kernel, rfl⟩
theorem aX8_follow_51 : At cX8_follow 51 .iaload 1 52 := ⟨by decide +kernel, rfl⟩
theorem aX8_follow_52 : At cX8_follow 52 (.invokevirtual 100) 3 55 := ⟨by decide +kernel, rfl⟩
theorem aX8_follow_55 : At cX8_follow 55 (.iinc 2 1) 3 58 := ⟨by decide +kernel, rfl⟩
theorem aX8_follow_58 : At cX8_follow 58 (.goto (-52)) 3 61 := ⟨by decide +kernel, rfl⟩
theorem aX8_follow_61 : At cX8_follow 61 (.aload_n 0) 1 62 := ⟨by decide +kernel, rfl⟩
theorem aX8_follow_62 : At cX8_follow 62 (.invokevirtual 104) 3 65 := ⟨by decide +kernel, rfl⟩
theorem aX8_follow_65 : At cX8_follow 65 .ireturn 1 66 := ⟨by decide +kernel, rfl⟩
theorem aX8_followAll_0 : At cX8_followAll 0 (.aload_n 0) 1 1 := ⟨by decide +kernel, rfl⟩
theorem aX8_followAll_1 : At cX8_followAll 1 (.iconst 1) 1 2 := ⟨by decide +kernel, rfl⟩
theorem aX8_followAll_2 : At cX8_followAll 2 (.aload_n 0) 1 3 := ⟨by decide +kernel, rfl⟩
theorem aX8_followAll_3 : At cX8_followAll 3 (.getfield 83) 3 6 := ⟨by decide +kernel, rfl⟩
theorem aX8_followAll_6 : At cX8_followAll 6 .ishl 1 7 := ⟨by decide +kernel, rfl⟩
theorem aX8_followAll_7 : At cX8_followAll 7 (.iconst 1) 1 8 := ⟨by decide +kernel, rfl⟩
theorem aX8_followAll_8 : At cX8_followAll 8 .isub 1 9 := ⟨by decide +kernel, rfl⟩
theorem aX8_followAll_9 : At cX8_followAll 9 (.invokevirtual 108) 3 12 := ⟨by decide +kernel, rfl⟩
theorem aX8_followAll_12 : At cX8_followAll 12 .ireturn 1 13 := ⟨by decide +kernel, rfl⟩
theorem aX8_follows_0 : At cX8_follows 0 (.aload_n 0) 1 1 := ⟨by decide +kernel, rfl⟩
theorem aX8_follows_1 : At cX8_follows 1 (.iload_n 1) 1 2 := ⟨by decide +kernel, rfl⟩
theorem aX8_follows_2 : At cX8_follows 2 (.invokevirtual 89) 3 5 := ⟨by decide +kernel, rfl⟩
theorem aX8_follows_5 : At cX8_follows 5 (.ifCond .eq 11) 3 8 := ⟨by decide +kernel, rfl⟩
theorem aX8_follows_8 : At cX8_follows 8 (.aload_n 0) 1 9 := ⟨by decide +kernel, rfl⟩
theorem aX8_follows_9 : At cX8_follows 9 (.iload_n 2) 1 10 := ⟨by decide +kernel, rfl⟩
theorem aX8_follows_10 : At cX8_follows 10 (.invokevirtual 89) 3 13 := ⟨by decide +kernel, rfl⟩
theorem aX8_follows_13 : At cX8_follows 13 (.ifCond .ne 5) 3 16 := ⟨by decide +kernel, rfl⟩
theorem aX8_follows_16 : At cX8_follows 16 (.iconst (-1)) 1 17 := ⟨by decide +kernel, rfl⟩
theorem aX8_follows_17 : At cX8_follows 17 .ireturn 1 18 := ⟨by decide +kernel, rfl⟩
theorem aX8_follows_18 : At cX8_follows 18 (.aload_n 0) 1 19 := ⟨by decide +kernel, rfl⟩
theorem aX8_follows_19 : At cX8_follows 19 (.invokevirtual 111) 3 22 := ⟨by decide +kernel, rfl⟩
theorem aX8_follows_22 : At cX8_follows 22 (.ifCond .ne 6) 3 25 := ⟨by decide +kernel, rfl⟩
theorem aX8_follows_25 : At cX8_follows 25 (.bipush (-3)) 2 27 := ⟨by decide +kernel, rfl⟩
theorem aX8_follows_27 : At cX8_follows 27 .ireturn 1 28 := ⟨by decide +kernel, rfl⟩
theorem aX8_follows_28 : At cX8_follows 28 (.aload_n 0) 1 29 := ⟨by decide +kernel, rfl⟩
theorem aX8_follows_29 : At cX8_follows 29 (.getfield 39) 3 32 := ⟨by decide +kernel, rfl⟩
theorem aX8_follows_32 : At cX8_follows 32 (.bipush 6) 2 34 := ⟨by decide +kernel, rfl⟩
theorem aX8_follows_34 : At cX8_follows 34 (.iload_n 1) 1 35 := ⟨by decide +kernel, rfl⟩
theorem aX8_follows_35 : At cX8_follows 35 .imul 1 36 := ⟨by decide +kernel, rfl⟩
theorem aX8_follows_36 : At cX8_follows 36 (.iload_n 2) 1 37 := ⟨by decide +kernel, rfl⟩
theorem aX8_follows_37 : At cX8_follows 37 .iadd 1 38 := ⟨by decide +kernel, rfl⟩
theorem aX8_follows_38 : At cX8_follows 38 .baload 1 39 := ⟨by decide +kernel, rfl⟩
theorem aX8_follows_39 : At cX8_follows 39 (.ifCond .eq 7) 3 42 := ⟨by decide +kernel, rfl⟩
theorem aX8_follows_42 : At cX8_follows 42 (.iconst 0) 1 43 := ⟨by decide +kernel, rfl⟩
theorem aX8_follows_43 : At cX8_follows 43 (.goto 41) 3 46 := ⟨by decide +kernel, rfl⟩
theorem aX8_follows_46 : At cX8_follows 46 (.aload_n 0) 1 47 := ⟨by decide +kernel, rfl⟩
theorem aX8_follows_47 : At cX8_follows 47 (.getfield 35) 3 50 := ⟨by decide +kernel, rfl⟩
theorem aX8_follows_50 : At cX8_follows 50 (.bipush 6) 2 52 := ⟨by decide +kernel, rfl⟩
theorem aX8_follows_52 : At cX8_follows 52 (.iload_n 1) 1 53 := ⟨by decide +kernel, rfl⟩
theorem aX8_follows_53 : At cX8_follows 53 .imul 1 54 := ⟨by decide +kernel, rfl⟩
theorem aX8_follows_54 : At cX8_follows 54 (.iload_n 2) 1 55 := ⟨by decide +kernel, rfl⟩
theorem aX8_follows_55 : At cX8_follows 55 .iadd 1 56 := ⟨by decide +kernel, rfl⟩
theorem aX8_follows_56 : At cX8_follows 56 .baload 1 57 := ⟨by decide +kernel, rfl⟩
theorem aX8_follows_57 : At cX8_follows 57 (.ifCond .eq 7) 3 60 := ⟨by decide +kernel, rfl⟩
theorem aX8_follows_60 : At cX8_follows 60 (.iconst 1) 1 61 := ⟨by decide +kernel, rfl⟩
theorem aX8_follows_61 : At cX8_follows 61 (.goto 23) 3 64 := ⟨by decide +kernel, rfl⟩
theorem aX8_follows_64 : At cX8_follows 64 (.aload_n 0) 1 65 := ⟨by decide +kernel, rfl⟩
theorem aX8_follows_65 : At cX8_follows 65 (.getfield 35) 3 68 := ⟨by decide +kernel, rfl⟩
theorem aX8_follows_68 : At cX8_follows 68 (.bipush 6) 2 70 := ⟨by decide +kernel, rfl⟩
theorem aX8_follows_70 : At cX8_follows 70 (.iload_n 2) 1 71 := ⟨by decide +kernel, rfl⟩
theorem aX8_follows_71 : At cX8_follows 71 .imul 1 72 := ⟨by decide +kernel, rfl⟩
theorem aX8_follows_72 : At cX8_follows 72 (.iload_n 1) 1 73 := ⟨by decide +kernel, rfl⟩
theorem aX8_follows_73 : At cX8_follows 73 .iadd 1 74 := ⟨by decide +kernel, rfl⟩
theorem aX8_follows_74 : At cX8_follows 74 .baload 1 75 := ⟨by decide +kernel, rfl⟩
theorem aX8_follows_75 : At cX8_follows 75 (.ifCond .eq 7) 3 78 := ⟨by decide +kernel, rfl⟩
theorem aX8_follows_78 : At cX8_follows 78 (.iconst 2) 1 79 := ⟨by decide +kernel, rfl⟩
theorem aX8_follows_79 : At cX8_follows 79 (.goto 5) 3 82 := ⟨by decide +kernel, rfl⟩
theorem aX8_follows_82 : At cX8_follows 82 (.bipush (-6)) 2 84 := ⟨by decide +kernel, rfl⟩
theorem aX8_follows_84 : At cX8_follows 84 .ireturn 1 85 := ⟨by decide +kernel, rfl⟩
theorem aX8_image_0 : At cX8_image 0 (.iload_n 1) 1 1 := ⟨by decide +kernel, rfl⟩
theorem aX8_image_1 : At cX8_image 1 (.iconst 0) 1 2 := ⟨by decide +kernel, rfl⟩
theorem aX8_image_2 : At cX8_image 2 (.iconst 1) 1 3 := ⟨by decide +kernel, rfl⟩
theorem aX8_image_3 : At cX8_image 3 (.invokestatic 79) 3 6 := ⟨by decide +kernel, rfl⟩
theorem aX8_image_6 : At cX8_image 6 (.ifCond .ne 6) 3 9 := ⟨by decide +kernel, rfl⟩
theorem aX8_image_9 : At cX8_image 9 (.bipush (-2)) 2 11 := ⟨by decide +kernel, rfl⟩
theorem aX8_image_11 : At cX8_image 11 .ireturn 1 12 := ⟨by decide +kernel, rfl⟩
theorem aX8_image_12 : At cX8_image 12 (.bipush 93) 2 14 := ⟨by decide +kernel, rfl⟩
theorem aX8_image_14 : At cX8_image 14 (.iload_n 1) 1 15 := ⟨by decide +kernel, rfl⟩
theorem aX8_image_15 : At cX8_image 15 .imul 1 16 := ⟨by decide +kernel, rfl⟩
theorem aX8_image_16 : At cX8_image 16 (.istore_n 2) 1 17 := ⟨by decide +kernel, rfl⟩
theorem aX8_image_17 : At cX8_image 17 (.iconst 0) 1 18 := ⟨by decide +kernel, rfl⟩
theorem aX8_image_18 : At cX8_image 18 (.istore_n 3) 1 19 := ⟨by decide +kernel, rfl⟩
theorem aX8_image_19 : At cX8_image 19 (.iload_n 3) 1 20 := ⟨by decide +kernel, rfl⟩
theorem aX8_image_20 : At cX8_image 20 (.bipush 60) 2 22 := ⟨by decide +kernel, rfl⟩
theorem aX8_image_22 : At cX8_image 22 (.if_icmp .ge 23) 3 25 := ⟨by decide +kernel, rfl⟩
theorem aX8_image_25 : At cX8_image 25 (.aload_n 0) 1 26 := ⟨by decide +kernel, rfl⟩
theorem aX8_image_26 : At cX8_image 26 (.getfield 73) 3 29 := ⟨by decide +kernel, rfl⟩
theorem aX8_image_29 : At cX8_image 29 (.iload_n 2) 1 30 := ⟨by decide +kernel, rfl⟩
theorem aX8_image_30 : At cX8_image 30 (.iload_n 3) 1 31 := ⟨by decide +kernel, rfl⟩
theorem aX8_image_31 : At cX8_image 31 .iadd 1 32 := ⟨by decide +kernel, rfl⟩
theorem aX8_image_32 : At cX8_image 32 (.aload_n 0) 1 33 := ⟨by decide +kernel, rfl⟩
theorem aX8_image_33 : At cX8_image 33 (.getfield 17) 3 36 := ⟨by decide +kernel, rfl⟩
theorem aX8_image_36 : At cX8_image 36 (.iload_n 3) 1 37 := ⟨by decide +kernel, rfl⟩
theorem aX8_image_37 : At cX8_image 37 .iaload 1 38 := ⟨by decide +kernel, rfl⟩
theorem aX8_image_38 : At cX8_image 38 .iastore 1 39 := ⟨by decide +kernel, rfl⟩
theorem aX8_image_39 : At cX8_image 39 (.iinc 3 1) 3 42 := ⟨by decide +kernel, rfl⟩
theorem aX8_image_42 : At cX8_image 42 (.goto (-23)) 3 45 := ⟨by decide +kernel, rfl⟩
theorem aX8_image_45 : At cX8_image 45 (.iconst 0) 1 46 := ⟨by decide +kernel, rfl⟩
theorem aX8_image_46 : At cX8_image 46 (.istore_n 3) 1 47 := ⟨by decide +kernel, rfl⟩
theorem aX8_image_47 : At cX8_image 47 (.iload_n 3) 1 48 := ⟨by decide +kernel, rfl⟩
theorem aX8_image_48 : At cX8_image 48 (.bipush 6) 2 50 := ⟨by decide +kernel, rfl⟩
theorem aX8_image_50 : At cX8_image 50 (.if_icmp .ge 94) 3 53 := ⟨by decide +kernel, rfl⟩
theorem aX8_image_53 : At cX8_image 53 (.aload_n 0) 1 54 := ⟨by decide +kernel, rfl⟩
theorem aX8_image_54 : At cX8_image 54 (.getfield 73) 3 57 := ⟨by decide +kernel, rfl⟩
theorem aX8_image_57 : At cX8_image 57 (.iload_n 2) 1 58 := ⟨by decide +kernel, rfl⟩
theorem aX8_image_58 : At cX8_image 58 (.bipush 60) 2 60 := ⟨by decide +kernel, rfl⟩
theorem aX8_image_60 : At cX8_image 60 .iadd 1 61 := ⟨by decide +kernel, rfl⟩
theorem aX8_image_61 : At cX8_image 61 (.iload_n 3) 1 62 := ⟨by decide +kernel, rfl⟩
theorem aX8_image_62 : At cX8_image 62 .iadd 1 63 := ⟨by decide +kernel, rfl⟩
theorem aX8_image_63 : At cX8_image 63 (.aload_n 0) 1 64 := ⟨by decide +kernel, rfl⟩
theorem aX8_image_64 : At cX8_image 64 (.getfield 20) 3 67 := ⟨by decide +kernel, rfl⟩
theorem aX8_image_67 : At cX8_image 67 (.iload_n 3) 1 68 := ⟨by decide +kernel, rfl⟩
theorem aX8_image_68 : At cX8_image 68 .iaload 1 69 := ⟨by decide +kernel, rfl⟩
theorem aX8_image_69 : At cX8_image 69 .iastore 1 70 := ⟨by decide +kernel, rfl⟩
theorem aX8_image_70 : At cX8_image 70 (.aload_n 0) 1 71 := ⟨by decide +kernel, rfl⟩
theorem aX8_image_71 : At cX8_image 71 (.getfield 73) 3 74 := ⟨by decide +kernel, rfl⟩
theorem aX8_image_74 : At cX8_image 74 (.iload_n 2) 1 75 := ⟨by decide +kernel, rfl⟩
theorem aX8_image_75 : At cX8_image 75 (.bipush 66) 2 77 := ⟨by decide +kernel, rfl⟩
theorem aX8_image_77 : At cX8_image 77 .iadd 1 78 := ⟨by decide +kernel, rfl⟩
theorem aX8_image_78 : At cX8_image 78 (.iload_n 3) 1 79 := ⟨by decide +kernel, rfl⟩
theorem aX8_image_79 : At cX8_image 79 .iadd 1 80 := ⟨by decide +kernel, rfl⟩
theorem aX8_image_80 : At cX8_image 80 (.aload_n 0) 1 81 := ⟨by decide +kernel, rfl⟩
theorem aX8_image_81 : At cX8_image 81 (.getfield 23) 3 84 := ⟨by decide +kernel, rfl⟩
theorem aX8_image_84 : At cX8_image 84 (.iload_n 3) 1 85 := ⟨by decide +kernel, rfl⟩
theorem aX8_image_85 : At cX8_image 85 .iaload 1 86 := ⟨by decide +kernel, rfl⟩
theorem aX8_image_86 : At cX8_image 86 .iastore 1 87 := ⟨by decide +kernel, rfl⟩
theorem aX8_image_87 : At cX8_image 87 (.aload_n 0) 1 88 := ⟨by decide +kernel, rfl⟩
theorem aX8_image_88 : At cX8_image 88 (.getfield 73) 3 91 := ⟨by decide +kernel, rfl⟩
theorem aX8_image_91 : At cX8_image 91 (.iload_n 2) 1 92 := ⟨by decide +kernel, rfl⟩
theorem aX8_image_92 : At cX8_image 92 (.bipush 72) 2 94 := ⟨by decide +kernel, rfl⟩
theorem aX8_image_94 : At cX8_image 94 .iadd 1 95 := ⟨by decide +kernel, rfl⟩
theorem aX8_image_95 : At cX8_image 95 (.iload_n 3) 1 96 := ⟨by decide +kernel, rfl⟩
theorem aX8_image_96 : At cX8_image 96 .iadd 1 97 := ⟨by decide +kernel, rfl⟩
theorem aX8_image_97 : At cX8_image 97 (.aload_n 0) 1 98 := ⟨by decide +kernel, rfl⟩
theorem aX8_image_98 : At cX8_image 98 (.getfield 26) 3 101 := ⟨by decide +kernel, rfl⟩
theorem aX8_image_101 : At cX8_image 101 (.iload_n 3) 1 102 := ⟨by decide +kernel, rfl⟩
theorem aX8_image_102 : At cX8_image 102 .iaload 1 103 := ⟨by decide +kernel, rfl⟩
theorem aX8_image_103 : At cX8_image 103 .iastore 1 104 := ⟨by decide +kernel, rfl⟩
theorem aX8_image_104 : At cX8_image 104 (.aload_n 0) 1 105 := ⟨by decide +kernel, rfl⟩
theorem aX8_image_105 : At cX8_image 105 (.getfield 73) 3 108 := ⟨by decide +kernel, rfl⟩
theorem aX8_image_108 : At cX8_image 108 (.iload_n 2) 1 109 := ⟨by decide +kernel, rfl⟩
theorem aX8_image_109 : At cX8_image 109 (.bipush 78) 2 111 := ⟨by decide +kernel, rfl⟩
theorem aX8_image_111 : At cX8_image 111 .iadd 1 112 := ⟨by decide +kernel, rfl⟩
theorem aX8_image_112 : At cX8_image 112 (.iload_n 3) 1 113 := ⟨by decide +kernel, rfl⟩
theorem aX8_image_113 : At cX8_image 113 .iadd 1 114 := ⟨by decide +kernel, rfl⟩
theorem aX8_image_114 : At cX8_image 114 (.aload_n 0) 1 115 := ⟨by decide +kernel, rfl⟩
theorem aX8_image_115 : At cX8_image 115 (.getfield 29) 3 118 := ⟨by decide +kernel, rfl⟩
theorem aX8_image_118 : At cX8_image 118 (.iload_n 3) 1 119 := ⟨by decide +kernel, rfl⟩
theorem aX8_image_119 : At cX8_image 119 .iaload 1 120 := ⟨by decide +kernel, rfl⟩
theorem aX8_image_120 : At cX8_image 120 .iastore 1 121 := ⟨by decide +kernel, rfl⟩
theorem aX8_image_121 : At cX8_image 121 (.aload_n 0) 1 122 := ⟨by decide +kernel, rfl⟩
theorem aX8_image_122 : At cX8_image 122 (.getfield 73) 3 125 := ⟨by decide +kernel, rfl⟩
theorem aX8_image_125 : At cX8_image 125 (.iload_n 2) 1 126 := ⟨by decide +kernel, rfl⟩
theorem aX8_image_126 : At cX8_image 126 (.bipush 84) 2 128 := ⟨by decide +kernel, rfl⟩
theorem aX8_image_128 : At cX8_image 128 .iadd 1 129 := ⟨by decide +kernel, rfl⟩
theorem aX8_image_129 : At cX8_image 129 (.iload_n 3) 1 130 := ⟨by decide +kernel, rfl⟩
theorem aX8_image_130 : At cX8_image 130 .iadd 1 131 := ⟨by decide +kernel, rfl⟩
theorem aX8_image_131 : At cX8_image 131 (.aload_n 0) 1 132 := ⟨by decide +kernel, rfl⟩
theorem aX8_image_132 : At cX8_image 132 (.getfield 32) 3 135 := ⟨by decide +kernel, rfl⟩
theorem aX8_image_135 : At cX8_image 135 (.iload_n 3) 1 136 := ⟨by decide +kernel, rfl⟩
theorem aX8_image_136 : At cX8_image 136 .iaload 1 137 := ⟨by decide +kernel, rfl⟩
theorem aX8_image_137 : At cX8_image 137 .iastore 1 138 := ⟨by decide +kernel, rfl⟩
theorem aX8_image_138 : At cX8_image 138 (.iinc 3 1) 3 141 := ⟨by decide +kernel, rfl⟩
theorem aX8_image_141 : At cX8_image 141 (.goto (-94)) 3 144 := ⟨by decide +kernel, rfl⟩
theorem aX8_image_144 : At cX8_image 144 (.aload_n 0) 1 145 := ⟨by decide +kernel, rfl⟩
theorem aX8_image_145 : At cX8_image 145 (.getfield 73) 3 148 := ⟨by decide +kernel, rfl⟩
theorem aX8_image_148 : At cX8_image 148 (.iload_n 2) 1 149 := ⟨by decide +kernel, rfl⟩
theorem aX8_image_149 : At cX8_image 149 (.bipush 90) 2 151 := ⟨by decide +kernel, rfl⟩
theorem aX8_image_151 : At cX8_image 151 .iadd 1 152 := ⟨by decide +kernel, rfl⟩
theorem aX8_image_152 : At cX8_image 152 (.aload_n 0) 1 153 := ⟨by decide +kernel, rfl⟩
theorem aX8_image_153 : At cX8_image 153 (.getfield 7) 3 156 := ⟨by decide +kernel, rfl⟩
theorem aX8_image_156 : At cX8_image 156 .iastore 1 157 := ⟨by decide +kernel, rfl⟩
theorem aX8_image_157 : At cX8_image 157 (.aload_n 0) 1 158 := ⟨by decide +kernel, rfl⟩
theorem aX8_image_158 : At cX8_image 158 (.getfield 73) 3 161 := ⟨by decide +kernel, rfl⟩
theorem aX8_image_161 : At cX8_image 161 (.iload_n 2) 1 162 := ⟨by decide +kernel, rfl⟩
theorem aX8_image_162 : At cX8_image 162 (.bipush 91) 2 164 := ⟨by decide +kernel, rfl⟩
theorem aX8_image_164 : At cX8_image 164 .iadd 1 165 := ⟨by decide +kernel, rfl⟩
theorem aX8_image_165 : At cX8_image 165 (.aload_n 0) 1 166 := ⟨by decide +kernel, rfl⟩
theorem aX8_image_166 : At cX8_image 166 (.getfield 83) 3 169 := ⟨by decide +kernel, rfl⟩
theorem aX8_image_169 : At cX8_image 169 .iastore 1 170 := ⟨by decide +kernel, rfl⟩
theorem aX8_image_170 : At cX8_image 170 (.aload_n 0) 1 171 := ⟨by decide +kernel, rfl⟩
theorem aX8_image_171 : At cX8_image 171 (.getfield 73) 3 174 := ⟨by decide +kernel, rfl⟩
theorem aX8_image_174 : At cX8_image 174 (.iload_n 2) 1 175 := ⟨by decide +kernel, rfl⟩
theorem aX8_image_175 : At cX8_image 175 (.bipush 92) 2 177 := ⟨by decide +kernel, rfl⟩
theorem aX8_image_177 : At cX8_image 177 .iadd 1 178 := ⟨by decide +kernel, rfl⟩
theorem aX8_image_178 : At cX8_image 178 (.aload_n 0) 1 179 := ⟨by decide +kernel, rfl⟩
theorem aX8_image_179 : At cX8_image 179 (.getfield 168) 3 182 := ⟨by decide +kernel, rfl⟩
theorem aX8_image_182 : At cX8_image 182 .iastore 1 183 := ⟨by decide +kernel, rfl⟩
theorem aX8_image_183 : At cX8_image 183 (.aload_n 0) 1 184 := ⟨by decide +kernel, rfl⟩
theorem aX8_image_184 : At cX8_image 184 (.getfield 76) 3 187 := ⟨by decide +kernel, rfl⟩
theorem aX8_image_187 : At cX8_image 187 (.iload_n 1) 1 188 := ⟨by decide +kernel, rfl⟩
theorem aX8_image_188 : At cX8_image 188 (.iconst 1) 1 189 := ⟨by decide +kernel, rfl⟩
theorem aX8_image_189 : At cX8_image 189 .bastore 1 190 := ⟨by decide +kernel, rfl⟩
theorem aX8_image_190 : At cX8_image 190 (.iconst 1) 1 191 := ⟨by decide +kernel, rfl⟩
theorem aX8_image_191 : At cX8_image 191 .ireturn 1 192 := ⟨by decide +kernel, rfl⟩
theorem aX8_in_0 : At cX8_in 0 (.iload_n 0) 1 1 := ⟨by decide +kernel, rfl⟩
theorem aX8_in_1 : At cX8_in 1 (.iload_n 1) 1 2 := ⟨by decide +kernel, rfl⟩
theorem aX8_in_2 : At cX8_in 2 (.if_icmp .lt 12) 3 5 := ⟨by decide +kernel, rfl⟩
theorem aX8_in_5 : At cX8_in 5 (.iload_n 0) 1 6 := ⟨by decide +kernel, rfl⟩
theorem aX8_in_6 : At cX8_in 6 (.iload_n 2) 1 7 := ⟨by decide +kernel, rfl⟩
theorem aX8_in_7 : At cX8_in 7 (.if_icmp .gt 7) 3 10 := ⟨by decide +kernel, rfl⟩
theorem aX8_in_10 : At cX8_in 10 (.iconst 1) 1 11 := ⟨by decide +kernel, rfl⟩
theorem aX8_in_11 : At cX8_in 11 (.goto 4) 3 14 := ⟨by decide +kernel, rfl⟩
theorem aX8_in_14 : At cX8_in 14 (.iconst 0) 1 15 := ⟨by decide +kernel, rfl⟩
theorem aX8_in_15 : At cX8_in 15 .ireturn 1 16 := ⟨by decide +kernel, rfl⟩
theorem aX8_init_0 : At cX8_init 0 (.aload_n 0) 1 1 := ⟨by decide +kernel, rfl⟩
theorem aX8_init_1 : At cX8_init 1 (.invokespecial 1) 3 4 := ⟨by decide +kernel, rfl⟩
theorem aX8_init_4 : At cX8_init 4 (.aload_n 0) 1 5 := ⟨by decide +kernel, rfl⟩
theorem aX8_init_5 : At cX8_init 5 (.bipush 6) 2 7 := ⟨by decide +kernel, rfl⟩
theorem aX8_init_7 : At cX8_init 7 (.putfield 7) 3 10 := ⟨by decide +kernel, rfl⟩
theorem aX8_init_10 : At cX8_init 10 (.aload_n 0) 1 11 := ⟨by decide +kernel, rfl⟩
theorem aX8_init_11 : At cX8_init 11 (.bipush 40) 2 13 := ⟨by decide +kernel, rfl⟩
theorem aX8_init_13 : At cX8_init 13 (.newarray .int) 2 15 := ⟨by decide +kernel, rfl⟩
theorem aX8_init_15 : At cX8_init 15 (.putfield 13) 3 18 := ⟨by decide +kernel, rfl⟩
theorem aX8_init_18 : At cX8_init 18 (.aload_n 0) 1 19 := ⟨by decide +kernel, rfl⟩
theorem aX8_init_19 : At cX8_init 19 (.bipush 60) 2 21 := ⟨by decide +kernel, rfl⟩
theorem aX8_init_21 : At cX8_init 21 (.newarray .int) 2 23 := ⟨by decide +kernel, rfl⟩
theorem aX8_init_23 : At cX8_init 23 (.putfield 17) 3 26 := ⟨by decide +kernel, rfl⟩
theorem aX8_init_26 : At cX8_init 26 (.aload_n 0) 1 27 := ⟨by decide +kernel, rfl⟩
theorem aX8_init_27 : At cX8_init 27 (.bipush 6) 2 29 := ⟨by decide +kernel, rfl⟩
theorem aX8_init_29 : At cX8_init 29 (.newarray .int) 2 31 := ⟨by decide +kernel, rfl⟩
theorem aX8_init_31 : At cX8_init 31 (.putfield 20) 3 34 := ⟨by decide +kernel, rfl⟩
theorem aX8_init_34 : At cX8_init 34 (.aload_n 0) 1 35 := ⟨by decide +kernel, rfl⟩
theorem aX8_init_35 : At cX8_init 35 (.bipush 6) 2 37 := ⟨by decide +kernel, rfl⟩
theorem aX8_init_37 : At cX8_init 37 (.newarray .int) 2 39 := ⟨by decide +kernel, rfl⟩
theorem aX8_init_39 : At cX8_init 39 (.putfield 23) 3 42 := ⟨by decide +kernel, rfl⟩
theorem aX8_init_42 : At cX8_init 42 (.aload_n 0) 1 43 := ⟨by decide +kernel, rfl⟩
theorem aX8_init_43 : At cX8_init 43 (.bipush 6) 2 45 := ⟨by decide +kernel, rfl⟩
theorem aX8_init_45 : At cX8_init 45 (.newarray .int) 2 47 := ⟨by decide +kernel, rfl⟩
theorem aX8_init_47 : At cX8_init 47 (.putfield 26) 3 50 := ⟨by decide +kernel, rfl⟩
theorem aX8_init_50 : At cX8_init 50 (.aload_n 0) 1 51 := ⟨by decide +kernel, rfl⟩
theorem aX8_init_51 : At cX8_init 51 (.bipush 6) 2 53 := ⟨by decide +kernel, rfl⟩
theorem aX8_init_53 : At cX8_init 53 (.newarray .int) 2 55 := ⟨by decide +kernel, rfl⟩
theorem aX8_init_55 : At cX8_init 55 (.putfield 29) 3 58 := ⟨by decide +kernel, rfl⟩
theorem aX8_init_58 : At cX8_init 58 (.aload_n 0) 1 59 := ⟨by decide +kernel, rfl⟩
theorem aX8_init_59 : At cX8_init 59 (.bipush 6) 2 61 := ⟨by decide +kernel, rfl⟩
theorem aX8_init_61 : At cX8_init 61 (.newarray .int) 2 63 := ⟨by decide +kernel, rfl⟩
theorem aX8_init_63 : At cX8_init 63 (.putfield 32) 3 66 := ⟨by decide +kernel, rfl⟩
theorem aX8_init_66 : At cX8_init 66 (.aload_n 0) 1 67 := ⟨by decide +kernel, rfl⟩
theorem aX8_init_67 : At cX8_init 67 (.bipush 36) 2 69 := ⟨by decide +kernel, rfl⟩
theorem aX8_init_69 : At cX8_init 69 (.newarray .boolean) 2 71 := ⟨by decide +kernel, rfl⟩
theorem aX8_init_71 : At cX8_init 71 (.putfield 35) 3 74 := ⟨by decide +kernel, rfl⟩
theorem aX8_init_74 : At cX8_init 74 (.aload_n 0) 1 75 := ⟨by decide +kernel, rfl⟩
theorem aX8_init_75 : At cX8_init 75 (.bipush 36) 2 77 := ⟨by decide +kernel, rfl⟩
theorem aX8_init_77 : At cX8_init 77 (.newarray .boolean) 2 79 := ⟨by decide +kernel, rfl⟩
theorem aX8_init_79 : At cX8_init 79 (.putfield 39) 3 82 := ⟨by decide +kernel, rfl⟩
theorem aX8_init_82 : At cX8_init 82 (.aload_n 0) 1 83 := ⟨by decide +kernel, rfl⟩
theorem aX8_init_83 : At cX8_init 83 (.bipush 6) 2 85 := ⟨by decide +kernel, rfl⟩
theorem aX8_init_85 : At cX8_init 85 (.newarray .int) 2 87 := ⟨by decide +kernel, rfl⟩
theorem aX8_init_87 : At cX8_init 87 (.putfield 42) 3 90 := ⟨by decide +kernel, rfl⟩
theorem aX8_init_90 : At cX8_init 90 (.aload_n 0) 1 91 := ⟨by decide +kernel, rfl⟩
theorem aX8_init_91 : At cX8_init 91 (.bipush 6) 2 93 := ⟨by decide +kernel, rfl⟩
theorem aX8_init_93 : At cX8_init 93 (.newarray .int) 2 95 := ⟨by decide +kernel, rfl⟩
theorem aX8_init_95 : At cX8_init 95 (.putfield 45) 3 98 := ⟨by decide +kernel, rfl⟩
theorem aX8_init_98 : At cX8_init 98 (.aload_n 0) 1 99 := ⟨by decide +kernel, rfl⟩
theorem aX8_init_99 : At cX8_init 99 (.bipush 64) 2 101 := ⟨by decide +kernel, rfl⟩
theorem aX8_init_101 : At cX8_init 101 (.newarray .int) 2 103 := ⟨by decide +kernel, rfl⟩
theorem aX8_init_103 : At cX8_init 103 (.putfield 48) 3 106 := ⟨by decide +kernel, rfl⟩
theorem aX8_init_106 : At cX8_init 106 (.aload_n 0) 1 107 := ⟨by decide +kernel, rfl⟩
theorem aX8_init_107 : At cX8_init 107 (.sipush 26000) 3 110 := ⟨by decide +kernel, rfl⟩
theorem aX8_init_110 : At cX8_init 110 (.newarray .int) 2 112 := ⟨by decide +kernel, rfl⟩
theorem aX8_init_112 : At cX8_init 112 (.putfield 51) 3 115 := ⟨by decide +kernel, rfl⟩
theorem aX8_init_115 : At cX8_init 115 (.aload_n 0) 1 116 := ⟨by decide +kernel, rfl⟩
theorem aX8_init_116 : At cX8_init 116 (.sipush 26000) 3 119 := ⟨by decide +kernel, rfl⟩
theorem aX8_init_119 : At cX8_init 119 (.newarray .int) 2 121 := ⟨by decide +kernel, rfl⟩
theorem aX8_init_121 : At cX8_init 121 (.putfield 54) 3 124 := ⟨by decide +kernel, rfl⟩
theorem aX8_init_124 : At cX8_init 124 (.aload_n 0) 1 125 := ⟨by decide +kernel, rfl⟩
theorem aX8_init_125 : At cX8_init 125 (.sipush 26000) 3 128 := ⟨by decide +kernel, rfl⟩
theorem aX8_init_128 : At cX8_init 128 (.newarray .int) 2 130 := ⟨by decide +kernel, rfl⟩
theorem aX8_init_130 : At cX8_init 130 (.putfield 57) 3 133 := ⟨by decide +kernel, rfl⟩
theorem aX8_init_133 : At cX8_init 133 (.aload_n 0) 1 134 := ⟨by decide +kernel, rfl⟩
theorem aX8_init_134 : At cX8_init 134 (.ldc 60) 2 136 := ⟨by decide +kernel, rfl⟩
theorem aX8_init_136 : At cX8_init 136 (.newarray .int) 2 138 := ⟨by decide +kernel, rfl⟩
theorem aX8_init_138 : At cX8_init 138 (.putfield 61) 3 141 := ⟨by decide +kernel, rfl⟩
theorem aX8_init_141 : At cX8_init 141 (.aload_n 0) 1 142 := ⟨by decide +kernel, rfl⟩
theorem aX8_init_142 : At cX8_init 142 (.bipush 6) 2 144 := ⟨by decide +kernel, rfl⟩
theorem aX8_init_144 : At cX8_init 144 (.newarray .int) 2 146 := ⟨by decide +kernel, rfl⟩
theorem aX8_init_146 : At cX8_init 146 (.putfield 64) 3 149 := ⟨by decide +kernel, rfl⟩
theorem aX8_init_149 : At cX8_init 149 (.aload_n 0) 1 150 := ⟨by decide +kernel, rfl⟩
theorem aX8_init_150 : At cX8_init 150 (.bipush 6) 2 152 := ⟨by decide +kernel, rfl⟩
theorem aX8_init_152 : At cX8_init 152 (.newarray .int) 2 154 := ⟨by decide +kernel, rfl⟩
theorem aX8_init_154 : At cX8_init 154 (.putfield 67) 3 157 := ⟨by decide +kernel, rfl⟩
theorem aX8_init_157 : At cX8_init 157 (.aload_n 0) 1 158 := ⟨by decide +kernel, rfl⟩
theorem aX8_init_158 : At cX8_init 158 (.bipush 6) 2 160 := ⟨by decide +kernel, rfl⟩
theorem aX8_init_160 : At cX8_init 160 (.newarray .int) 2 162 := ⟨by decide +kernel, rfl⟩
theorem aX8_init_162 : At cX8_init 162 (.putfield 70) 3 165 := ⟨by decide +kernel, rfl⟩
theorem aX8_init_165 : At cX8_init 165 (.aload_n 0) 1 166 := ⟨by decide +kernel, rfl⟩
theorem aX8_init_166 : At cX8_init 166 (.sipush 186) 3 169 := ⟨by decide +kernel, rfl⟩
theorem aX8_init_169 : At cX8_init 169 (.newarray .int) 2 171 := ⟨by decide +kernel, rfl⟩
theorem aX8_init_171 : At cX8_init 171 (.putfield 73) 3 174 := ⟨by decide +kernel, rfl⟩
theorem aX8_init_174 : At cX8_init 174 (.aload_n 0) 1 175 := ⟨by decide +kernel, rfl⟩
theorem aX8_init_175 : At cX8_init 175 (.iconst 2) 1 176 := ⟨by decide +kernel, rfl⟩
theorem aX8_init_176 : At cX8_init 176 (.newarray .boolean) 2 178 := ⟨by decide +kernel, rfl⟩
theorem aX8_init_178 : At cX8_init 178 (.putfield 76) 3 181 := ⟨by decide +kernel, rfl⟩
theorem aX8_init_181 : At cX8_init 181 (.iconst 0) 1 182 := ⟨by decide +kernel, rfl⟩
theorem aX8_init_182 : At cX8_init 182 (.istore_n 1) 1 183 := ⟨by decide +kernel, rfl⟩
theorem aX8_init_183 : At cX8_init 183 (.iload_n 1) 1 184 := ⟨by decide +kernel, rfl⟩
theorem aX8_init_184 : At cX8_init 184 (.bipush 6) 2 186 := ⟨by decide +kernel, rfl⟩
theorem aX8_init_186 : At cX8_init 186 (.if_icmp .ge 34) 3 189 := ⟨by decide +kernel, rfl⟩
theorem aX8_init_189 : At cX8_init 189 (.aload_n 0) 1 190 := ⟨by decide +kernel, rfl⟩
theorem aX8_init_190 : At cX8_init 190 (.getfield 23) 3 193 := ⟨by decide +kernel, rfl⟩
theorem aX8_init_193 : At cX8_init 193 (.iload_n 1) 1 194 := ⟨by decide +kernel, rfl⟩
theorem aX8_init_194 : At cX8_init 194 (.bipush 10) 2 196 := ⟨by decide +kernel, rfl⟩
theorem aX8_init_196 : At cX8_init 196 .iastore 1 197 := ⟨by decide +kernel, rfl⟩
theorem aX8_init_197 : At cX8_init 197 (.aload_n 0) 1 198 := ⟨by decide +kernel, rfl⟩
theorem aX8_init_198 : At cX8_init 198 (.getfield 29) 3 201 := ⟨by decide +kernel, rfl⟩
theorem aX8_init_201 : At cX8_init 201 (.iload_n 1) 1 202 := ⟨by decide +kernel, rfl⟩
theorem aX8_init_202 : At cX8_init 202 (.sipush 999) 3 205 := ⟨by decide +kernel, rfl⟩
theorem aX8_init_205 : At cX8_init 205 .iastore 1 206 := ⟨by decide +kernel, rfl⟩
theorem aX8_init_206 : At cX8_init 206 (.aload_n 0) 1 207 := ⟨by decide +kernel, rfl⟩
theorem aX8_init_207 : At cX8_init 207 (.getfield 32) 3 210 := ⟨by decide +kernel, rfl⟩
theorem aX8_init_210 : At cX8_init 210 (.iload_n 1) 1 211 := ⟨by decide +kernel, rfl⟩
theorem aX8_init_211 : At cX8_init 211 (.bipush 50) 2 213 := ⟨by decide +kernel, rfl⟩
theorem aX8_init_213 : At cX8_init 213 .iastore 1 214 := ⟨by decide +kernel, rfl⟩
theorem aX8_init_214 : At cX8_init 214 (.iinc 1 1) 3 217 := ⟨by decide +kernel, rfl⟩
theorem aX8_init_217 : At cX8_init 217 (.goto (-34)) 3 220 := ⟨by decide +kernel, rfl⟩
theorem aX8_init_220 : At cX8_init 220 .return_ 1 221 := ⟨by decide +kernel, rfl⟩
theorem aX8_isOpen_0 : At cX8_isOpen 0 (.aload_n 0) 1 1 := ⟨by decide +kernel, rfl⟩
theorem aX8_isOpen_1 : At cX8_isOpen 1 (.getfield 39) 3 4 := ⟨by decide +kernel, rfl⟩
theorem aX8_isOpen_4 : At cX8_isOpen 4 (.bipush 6) 2 6 := ⟨by decide +kernel, rfl⟩
theorem aX8_isOpen_6 : At cX8_isOpen 6 (.iload_n 1) 1 7 := ⟨by decide +kernel, rfl⟩
theorem aX8_isOpen_7 : At cX8_isOpen 7 .imul 1 8 := ⟨by decide +kernel, rfl⟩
theorem aX8_isOpen_8 : At cX8_isOpen 8 (.iload_n 2) 1 9 := ⟨by decide +kernel, rfl⟩
theorem aX8_isOpen_9 : At cX8_isOpen 9 .iadd 1 10 := ⟨by decide +kernel, rfl⟩
theorem aX8_isOpen_10 : At cX8_isOpen 10 .baload 1 11 := ⟨by decide +kernel, rfl⟩
theorem aX8_isOpen_11 : At cX8_isOpen 11 (.ifCond .ne 35) 3 14 := ⟨by decide +kernel, rfl⟩
theorem aX8_isOpen_14 : At cX8_isOpen 14 (.aload_n 0) 1 15 := ⟨by decide +kernel, rfl⟩
theorem aX8_isOpen_15 : At cX8_isOpen 15 (.getfield 35) 3 18 := ⟨by decide +kernel, rfl⟩
theorem aX8_isOpen_18 : At cX8_isOpen 18 (.bipush 6) 2 20 := ⟨by decide +kernel, rfl⟩
theorem aX8_isOpen_20 : At cX8_isOpen 20 (.iload_n 1) 1 21 := ⟨by decide +kernel, rfl⟩
theorem aX8_isOpen_21 : At cX8_isOpen 21 .imul 1 22 := ⟨by decide +kernel, rfl⟩
theorem aX8_isOpen_22 : At cX8_isOpen 22 (.iload_n 2) 1 23 := ⟨by decide +kernel, rfl⟩
theorem aX8_isOpen_23 : At cX8_isOpen 23 .iadd 1 24 := ⟨by decide +kernel, rfl⟩
theorem aX8_isOpen_24 : At cX8_isOpen 24 .baload 1 25 := ⟨by decide +kernel, rfl⟩
theorem aX8_isOpen_25 : At cX8_isOpen 25 (.ifCond .ne 21) 3 28 := ⟨by decide +kernel, rfl⟩
theorem aX8_isOpen_28 : At cX8_isOpen 28 (.aload_n 0) 1 29 := ⟨by decide +kernel, rfl⟩
theorem aX8_isOpen_29 : At cX8_isOpen 29 (.getfield 35) 3 32 := ⟨by decide +kernel, rfl⟩
theorem aX8_isOpen_32 : At cX8_isOpen 32 (.bipush 6) 2 34 := ⟨by decide +kernel, rfl⟩
theorem aX8_isOpen_34 : At cX8_isOpen 34 (.iload_n 2) 1 35 := ⟨by decide +kernel, rfl⟩
theorem aX8_isOpen_35 : At cX8_isOpen 35 .imul 1 36 := ⟨by decide +kernel, rfl⟩
theorem aX8_isOpen_36 : At cX8_isOpen 36 (.iload_n 1) 1 37 := ⟨by decide +kernel, rfl⟩
theorem aX8_isOpen_37 : At cX8_isOpen 37 .iadd 1 38 := ⟨by decide +kernel, rfl⟩
theorem aX8_isOpen_38 : At cX8_isOpen 38 .baload 1 39 := ⟨by decide +kernel, rfl⟩
theorem aX8_isOpen_39 : At cX8_isOpen 39 (.ifCond .ne 7) 3 42 := ⟨by decide +kernel, rfl⟩
theorem aX8_isOpen_42 : At cX8_isOpen 42 (.iconst 1) 1 43 := ⟨by decide +kernel, rfl⟩
theorem aX8_isOpen_43 : At cX8_isOpen 43 (.goto 4) 3 46 := ⟨by decide +kernel, rfl⟩
theorem aX8_isOpen_46 : At cX8_isOpen 46 (.iconst 0) 1 47 := ⟨by decide +kernel, rfl⟩
theorem aX8_isOpen_47 : At cX8_isOpen 47 .ireturn 1 48 := ⟨by decide +kernel, rfl⟩
theorem aX8_isOver_0 : At cX8_isOver 0 (.iload_n 0) 1 1 := ⟨by decide +kernel, rfl⟩
theorem aX8_isOver_1 : At cX8_isOver 1 (.iconst 5) 1 2 := ⟨by decide +kernel, rfl⟩
theorem aX8_isOver_2 : At cX8_isOver 2 (.iload_n 1) 1 3 := ⟨by decide +kernel, rfl⟩
theorem aX8_isOver_3 : At cX8_isOver 3 .imul 1 4 := ⟨by decide +kernel, rfl⟩
theorem aX8_isOver_4 : At cX8_isOver 4 (.iload_n 2) 1 5 := ⟨by decide +kernel, rfl⟩
theorem aX8_isOver_5 : At cX8_isOver 5 .iadd 1 6 := ⟨by decide +kernel, rfl⟩
theorem aX8_isOver_6 : At cX8_isOver 6 .ishr 1 7 := ⟨by decide +kernel, rfl⟩
theorem aX8_isOver_7 : At cX8_isOver 7 (.iconst 1) 1 8 := ⟨by decide +kernel, rfl⟩
theorem aX8_isOver_8 : At cX8_isOver 8 .iand 1 9 := ⟨by decide +kernel, rfl⟩
theorem aX8_isOver_9 : At cX8_isOver 9 (.iconst 1) 1 10 := ⟨by decide +kernel, rfl⟩
theorem aX8_isOver_10 : At cX8_isOver 10 (.if_icmp .ne 7) 3 13 := ⟨by decide +kernel, rfl⟩
theorem aX8_isOver_13 : At cX8_isOver 13 (.iconst 1) 1 14 := ⟨by decide +kernel, rfl⟩
theorem aX8_isOver_14 : At cX8_isOver 14 (.goto 4) 3 17 := ⟨by decide +kernel, rfl⟩
theorem aX8_isOver_17 : At cX8_isOver 17 (.iconst 0) 1 18 := ⟨by decide +kernel, rfl⟩
theorem aX8_isOver_18 : At cX8_isOver 18 .ireturn 1 19 := ⟨by decide +kernel, rfl⟩
theorem aX8_isSack_0 : At cX8_isSack 0 (.iload_n 1) 1 1 := ⟨by decide +kernel, rfl⟩
theorem aX8_isSack_1 : At cX8_isSack 1 (.iconst 0) 1 2 := ⟨by decide +kernel, rfl⟩
theorem aX8_isSack_2 : At cX8_isSack 2 (.aload_n 0) 1 3 := ⟨by decide +kernel, rfl⟩
theorem aX8_isSack_3 : At cX8_isSack 3 (.getfield 7) 3 6 := ⟨by decide +kernel, rfl⟩
theorem aX8_isSack_6 : At cX8_isSack 6 (.iconst 1) 1 7 := ⟨by decide +kernel, rfl⟩
theorem aX8_isSack_7 : At cX8_isSack 7 .isub 1 8 := ⟨by decide +kernel, rfl⟩
theorem aX8_isSack_8 : At cX8_isSack 8 (.invokestatic 79) 3 11 := ⟨by decide +kernel, rfl⟩
theorem aX8_isSack_11 : At cX8_isSack 11 .ireturn 1 12 := ⟨by decide +kernel, rfl⟩
theorem aX8_isWhole_0 : At cX8_isWhole 0 (.iconst 1) 1 1 := ⟨by decide +kernel, rfl⟩
theorem aX8_isWhole_1 : At cX8_isWhole 1 (.istore_n 2) 1 2 := ⟨by decide +kernel, rfl⟩
theorem aX8_isWhole_2 : At cX8_isWhole 2 (.iconst 0) 1 3 := ⟨by decide +kernel, rfl⟩
theorem aX8_isWhole_3 : At cX8_isWhole 3 (.istore_n 3) 1 4 := ⟨by decide +kernel, rfl⟩
theorem aX8_isWhole_4 : At cX8_isWhole 4 (.iload_n 3) 1 5 := ⟨by decide +kernel, rfl⟩
theorem aX8_isWhole_5 : At cX8_isWhole 5 (.aload_n 0) 1 6 := ⟨by decide +kernel, rfl⟩
theorem aX8_isWhole_6 : At cX8_isWhole 6 (.getfield 118) 3 9 := ⟨by decide +kernel, rfl⟩
theorem aX8_isWhole_9 : At cX8_isWhole 9 (.if_icmp .ge 54) 3 12 := ⟨by decide +kernel, rfl⟩
theorem aX8_isWhole_12 : At cX8_isWhole 12 (.iconst 0) 1 13 := ⟨by decide +kernel, rfl⟩
theorem aX8_isWhole_13 : At cX8_isWhole 13 (.istore 4) 2 15 := ⟨by decide +kernel, rfl⟩
theorem aX8_isWhole_15 : At cX8_isWhole 15 (.iload 4) 2 17 := ⟨by decide +kernel, rfl⟩
theorem aX8_isWhole_17 : At cX8_isWhole 17 (.iload_n 3) 1 18 := ⟨by decide +kernel, rfl⟩
theorem aX8_isWhole_18 : At cX8_isWhole 18 (.if_icmp .ge 39) 3 21 := ⟨by decide +kernel, rfl⟩
theorem aX8_isWhole_21 : At cX8_isWhole 21 (.iload_n 2) 1 22 := ⟨by decide +kernel, rfl⟩
theorem aX8_isWhole_22 : At cX8_isWhole 22 (.ifCond .eq 27) 3 25 := ⟨by decide +kernel, rfl⟩
theorem aX8_isWhole_25 : At cX8_isWhole 25 (.iload_n 1) 1 26 := ⟨by decide +kernel, rfl⟩
theorem aX8_isWhole_26 : At cX8_isWhole 26 (.iload_n 3) 1 27 := ⟨by decide +kernel, rfl⟩
theorem aX8_isWhole_27 : At cX8_isWhole 27 (.iload 4) 2 29 := ⟨by decide +kernel, rfl⟩
theorem aX8_isWhole_29 : At cX8_isWhole 29 (.invokestatic 142) 3 32 := ⟨by decide +kernel, rfl⟩
theorem aX8_isWhole_32 : At cX8_isWhole 32 (.ifCond .ne 13) 3 35 := ⟨by decide +kernel, rfl⟩
theorem aX8_isWhole_35 : At cX8_isWhole 35 (.iload_n 1) 1 36 := ⟨by decide +kernel, rfl⟩
theorem aX8_isWhole_36 : At cX8_isWhole 36 (.iload 4) 2 38 := ⟨by decide +kernel, rfl⟩
theorem aX8_isWhole_38 : At cX8_isWhole 38 (.iload_n 3) 1 39 := ⟨by decide +kernel, rfl⟩
theorem aX8_isWhole_39 : At cX8_isWhole 39 (.invokestatic 142) 3 42 := ⟨by decide +kernel, rfl⟩
theorem aX8_isWhole_42 : At cX8_isWhole 42 (.ifCond .eq 7) 3 45 := ⟨by decide +kernel, rfl⟩
theorem aX8_isWhole_45 : At cX8_isWhole 45 (.iconst 1) 1 46 := ⟨by decide +kernel, rfl⟩
theorem aX8_isWhole_46 : At cX8_isWhole 46 (.goto 4) 3 49 := ⟨by decide +kernel, rfl⟩
theorem aX8_isWhole_49 : At cX8_isWhole 49 (.iconst 0) 1 50 := ⟨by decide +kernel, rfl⟩
theorem aX8_isWhole_50 : At cX8_isWhole 50 (.istore_n 2) 1 51 := ⟨by decide +kernel, rfl⟩
theorem aX8_isWhole_51 : At cX8_isWhole 51 (.iinc 4 1) 3 54 := ⟨by decide +kernel, rfl⟩
theorem aX8_isWhole_54 : At cX8_isWhole 54 (.goto (-39)) 3 57 := ⟨by decide +kernel, rfl⟩
theorem aX8_isWhole_57 : At cX8_isWhole 57 (.iinc 3 1) 3 60 := ⟨by decide +kernel, rfl⟩
theorem aX8_isWhole_60 : At cX8_isWhole 60 (.goto (-56)) 3 63 := ⟨by decide +kernel, rfl⟩
theorem aX8_isWhole_63 : At cX8_isWhole 63 (.iload_n 2) 1 64 := ⟨by decide +kernel, rfl⟩
theorem aX8_isWhole_64 : At cX8_isWhole 64 .ireturn 1 65 := ⟨by decide +kernel, rfl⟩
theorem aX8_known_0 : At cX8_known 0 (.aload_n 0) 1 1 := ⟨by decide +kernel, rfl⟩
theorem aX8_known_1 : At cX8_known 1 (.iload_n 1) 1 2 := ⟨by decide +kernel, rfl⟩
theorem aX8_known_2 : At cX8_known 2 (.invokevirtual 89) 3 5 := ⟨by decide +kernel, rfl⟩
theorem aX8_known_5 : At cX8_known 5 (.ifCond .ne 5) 3 8 := ⟨by decide +kernel, rfl⟩
theorem aX8_known_8 : At cX8_known 8 (.iconst (-1)) 1 9 := ⟨by decide +kernel, rfl⟩
theorem aX8_known_9 : At cX8_known 9 .ireturn 1 10 := ⟨by decide +kernel, rfl⟩
theorem aX8_known_10 : At cX8_known 10 (.iload_n 2) 1 11 := ⟨by decide +kernel, rfl⟩
theorem aX8_known_11 : At cX8_known 11 (.iconst 0) 1 12 := ⟨by decide +kernel, rfl⟩
theorem aX8_known_12 : At cX8_known 12 (.sipush 999) 3 15 := ⟨by decide +kernel, rfl⟩
theorem aX8_known_15 : At cX8_known 15 (.invokestatic 79) 3 18 := ⟨by decide +kernel, rfl⟩
theorem aX8_known_18 : At cX8_known 18 (.ifCond .eq 14) 3 21 := ⟨by decide +kernel, rfl⟩
theorem aX8_known_21 : At cX8_known 21 (.iload_n 3) 1 22 := ⟨by decide +kernel, rfl⟩
theorem aX8_known_22 : At cX8_known 22 (.iload_n 2) 1 23 := ⟨by decide +kernel, rfl⟩
theorem aX8_known_23 : At cX8_known 23 (.sipush 999) 3 26 := ⟨by decide +kernel, rfl⟩
theorem aX8_known_26 : At cX8_known 26 (.invokestatic 79) 3 29 := ⟨by decide +kernel, rfl⟩
theorem aX8_known_29 : At cX8_known 29 (.ifCond .ne 6) 3 32 := ⟨by decide +kernel, rfl⟩
theorem aX8_known_32 : At cX8_known 32 (.bipush (-2)) 2 34 := ⟨by decide +kernel, rfl⟩
theorem aX8_known_34 : At cX8_known 34 .ireturn 1 35 := ⟨by decide +kernel, rfl⟩
theorem aX8_known_35 : At cX8_known 35 (.aload_n 0) 1 36 := ⟨by decide +kernel, rfl⟩
theorem aX8_known_36 : At cX8_known 36 (.getfield 26) 3 39 := ⟨by decide +kernel, rfl⟩
theorem aX8_known_39 : At cX8_known 39 (.iload_n 1) 1 40 := ⟨by decide +kernel, rfl⟩
theorem aX8_known_40 : At cX8_known 40 (.iload_n 2) 1 41 := ⟨by decide +kernel, rfl⟩
theorem aX8_known_41 : At cX8_known 41 .iastore 1 42 := ⟨by decide +kernel, rfl⟩
theorem aX8_known_42 : At cX8_known 42 (.aload_n 0) 1 43 := ⟨by decide +kernel, rfl⟩
theorem aX8_known_43 : At cX8_known 43 (.getfield 29) 3 46 := ⟨by decide +kernel, rfl⟩
theorem aX8_known_46 : At cX8_known 46 (.iload_n 1) 1 47 := ⟨by decide +kernel, rfl⟩
theorem aX8_known_47 : At cX8_known 47 (.iload_n 3) 1 48 := ⟨by decide +kernel, rfl⟩
theorem aX8_known_48 : At cX8_known 48 .iastore 1 49 := ⟨by decide +kernel, rfl⟩
theorem aX8_known_49 : At cX8_known 49 (.iconst 1) 1 50 := ⟨by decide +kernel, rfl⟩
theorem aX8_known_50 : At cX8_known 50 .ireturn 1 51 := ⟨by decide +kernel, rfl⟩
theorem aX8_laid_0 : At cX8_laid 0 (.aload_n 0) 1 1 := ⟨by decide +kernel, rfl⟩
theorem aX8_laid_1 : At cX8_laid 1 (.getfield 54) 3 4 := ⟨by decide +kernel, rfl⟩
theorem aX8_laid_4 : At cX8_laid 4 (.iload_n 1) 1 5 := ⟨by decide +kernel, rfl⟩
theorem aX8_laid_5 : At cX8_laid 5 .iaload 1 6 := ⟨by decide +kernel, rfl⟩
theorem aX8_laid_6 : At cX8_laid 6 (.istore 4) 2 8 := ⟨by decide +kernel, rfl⟩
theorem aX8_laid_8 : At cX8_laid 8 (.aload_n 0) 1 9 := ⟨by decide +kernel, rfl⟩
theorem aX8_laid_9 : At cX8_laid 9 (.getfield 51) 3 12 := ⟨by decide +kernel, rfl⟩
theorem aX8_laid_12 : At cX8_laid 12 (.iload_n 1) 1 13 := ⟨by decide +kernel, rfl⟩
theorem aX8_laid_13 : At cX8_laid 13 .iaload 1 14 := ⟨by decide +kernel, rfl⟩
theorem aX8_laid_14 : At cX8_laid 14 (.istore 5) 2 16 := ⟨by decide +kernel, rfl⟩
theorem aX8_laid_16 : At cX8_laid 16 (.iload 4) 2 18 := ⟨by decide +kernel, rfl⟩
theorem aX8_laid_18 : At cX8_laid 18 (.iconst 5) 1 19 := ⟨by decide +kernel, rfl⟩
theorem aX8_laid_19 : At cX8_laid 19 (.if_icmp .eq 25) 3 22 := ⟨by decide +kernel, rfl⟩
theorem aX8_laid_22 : At cX8_laid 22 (.iload 5) 2 24 := ⟨by decide +kernel, rfl⟩
theorem aX8_laid_24 : At cX8_laid 24 (.iload_n 2) 1 25 := ⟨by decide +kernel, rfl⟩
theorem aX8_laid_25 : At cX8_laid 25 (.iload 4) 2 27 := ⟨by decide +kernel, rfl⟩
theorem aX8_laid_27 : At cX8_laid 27 (.invokestatic 142) 3 30 := ⟨by decide +kernel, rfl⟩
theorem aX8_laid_30 : At cX8_laid 30 (.ifCond .ne 14) 3 33 := ⟨by decide +kernel, rfl⟩
theorem aX8_laid_33 : At cX8_laid 33 (.iload 5) 2 35 := ⟨by decide +kernel, rfl⟩
theorem aX8_laid_35 : At cX8_laid 35 (.iload 4) 2 37 := ⟨by decide +kernel, rfl⟩
theorem aX8_laid_37 : At cX8_laid 37 (.iload_n 2) 1 38 := ⟨by decide +kernel, rfl⟩
theorem aX8_laid_38 : At cX8_laid 38 (.invokestatic 142) 3 41 := ⟨by decide +kernel, rfl⟩
theorem aX8_laid_41 : At cX8_laid 41 (.ifCond .eq 11) 3 44 := ⟨by decide +kernel, rfl⟩
theorem aX8_laid_44 : At cX8_laid 44 (.aload_n 0) 1 45 := ⟨by decide +kernel, rfl⟩
theorem aX8_laid_45 : At cX8_laid 45 (.iload 5) 2 47 := ⟨by decide +kernel, rfl⟩
theorem aX8_laid_47 : At cX8_laid 47 (.iload_n 2) 1 48 := ⟨by decide +kernel, rfl⟩
theorem aX8_laid_48 : At cX8_laid 48 (.invokevirtual 145) 3 51 := ⟨by decide +kernel, rfl⟩
theorem aX8_laid_51 : At cX8_laid 51 .ireturn 1 52 := ⟨by decide +kernel, rfl⟩
theorem aX8_laid_52 : At cX8_laid 52 (.aload_n 0) 1 53 := ⟨by decide +kernel, rfl⟩
theorem aX8_laid_53 : At cX8_laid 53 (.iload_n 3) 1 54 := ⟨by decide +kernel, rfl⟩
theorem aX8_laid_54 : At cX8_laid 54 (.ifCond .ne 15) 3 57 := ⟨by decide +kernel, rfl⟩
theorem aX8_laid_57 : At cX8_laid 57 (.aload_n 0) 1 58 := ⟨by decide +kernel, rfl⟩
theorem aX8_laid_58 : At cX8_laid 58 (.iload 5) 2 60 := ⟨by decide +kernel, rfl⟩
theorem aX8_laid_60 : At cX8_laid 60 (.iload_n 2) 1 61 := ⟨by decide +kernel, rfl⟩
theorem aX8_laid_61 : At cX8_laid 61 (.iload 4) 2 63 := ⟨by decide +kernel, rfl⟩
theorem aX8_laid_63 : At cX8_laid 63 (.invokevirtual 148) 3 66 := ⟨by decide +kernel, rfl⟩
theorem aX8_laid_66 : At cX8_laid 66 (.goto 12) 3 69 := ⟨by decide +kernel, rfl⟩
theorem aX8_laid_69 : At cX8_laid 69 (.aload_n 0) 1 70 := ⟨by decide +kernel, rfl⟩
theorem aX8_laid_70 : At cX8_laid 70 (.iload 5) 2 72 := ⟨by decide +kernel, rfl⟩
theorem aX8_laid_72 : At cX8_laid 72 (.iload 4) 2 74 := ⟨by decide +kernel, rfl⟩
theorem aX8_laid_74 : At cX8_laid 74 (.iload_n 2) 1 75 := ⟨by decide +kernel, rfl⟩
theorem aX8_laid_75 : At cX8_laid 75 (.invokevirtual 148) 3 78 := ⟨by decide +kernel, rfl⟩
theorem aX8_laid_78 : At cX8_laid 78 (.iload_n 2) 1 79 := ⟨by decide +kernel, rfl⟩
theorem aX8_laid_79 : At cX8_laid 79 (.invokevirtual 145) 3 82 := ⟨by decide +kernel, rfl⟩
theorem aX8_laid_82 : At cX8_laid 82 .ireturn 1 83 := ⟨by decide +kernel, rfl⟩
theorem aX8_layGroups_0 : At cX8_layGroups 0 (.aload_n 0) 1 1 := ⟨by decide +kernel, rfl⟩
theorem aX8_layGroups_1 : At cX8_layGroups 1 (.iconst 0) 1 2 := ⟨by decide +kernel, rfl⟩
theorem aX8_layGroups_2 : At cX8_layGroups 2 (.putfield 118) 3 5 := ⟨by decide +kernel, rfl⟩
theorem aX8_layGroups_5 : At cX8_layGroups 5 (.iconst 0) 1 6 := ⟨by decide +kernel, rfl⟩
theorem aX8_layGroups_6 : At cX8_layGroups 6 (.istore_n 1) 1 7 := ⟨by decide +kernel, rfl⟩
theorem aX8_layGroups_7 : At cX8_layGroups 7 (.iload_n 1) 1 8 := ⟨by decide +kernel, rfl⟩
theorem aX8_layGroups_8 : At cX8_layGroups 8 (.aload_n 0) 1 9 := ⟨by decide +kernel, rfl⟩
theorem aX8_layGroups_9 : At cX8_layGroups 9 (.getfield 7) 3 12 := ⟨by decide +kernel, rfl⟩
theorem aX8_layGroups_12 : At cX8_layGroups 12 (.if_icmp .ge 95) 3 15 := ⟨by decide +kernel, rfl⟩
theorem aX8_layGroups_15 : At cX8_layGroups 15 (.iload_n 1) 1 16 := ⟨by decide +kernel, rfl⟩
theorem aX8_layGroups_16 : At cX8_layGroups 16 (.istore_n 2) 1 17 := ⟨by decide +kernel, rfl⟩
theorem aX8_layGroups_17 : At cX8_layGroups 17 (.iload_n 1) 1 18 := ⟨by decide +kernel, rfl⟩
theorem aX8_layGroups_18 : At cX8_layGroups 18 (.iconst 1) 1 19 := ⟨by decide +kernel, rfl⟩
theorem aX8_layGroups_19 : At cX8_layGroups 19 .isub 1 20 := ⟨by decide +kernel, rfl⟩
theorem aX8_layGroups_20 : At cX8_layGroups 20 (.istore_n 3) 1 21 := ⟨by decide +kernel, rfl⟩
theorem aX8_layGroups_21 : At cX8_layGroups 21 (.iload_n 3) 1 22 := ⟨by decide +kernel, rfl⟩
theorem aX8_layGroups_22 : At cX8_layGroups 22 (.ifCond .lt 29) 3 25 := ⟨by decide +kernel, rfl⟩
theorem aX8_layGroups_25 : At cX8_layGroups 25 (.aload_n 0) 1 26 := ⟨by decide +kernel, rfl⟩
theorem aX8_layGroups_26 : At cX8_layGroups 26 (.getfield 39) 3 29 := ⟨by decide +kernel, rfl⟩
theorem aX8_layGroups_29 : At cX8_layGroups 29 (.bipush 6) 2 31 := ⟨by decide +kernel, rfl⟩
theorem aX8_layGroups_31 : At cX8_layGroups 31 (.iload_n 1) 1 32 := ⟨by decide +kernel, rfl⟩
theorem aX8_layGroups_32 : At cX8_layGroups 32 .imul 1 33 := ⟨by decide +kernel, rfl⟩
theorem aX8_layGroups_33 : At cX8_layGroups 33 (.iload_n 3) 1 34 := ⟨by decide +kernel, rfl⟩
theorem aX8_layGroups_34 : At cX8_layGroups 34 .iadd 1 35 := ⟨by decide +kernel, rfl⟩
theorem aX8_layGroups_35 : At cX8_layGroups 35 .baload 1 36 := ⟨by decide +kernel, rfl⟩
theorem aX8_layGroups_36 : At cX8_layGroups 36 (.ifCond .eq 7) 3 39 := ⟨by decide +kernel, rfl⟩
theorem aX8_layGroups_39 : At cX8_layGroups 39 (.iload_n 3) 1 40 := ⟨by decide +kernel, rfl⟩
theorem aX8_layGroups_40 : At cX8_layGroups 40 (.goto 4) 3 43 := ⟨by decide +kernel, rfl⟩
theorem aX8_layGroups_43 : At cX8_layGroups 43 (.iload_n 2) 1 44 := ⟨by decide +kernel, rfl⟩
theorem aX8_layGroups_44 : At cX8_layGroups 44 (.istore_n 2) 1 45 := ⟨by decide +kernel, rfl⟩
theorem aX8_layGroups_45 : At cX8_layGroups 45 (.iinc 3 (-1)) 3 48 := ⟨by decide +kernel, rfl⟩
theorem aX8_layGroups_48 : At cX8_layGroups 48 (.goto (-27)) 3 51 := ⟨by decide +kernel, rfl⟩
theorem aX8_layGroups_51 : At cX8_layGroups 51 (.iload_n 2) 1 52 := ⟨by decide +kernel, rfl⟩
theorem aX8_layGroups_52 : At cX8_layGroups 52 (.iload_n 1) 1 53 := ⟨by decide +kernel, rfl⟩
theorem aX8_layGroups_53 : At cX8_layGroups 53 (.if_icmp .ne 36) 3 56 := ⟨by decide +kernel, rfl⟩
theorem aX8_layGroups_56 : At cX8_layGroups 56 (.aload_n 0) 1 57 := ⟨by decide +kernel, rfl⟩
theorem aX8_layGroups_57 : At cX8_layGroups 57 (.getfield 42) 3 60 := ⟨by decide +kernel, rfl⟩
theorem aX8_layGroups_60 : At cX8_layGroups 60 (.aload_n 0) 1 61 := ⟨by decide +kernel, rfl⟩
theorem aX8_layGroups_61 : At cX8_layGroups 61 (.getfield 118) 3 64 := ⟨by decide +kernel, rfl⟩
theorem aX8_layGroups_64 : At cX8_layGroups 64 (.iload_n 1) 1 65 := ⟨by decide +kernel, rfl⟩
theorem aX8_layGroups_65 : At cX8_layGroups 65 .iastore 1 66 := ⟨by decide +kernel, rfl⟩
theorem aX8_layGroups_66 : At cX8_layGroups 66 (.aload_n 0) 1 67 := ⟨by decide +kernel, rfl⟩
theorem aX8_layGroups_67 : At cX8_layGroups 67 (.getfield 45) 3 70 := ⟨by decide +kernel, rfl⟩
theorem aX8_layGroups_70 : At cX8_layGroups 70 (.iload_n 1) 1 71 := ⟨by decide +kernel, rfl⟩
theorem aX8_layGroups_71 : At cX8_layGroups 71 (.aload_n 0) 1 72 := ⟨by decide +kernel, rfl⟩
theorem aX8_layGroups_72 : At cX8_layGroups 72 (.getfield 118) 3 75 := ⟨by decide +kernel, rfl⟩
theorem aX8_layGroups_75 : At cX8_layGroups 75 .iastore 1 76 := ⟨by decide +kernel, rfl⟩
theorem aX8_layGroups_76 : At cX8_layGroups 76 (.aload_n 0) 1 77 := ⟨by decide +kernel, rfl⟩
theorem aX8_layGroups_77 : At cX8_layGroups 77 .dup 1 78 := ⟨by decide +kernel, rfl⟩
theorem aX8_layGroups_78 : At cX8_layGroups 78 (.getfield 118) 3 81 := ⟨by decide +kernel, rfl⟩
theorem aX8_layGroups_81 : At cX8_layGroups 81 (.iconst 1) 1 82 := ⟨by decide +kernel, rfl⟩
theorem aX8_layGroups_82 : At cX8_layGroups 82 .iadd 1 83 := ⟨by decide +kernel, rfl⟩
theorem aX8_layGroups_83 : At cX8_layGroups 83 (.putfield 118) 3 86 := ⟨by decide +kernel, rfl⟩
theorem aX8_layGroups_86 : At cX8_layGroups 86 (.goto 15) 3 89 := ⟨by decide +kernel, rfl⟩
theorem aX8_layGroups_89 : At cX8_layGroups 89 (.aload_n 0) 1 90 := ⟨by decide +kernel, rfl⟩
theorem aX8_layGroups_90 : At cX8_layGroups 90 (.getfield 45) 3 93 := ⟨by decide +kernel, rfl⟩
theorem aX8_layGroups_93 : At cX8_layGroups 93 (.iload_n 1) 1 94 := ⟨by decide +kernel, rfl⟩
theorem aX8_layGroups_94 : At cX8_layGroups 94 (.aload_n 0) 1 95 := ⟨by decide +kernel, rfl⟩
theorem aX8_layGroups_95 : At cX8_layGroups 95 (.getfield 45) 3 98 := ⟨by decide +kernel, rfl⟩
theorem aX8_layGroups_98 : At cX8_layGroups 98 (.iload_n 2) 1 99 := ⟨by decide +kernel, rfl⟩
theorem aX8_layGroups_99 : At cX8_layGroups 99 .iaload 1 100 := ⟨by decide +kernel, rfl⟩
theorem aX8_layGroups_100 : At cX8_layGroups 100 .iastore 1 101 := ⟨by decide +kernel, rfl⟩
theorem aX8_layGroups_101 : At cX8_layGroups 101 (.iinc 1 1) 3 104 := ⟨by decide +kernel, rfl⟩
theorem aX8_layGroups_104 : At cX8_layGroups 104 (.goto (-97)) 3 107 := ⟨by decide +kernel, rfl⟩
theorem aX8_layGroups_107 : At cX8_layGroups 107 .return_ 1 108 := ⟨by decide +kernel, rfl⟩
theorem aX8_layOrder_0 : At cX8_layOrder 0 (.iload_n 1) 1 1 := ⟨by decide +kernel, rfl⟩
theorem aX8_layOrder_1 : At cX8_layOrder 1 (.istore_n 3) 1 2 := ⟨by decide +kernel, rfl⟩
theorem aX8_layOrder_2 : At cX8_layOrder 2 (.iconst 0) 1 3 := ⟨by decide +kernel, rfl⟩
theorem aX8_layOrder_3 : At cX8_layOrder 3 (.istore 4) 2 5 := ⟨by decide +kernel, rfl⟩
theorem aX8_layOrder_5 : At cX8_layOrder 5 (.aload_n 0) 1 6 := ⟨by decide +kernel, rfl⟩
theorem aX8_layOrder_6 : At cX8_layOrder 6 (.getfield 7) 3 9 := ⟨by decide +kernel, rfl⟩
theorem aX8_layOrder_9 : At cX8_layOrder 9 (.iconst 1) 1 10 := ⟨by decide +kernel, rfl⟩
theorem aX8_layOrder_10 : At cX8_layOrder 10 .isub 1 11 := ⟨by decide +kernel, rfl⟩
theorem aX8_layOrder_11 : At cX8_layOrder 11 (.istore 5) 2 13 := ⟨by decide +kernel, rfl⟩
theorem aX8_layOrder_13 : At cX8_layOrder 13 (.iload 5) 2 15 := ⟨by decide +kernel, rfl⟩
theorem aX8_layOrder_15 : At cX8_layOrder 15 (.ifCond .lt 37) 3 18 := ⟨by decide +kernel, rfl⟩
theorem aX8_layOrder_18 : At cX8_layOrder 18 (.aload_n 0) 1 19 := ⟨by decide +kernel, rfl⟩
theorem aX8_layOrder_19 : At cX8_layOrder 19 (.getfield 70) 3 22 := ⟨by decide +kernel, rfl⟩
theorem aX8_layOrder_22 : At cX8_layOrder 22 (.iload 5) 2 24 := ⟨by decide +kernel, rfl⟩
theorem aX8_layOrder_24 : At cX8_layOrder 24 (.iload_n 3) 1 25 := ⟨by decide +kernel, rfl⟩
theorem aX8_layOrder_25 : At cX8_layOrder 25 (.iload_n 2) 1 26 := ⟨by decide +kernel, rfl⟩
theorem aX8_layOrder_26 : At cX8_layOrder 26 .irem 1 27 := ⟨by decide +kernel, rfl⟩
theorem aX8_layOrder_27 : At cX8_layOrder 27 .iastore 1 28 := ⟨by decide +kernel, rfl⟩
theorem aX8_layOrder_28 : At cX8_layOrder 28 (.iload_n 3) 1 29 := ⟨by decide +kernel, rfl⟩
theorem aX8_layOrder_29 : At cX8_layOrder 29 (.iload_n 2) 1 30 := ⟨by decide +kernel, rfl⟩
theorem aX8_layOrder_30 : At cX8_layOrder 30 .idiv 1 31 := ⟨by decide +kernel, rfl⟩
theorem aX8_layOrder_31 : At cX8_layOrder 31 (.istore_n 3) 1 32 := ⟨by decide +kernel, rfl⟩
theorem aX8_layOrder_32 : At cX8_layOrder 32 (.iload 4) 2 34 := ⟨by decide +kernel, rfl⟩
theorem aX8_layOrder_34 : At cX8_layOrder 34 (.iconst 1) 1 35 := ⟨by decide +kernel, rfl⟩
theorem aX8_layOrder_35 : At cX8_layOrder 35 (.aload_n 0) 1 36 := ⟨by decide +kernel, rfl⟩
theorem aX8_layOrder_36 : At cX8_layOrder 36 (.getfield 70) 3 39 := ⟨by decide +kernel, rfl⟩
theorem aX8_layOrder_39 : At cX8_layOrder 39 (.iload 5) 2 41 := ⟨by decide +kernel, rfl⟩
theorem aX8_layOrder_41 : At cX8_layOrder 41 .iaload 1 42 := ⟨by decide +kernel, rfl⟩
theorem aX8_layOrder_42 : At cX8_layOrder 42 .ishl 1 43 := ⟨by decide +kernel, rfl⟩
theorem aX8_layOrder_43 : At cX8_layOrder 43 .ior 1 44 := ⟨by decide +kernel, rfl⟩
theorem aX8_layOrder_44 : At cX8_layOrder 44 (.istore 4) 2 46 := ⟨by decide +kernel, rfl⟩
theorem aX8_layOrder_46 : At cX8_layOrder 46 (.iinc 5 (-1)) 3 49 := ⟨by decide +kernel, rfl⟩
theorem aX8_layOrder_49 : At cX8_layOrder 49 (.goto (-36)) 3 52 := ⟨by decide +kernel, rfl⟩
theorem aX8_layOrder_52 : At cX8_layOrder 52 (.iload_n 3) 1 53 := ⟨by decide +kernel, rfl⟩
theorem aX8_layOrder_53 : At cX8_layOrder 53 (.ifCond .ne 20) 3 56 := ⟨by decide +kernel, rfl⟩
theorem aX8_layOrder_56 : At cX8_layOrder 56 (.iload 4) 2 58 := ⟨by decide +kernel, rfl⟩
theorem aX8_layOrder_58 : At cX8_layOrder 58 (.iconst 1) 1 59 := ⟨by decide +kernel, rfl⟩
theorem aX8_layOrder_59 : At cX8_layOrder 59 (.aload_n 0) 1 60 := ⟨by decide +kernel, rfl⟩
theorem aX8_layOrder_60 : At cX8_layOrder 60 (.getfield 7) 3 63 := ⟨by decide +kernel, rfl⟩
theorem aX8_layOrder_63 : At cX8_layOrder 63 .ishl 1 64 := ⟨by decide +kernel, rfl⟩
theorem aX8_layOrder_64 : At cX8_layOrder 64 (.iconst 1) 1 65 := ⟨by decide +kernel, rfl⟩
theorem aX8_layOrder_65 : At cX8_layOrder 65 .isub 1 66 := ⟨by decide +kernel, rfl⟩
theorem aX8_layOrder_66 : At cX8_layOrder 66 (.if_icmp .ne 7) 3 69 := ⟨by decide +kernel, rfl⟩
theorem aX8_layOrder_69 : At cX8_layOrder 69 (.iconst 1) 1 70 := ⟨by decide +kernel, rfl⟩
theorem aX8_layOrder_70 : At cX8_layOrder 70 (.goto 4) 3 73 := ⟨by decide +kernel, rfl⟩
theorem aX8_layOrder_73 : At cX8_layOrder 73 (.iconst 0) 1 74 := ⟨by decide +kernel, rfl⟩
theorem aX8_layOrder_74 : At cX8_layOrder 74 .ireturn 1 75 := ⟨by decide +kernel, rfl⟩
theorem aX8_laySpans_0 : At cX8_laySpans 0 (.iconst 0) 1 1 := ⟨by decide +kernel, rfl⟩
theorem aX8_laySpans_1 : At cX8_laySpans 1 (.istore_n 1) 1 2 := ⟨by decide +kernel, rfl⟩
theorem aX8_laySpans_2 : At cX8_laySpans 2 (.iload_n 1) 1 3 := ⟨by decide +kernel, rfl⟩
theorem aX8_laySpans_3 : At cX8_laySpans 3 (.bipush 6) 2 5 := ⟨by decide +kernel, rfl⟩
theorem aX8_laySpans_5 : At cX8_laySpans 5 (.if_icmp .ge 33) 3 8 := ⟨by decide +kernel, rfl⟩
theorem aX8_laySpans_8 : At cX8_laySpans 8 (.aload_n 0) 1 9 := ⟨by decide +kernel, rfl⟩
theorem aX8_laySpans_9 : At cX8_laySpans 9 (.getfield 64) 3 12 := ⟨by decide +kernel, rfl⟩
theorem aX8_laySpans_12 : At cX8_laySpans 12 (.iload_n 1) 1 13 := ⟨by decide +kernel, rfl⟩
theorem aX8_laySpans_13 : At cX8_laySpans 13 (.aload_n 0) 1 14 := ⟨by decide +kernel, rfl⟩
theorem aX8_laySpans_14 : At cX8_laySpans 14 (.getfield 26) 3 17 := ⟨by decide +kernel, rfl⟩
theorem aX8_laySpans_17 : At cX8_laySpans 17 (.iload_n 1) 1 18 := ⟨by decide +kernel, rfl⟩
theorem aX8_laySpans_18 : At cX8_laySpans 18 .iaload 1 19 := ⟨by decide +kernel, rfl⟩
theorem aX8_laySpans_19 : At cX8_laySpans 19 .iastore 1 20 := ⟨by decide +kernel, rfl⟩
theorem aX8_laySpans_20 : At cX8_laySpans 20 (.aload_n 0) 1 21 := ⟨by decide +kernel, rfl⟩
theorem aX8_laySpans_21 : At cX8_laySpans 21 (.getfield 67) 3 24 := ⟨by decide +kernel, rfl⟩
theorem aX8_laySpans_24 : At cX8_laySpans 24 (.iload_n 1) 1 25 := ⟨by decide +kernel, rfl⟩
theorem aX8_laySpans_25 : At cX8_laySpans 25 (.aload_n 0) 1 26 := ⟨by decide +kernel, rfl⟩
theorem aX8_laySpans_26 : At cX8_laySpans 26 (.getfield 29) 3 29 := ⟨by decide +kernel, rfl⟩
theorem aX8_laySpans_29 : At cX8_laySpans 29 (.iload_n 1) 1 30 := ⟨by decide +kernel, rfl⟩
theorem aX8_laySpans_30 : At cX8_laySpans 30 .iaload 1 31 := ⟨by decide +kernel, rfl⟩
theorem aX8_laySpans_31 : At cX8_laySpans 31 .iastore 1 32 := ⟨by decide +kernel, rfl⟩
theorem aX8_laySpans_32 : At cX8_laySpans 32 (.iinc 1 1) 3 35 := ⟨by decide +kernel, rfl⟩
theorem aX8_laySpans_35 : At cX8_laySpans 35 (.goto (-33)) 3 38 := ⟨by decide +kernel, rfl⟩
theorem aX8_laySpans_38 : At cX8_laySpans 38 (.iconst 1) 1 39 := ⟨by decide +kernel, rfl⟩
theorem aX8_laySpans_39 : At cX8_laySpans 39 (.istore_n 1) 1 40 := ⟨by decide +kernel, rfl⟩
theorem aX8_laySpans_40 : At cX8_laySpans 40 (.iload_n 1) 1 41 := ⟨by decide +kernel, rfl⟩
theorem aX8_laySpans_41 : At cX8_laySpans 41 (.ifCond .eq 192) 3 44 := ⟨by decide +kernel, rfl⟩
theorem aX8_laySpans_44 : At cX8_laySpans 44 (.aload_n 0) 1 45 := ⟨by decide +kernel, rfl⟩
theorem aX8_laySpans_45 : At cX8_laySpans 45 (.invokevirtual 171) 3 48 := ⟨by decide +kernel, rfl⟩
theorem aX8_laySpans_48 : At cX8_laySpans 48 (.ifCond .eq 185) 3 51 := ⟨by decide +kernel, rfl⟩
theorem aX8_laySpans_51 : At cX8_laySpans 51 (.iconst 0) 1 52 := ⟨by decide +kernel, rfl⟩
theorem aX8_laySpans_52 : At cX8_laySpans 52 (.istore_n 1) 1 53 := ⟨by decide +kernel, rfl⟩
theorem aX8_laySpans_53 : At cX8_laySpans 53 (.iconst 0) 1 54 := ⟨by decide +kernel, rfl⟩
theorem aX8_laySpans_54 : At cX8_laySpans 54 (.istore_n 2) 1 55 := ⟨by decide +kernel, rfl⟩
theorem aX8_laySpans_55 : At cX8_laySpans 55 (.iload_n 2) 1 56 := ⟨by decide +kernel, rfl⟩
theorem aX8_laySpans_56 : At cX8_laySpans 56 (.aload_n 0) 1 57 := ⟨by decide +kernel, rfl⟩
theorem aX8_laySpans_57 : At cX8_laySpans 57 (.getfield 83) 3 60 := ⟨by decide +kernel, rfl⟩
theorem aX8_laySpans_60 : At cX8_laySpans 60 (.if_icmp .ge 170) 3 63 := ⟨by decide +kernel, rfl⟩
theorem aX8_laySpans_63 : At cX8_laySpans 63 (.aload_n 0) 1 64 := ⟨by decide +kernel, rfl⟩
theorem aX8_laySpans_64 : At cX8_laySpans 64 (.getfield 17) 3 67 := ⟨by decide +kernel, rfl⟩
theorem aX8_laySpans_67 : At cX8_laySpans 67 (.iconst 5) 1 68 := ⟨by decide +kernel, rfl⟩
theorem aX8_laySpans_68 : At cX8_laySpans 68 (.iload_n 2) 1 69 := ⟨by decide +kernel, rfl⟩
theorem aX8_laySpans_69 : At cX8_laySpans 69 .imul 1 70 := ⟨by decide +kernel, rfl⟩
theorem aX8_laySpans_70 : At cX8_laySpans 70 .iaload 1 71 := ⟨by decide +kernel, rfl⟩
theorem aX8_laySpans_71 : At cX8_laySpans 71 (.istore_n 3) 1 72 := ⟨by decide +kernel, rfl⟩
theorem aX8_laySpans_72 : At cX8_laySpans 72 (.aload_n 0) 1 73 := ⟨by decide +kernel, rfl⟩
theorem aX8_laySpans_73 : At cX8_laySpans 73 (.getfield 17) 3 76 := ⟨by decide +kernel, rfl⟩
theorem aX8_laySpans_76 : At cX8_laySpans 76 (.iconst 5) 1 77 := ⟨by decide +kernel, rfl⟩
theorem aX8_laySpans_77 : At cX8_laySpans 77 (.iload_n 2) 1 78 := ⟨by decide +kernel, rfl⟩
theorem aX8_laySpans_78 : At cX8_laySpans 78 .imul 1 79 := ⟨by decide +kernel, rfl⟩
theorem aX8_laySpans_79 : At cX8_laySpans 79 (.iconst 1) 1 80 := ⟨by decide +kernel, rfl⟩
theorem aX8_laySpans_80 : At cX8_laySpans 80 .iadd 1 81 := ⟨by decide +kernel, rfl⟩
theorem aX8_laySpans_81 : At cX8_laySpans 81 .iaload 1 82 := ⟨by decide +kernel, rfl⟩
theorem aX8_laySpans_82 : At cX8_laySpans 82 (.istore 4) 2 84 := ⟨by decide +kernel, rfl⟩
theorem aX8_laySpans_84 : At cX8_laySpans 84 (.aload_n 0) 1 85 := ⟨by decide +kernel, rfl⟩
theorem aX8_laySpans_85 : At cX8_laySpans 85 (.getfield 17) 3 88 := ⟨by decide +kernel, rfl⟩
theorem aX8_laySpans_88 : At cX8_laySpans 88 (.iconst 5) 1 89 := ⟨by decide +kernel, rfl⟩
theorem aX8_laySpans_89 : At cX8_laySpans 89 (.iload_n 2) 1 90 := ⟨by decide +kernel, rfl⟩
theorem aX8_laySpans_90 : At cX8_laySpans 90 .imul 1 91 := ⟨by decide +kernel, rfl⟩
theorem aX8_laySpans_91 : At cX8_laySpans 91 (.iconst 2) 1 92 := ⟨by decide +kernel, rfl⟩
theorem aX8_laySpans_92 : At cX8_laySpans 92 .iadd 1 93 := ⟨by decide +kernel, rfl⟩
theorem aX8_laySpans_93 : At cX8_laySpans 93 .iaload 1 94 := ⟨by decide +kernel, rfl⟩
theorem aX8_laySpans_94 : At cX8_laySpans 94 (.istore 5) 2 96 := ⟨by decide +kernel, rfl⟩
theorem aX8_laySpans_96 : At cX8_laySpans 96 (.aload_n 0) 1 97 := ⟨by decide +kernel, rfl⟩
theorem aX8_laySpans_97 : At cX8_laySpans 97 (.getfield 168) 3 100 := ⟨by decide +kernel, rfl⟩
theorem aX8_laySpans_100 : At cX8_laySpans 100 (.aload_n 0) 1 101 := ⟨by decide +kernel, rfl⟩
theorem aX8_laySpans_101 : At cX8_laySpans 101 (.getfield 17) 3 104 := ⟨by decide +kernel, rfl⟩
theorem aX8_laySpans_104 : At cX8_laySpans 104 (.iconst 5) 1 105 := ⟨by decide +kernel, rfl⟩
theorem aX8_laySpans_105 : At cX8_laySpans 105 (.iload_n 2) 1 106 := ⟨by decide +kernel, rfl⟩
theorem aX8_laySpans_106 : At cX8_laySpans 106 .imul 1 107 := ⟨by decide +kernel, rfl⟩
theorem aX8_laySpans_107 : At cX8_laySpans 107 (.iconst 3) 1 108 := ⟨by decide +kernel, rfl⟩
theorem aX8_laySpans_108 : At cX8_laySpans 108 .iadd 1 109 := ⟨by decide +kernel, rfl⟩
theorem aX8_laySpans_109 : At cX8_laySpans 109 .iaload 1 110 := ⟨by decide +kernel, rfl⟩
theorem aX8_laySpans_110 : At cX8_laySpans 110 .imul 1 111 := ⟨by decide +kernel, rfl⟩
theorem aX8_laySpans_111 : At cX8_laySpans 111 (.istore 6) 2 113 := ⟨by decide +kernel, rfl⟩
theorem aX8_laySpans_113 : At cX8_laySpans 113 (.aload_n 0) 1 114 := ⟨by decide +kernel, rfl⟩
theorem aX8_laySpans_114 : At cX8_laySpans 114 (.getfield 168) 3 117 := ⟨by decide +kernel, rfl⟩
theorem aX8_laySpans_117 : At cX8_laySpans 117 (.aload_n 0) 1 118 := ⟨by decide +kernel, rfl⟩
theorem aX8_laySpans_118 : At cX8_laySpans 118 (.getfield 17) 3 121 := ⟨by decide +kernel, rfl⟩
theorem aX8_laySpans_121 : At cX8_laySpans 121 (.iconst 5) 1 122 := ⟨by decide +kernel, rfl⟩
theorem aX8_laySpans_122 : At cX8_laySpans 122 (.iload_n 2) 1 123 := ⟨by decide +kernel, rfl⟩
theorem aX8_laySpans_123 : At cX8_laySpans 123 .imul 1 124 := ⟨by decide +kernel, rfl⟩
theorem aX8_laySpans_124 : At cX8_laySpans 124 (.iconst 4) 1 125 := ⟨by decide +kernel, rfl⟩
theorem aX8_laySpans_125 : At cX8_laySpans 125 .iadd 1 126 := ⟨by decide +kernel, rfl⟩
theorem aX8_laySpans_126 : At cX8_laySpans 126 .iaload 1 127 := ⟨by decide +kernel, rfl⟩
theorem aX8_laySpans_127 : At cX8_laySpans 127 .imul 1 128 := ⟨by decide +kernel, rfl⟩
theorem aX8_laySpans_128 : At cX8_laySpans 128 (.istore 7) 2 130 := ⟨by decide +kernel, rfl⟩
theorem aX8_laySpans_130 : At cX8_laySpans 130 (.iload 5) 2 132 := ⟨by decide +kernel, rfl⟩
theorem aX8_laySpans_132 : At cX8_laySpans 132 (.iconst 2) 1 133 := ⟨by decide +kernel, rfl⟩
theorem aX8_laySpans_133 : At cX8_laySpans 133 (.if_icmp .eq 31) 3 136 := ⟨by decide +kernel, rfl⟩
theorem aX8_laySpans_136 : At cX8_laySpans 136 (.aload_n 0) 1 137 := ⟨by decide +kernel, rfl⟩
theorem aX8_laySpans_137 : At cX8_laySpans 137 (.iload_n 3) 1 138 := ⟨by decide +kernel, rfl⟩
theorem aX8_laySpans_138 : At cX8_laySpans 138 (.iload 4) 2 140 := ⟨by decide +kernel, rfl⟩
theorem aX8_laySpans_140 : At cX8_laySpans 140 (.iload 7) 2 142 := ⟨by decide +kernel, rfl⟩
theorem aX8_laySpans_142 : At cX8_laySpans 142 (.iload 5) 2 144 := ⟨by decide +kernel, rfl⟩
theorem aX8_laySpans_144 : At cX8_laySpans 144 (.iconst 1) 1 145 := ⟨by decide +kernel, rfl⟩
theorem aX8_laySpans_145 : At cX8_laySpans 145 (.if_icmp .ne 7) 3 148 := ⟨by decide +kernel, rfl⟩
theorem aX8_laySpans_148 : At cX8_laySpans 148 (.iconst 1) 1 149 := ⟨by decide +kernel, rfl⟩
theorem aX8_laySpans_149 : At cX8_laySpans 149 (.goto 4) 3 152 := ⟨by decide +kernel, rfl⟩
theorem aX8_laySpans_152 : At cX8_laySpans 152 (.iconst 0) 1 153 := ⟨by decide +kernel, rfl⟩
theorem aX8_laySpans_153 : At cX8_laySpans 153 .isub 1 154 := ⟨by decide +kernel, rfl⟩
theorem aX8_laySpans_154 : At cX8_laySpans 154 (.invokevirtual 174) 3 157 := ⟨by decide +kernel, rfl⟩
theorem aX8_laySpans_157 : At cX8_laySpans 157 (.ifCond .eq 7) 3 160 := ⟨by decide +kernel, rfl⟩
theorem aX8_laySpans_160 : At cX8_laySpans 160 (.iconst 1) 1 161 := ⟨by decide +kernel, rfl⟩
theorem aX8_laySpans_161 : At cX8_laySpans 161 (.goto 4) 3 164 := ⟨by decide +kernel, rfl⟩
theorem aX8_laySpans_164 : At cX8_laySpans 164 (.iconst 0) 1 165 := ⟨by decide +kernel, rfl⟩
theorem aX8_laySpans_165 : At cX8_laySpans 165 (.istore 8) 2 167 := ⟨by decide +kernel, rfl⟩
theorem aX8_laySpans_167 : At cX8_laySpans 167 (.iload 5) 2 169 := ⟨by decide +kernel, rfl⟩
theorem aX8_laySpans_169 : At cX8_laySpans 169 (.iconst 1) 1 170 := ⟨by decide +kernel, rfl⟩
theorem aX8_laySpans_170 : At cX8_laySpans 170 (.if_icmp .eq 31) 3 173 := ⟨by decide +kernel, rfl⟩
theorem aX8_laySpans_173 : At cX8_laySpans 173 (.aload_n 0) 1 174 := ⟨by decide +kernel, rfl⟩
theorem aX8_laySpans_174 : At cX8_laySpans 174 (.iload 4) 2 176 := ⟨by decide +kernel, rfl⟩
theorem aX8_laySpans_176 : At cX8_laySpans 176 (.iload_n 3) 1 177 := ⟨by decide +kernel, rfl⟩
theorem aX8_laySpans_177 : At cX8_laySpans 177 (.iload 6) 2 179 := ⟨by decide +kernel, rfl⟩
theorem aX8_laySpans_179 : At cX8_laySpans 179 (.iload 5) 2 181 := ⟨by decide +kernel, rfl⟩
theorem aX8_laySpans_181 : At cX8_laySpans 181 (.iconst 2) 1 182 := ⟨by decide +kernel, rfl⟩
theorem aX8_laySpans_182 : At cX8_laySpans 182 (.if_icmp .ne 7) 3 185 := ⟨by decide +kernel, rfl⟩
theorem aX8_laySpans_185 : At cX8_laySpans 185 (.iconst 1) 1 186 := ⟨by decide +kernel, rfl⟩
theorem aX8_laySpans_186 : At cX8_laySpans 186 (.goto 4) 3 189 := ⟨by decide +kernel, rfl⟩
theorem aX8_laySpans_189 : At cX8_laySpans 189 (.iconst 0) 1 190 := ⟨by decide +kernel, rfl⟩
theorem aX8_laySpans_190 : At cX8_laySpans 190 .isub 1 191 := ⟨by decide +kernel, rfl⟩
theorem aX8_laySpans_191 : At cX8_laySpans 191 (.invokevirtual 174) 3 194 := ⟨by decide +kernel, rfl⟩
theorem aX8_laySpans_194 : At cX8_laySpans 194 (.ifCond .eq 7) 3 197 := ⟨by decide +kernel, rfl⟩
theorem aX8_laySpans_197 : At cX8_laySpans 197 (.iconst 1) 1 198 := ⟨by decide +kernel, rfl⟩
theorem aX8_laySpans_198 : At cX8_laySpans 198 (.goto 4) 3 201 := ⟨by decide +kernel, rfl⟩
theorem aX8_laySpans_201 : At cX8_laySpans 201 (.iconst 0) 1 202 := ⟨by decide +kernel, rfl⟩
theorem aX8_laySpans_202 : At cX8_laySpans 202 (.istore 9) 2 204 := ⟨by decide +kernel, rfl⟩
theorem aX8_laySpans_204 : At cX8_laySpans 204 (.iload_n 1) 1 205 := ⟨by decide +kernel, rfl⟩
theorem aX8_laySpans_205 : At cX8_laySpans 205 (.ifCond .ne 13) 3 208 := ⟨by decide +kernel, rfl⟩
theorem aX8_laySpans_208 : At cX8_laySpans 208 (.iload 8) 2 210 := ⟨by decide +kernel, rfl⟩
theorem aX8_laySpans_210 : At cX8_laySpans 210 (.ifCond .ne 8) 3 213 := ⟨by decide +kernel, rfl⟩
theorem aX8_laySpans_213 : At cX8_laySpans 213 (.iload 9) 2 215 := ⟨by decide +kernel, rfl⟩
theorem aX8_laySpans_215 : At cX8_laySpans 215 (.ifCond .eq 7) 3 218 := ⟨by decide +kernel, rfl⟩
theorem aX8_laySpans_218 : At cX8_laySpans 218 (.iconst 1) 1 219 := ⟨by decide +kernel, rfl⟩
theorem aX8_laySpans_219 : At cX8_laySpans 219 (.goto 4) 3 222 := ⟨by decide +kernel, rfl⟩
theorem aX8_laySpans_222 : At cX8_laySpans 222 (.iconst 0) 1 223 := ⟨by decide +kernel, rfl⟩
theorem aX8_laySpans_223 : At cX8_laySpans 223 (.istore_n 1) 1 224 := ⟨by decide +kernel, rfl⟩
theorem aX8_laySpans_224 : At cX8_laySpans 224 (.iinc 2 1) 3 227 := ⟨by decide +kernel, rfl⟩
theorem aX8_laySpans_227 : At cX8_laySpans 227 (.goto (-172)) 3 230 := ⟨by decide +kernel, rfl⟩
theorem aX8_laySpans_230 : At cX8_laySpans 230 (.goto (-190)) 3 233 := ⟨by decide +kernel, rfl⟩
theorem aX8_laySpans_233 : At cX8_laySpans 233 (.aload_n 0) 1 234 := ⟨by decide +kernel, rfl⟩
theorem aX8_laySpans_234 : At cX8_laySpans 234 (.invokevirtual 171) 3 237 := ⟨by decide +kernel, rfl⟩
theorem aX8_laySpans_237 : At cX8_laySpans 237 .ireturn 1 238 := ⟨by decide +kernel, rfl⟩
theorem aX8_layStands_0 : At cX8_layStands 0 (.aload_n 0) 1 1 := ⟨by decide +kernel, rfl⟩
theorem aX8_layStands_1 : At cX8_layStands 1 (.iconst 0) 1 2 := ⟨by decide +kernel, rfl⟩
theorem aX8_layStands_2 : At cX8_layStands 2 (.putfield 139) 3 5 := ⟨by decide +kernel, rfl⟩
theorem aX8_layStands_5 : At cX8_layStands 5 (.iconst 0) 1 6 := ⟨by decide +kernel, rfl⟩
theorem aX8_layStands_6 : At cX8_layStands 6 (.istore_n 3) 1 7 := ⟨by decide +kernel, rfl⟩
theorem aX8_layStands_7 : At cX8_layStands 7 (.iload_n 3) 1 8 := ⟨by decide +kernel, rfl⟩
theorem aX8_layStands_8 : At cX8_layStands 8 (.ldc 60) 2 10 := ⟨by decide +kernel, rfl⟩
theorem aX8_layStands_10 : At cX8_layStands 10 (.if_icmp .ge 17) 3 13 := ⟨by decide +kernel, rfl⟩
theorem aX8_layStands_13 : At cX8_layStands 13 (.aload_n 0) 1 14 := ⟨by decide +kernel, rfl⟩
theorem aX8_layStands_14 : At cX8_layStands 14 (.getfield 61) 3 17 := ⟨by decide +kernel, rfl⟩
theorem aX8_layStands_17 : At cX8_layStands 17 (.iload_n 3) 1 18 := ⟨by decide +kernel, rfl⟩
theorem aX8_layStands_18 : At cX8_layStands 18 (.bipush (-6)) 2 20 := ⟨by decide +kernel, rfl⟩
theorem aX8_layStands_20 : At cX8_layStands 20 .iastore 1 21 := ⟨by decide +kernel, rfl⟩
theorem aX8_layStands_21 : At cX8_layStands 21 (.iinc 3 1) 3 24 := ⟨by decide +kernel, rfl⟩
theorem aX8_layStands_24 : At cX8_layStands 24 (.goto (-17)) 3 27 := ⟨by decide +kernel, rfl⟩
theorem aX8_layStands_27 : At cX8_layStands 27 (.aload_n 0) 1 28 := ⟨by decide +kernel, rfl⟩
theorem aX8_layStands_28 : At cX8_layStands 28 (.iload_n 1) 1 29 := ⟨by decide +kernel, rfl⟩
theorem aX8_layStands_29 : At cX8_layStands 29 (.iload_n 2) 1 30 := ⟨by decide +kernel, rfl⟩
theorem aX8_layStands_30 : At cX8_layStands 30 (.invokevirtual 145) 3 33 := ⟨by decide +kernel, rfl⟩
theorem aX8_layStands_33 : At cX8_layStands 33 (.istore_n 3) 1 34 := ⟨by decide +kernel, rfl⟩
theorem aX8_layStands_34 : At cX8_layStands 34 (.iload_n 3) 1 35 := ⟨by decide +kernel, rfl⟩
theorem aX8_layStands_35 : At cX8_layStands 35 (.istore 4) 2 37 := ⟨by decide +kernel, rfl⟩
theorem aX8_layStands_37 : At cX8_layStands 37 (.iload 4) 2 39 := ⟨by decide +kernel, rfl⟩
theorem aX8_layStands_39 : At cX8_layStands 39 (.aload_n 0) 1 40 := ⟨by decide +kernel, rfl⟩
theorem aX8_layStands_40 : At cX8_layStands 40 (.getfield 139) 3 43 := ⟨by decide +kernel, rfl⟩
theorem aX8_layStands_43 : At cX8_layStands 43 (.if_icmp .ge 114) 3 46 := ⟨by decide +kernel, rfl⟩
theorem aX8_layStands_46 : At cX8_layStands 46 (.aload_n 0) 1 47 := ⟨by decide +kernel, rfl⟩
theorem aX8_layStands_47 : At cX8_layStands 47 (.aload_n 0) 1 48 := ⟨by decide +kernel, rfl⟩
theorem aX8_layStands_48 : At cX8_layStands 48 (.getfield 51) 3 51 := ⟨by decide +kernel, rfl⟩
theorem aX8_layStands_51 : At cX8_layStands 51 (.iload 4) 2 53 := ⟨by decide +kernel, rfl⟩
theorem aX8_layStands_53 : At cX8_layStands 53 .iaload 1 54 := ⟨by decide +kernel, rfl⟩
theorem aX8_layStands_54 : At cX8_layStands 54 (.invokevirtual 152) 3 57 := ⟨by decide +kernel, rfl⟩
theorem aX8_layStands_57 : At cX8_layStands 57 (.istore 5) 2 59 := ⟨by decide +kernel, rfl⟩
theorem aX8_layStands_59 : At cX8_layStands 59 (.aload_n 0) 1 60 := ⟨by decide +kernel, rfl⟩
theorem aX8_layStands_60 : At cX8_layStands 60 (.getfield 57) 3 63 := ⟨by decide +kernel, rfl⟩
theorem aX8_layStands_63 : At cX8_layStands 63 (.iload 4) 2 65 := ⟨by decide +kernel, rfl⟩
theorem aX8_layStands_65 : At cX8_layStands 65 (.iload 5) 2 67 := ⟨by decide +kernel, rfl⟩
theorem aX8_layStands_67 : At cX8_layStands 67 (.ifCond .eq 7) 3 70 := ⟨by decide +kernel, rfl⟩
theorem aX8_layStands_70 : At cX8_layStands 70 (.iconst 0) 1 71 := ⟨by decide +kernel, rfl⟩
theorem aX8_layStands_71 : At cX8_layStands 71 (.goto 5) 3 74 := ⟨by decide +kernel, rfl⟩
theorem aX8_layStands_74 : At cX8_layStands 74 (.bipush (-6)) 2 76 := ⟨by decide +kernel, rfl⟩
theorem aX8_layStands_76 : At cX8_layStands 76 .iastore 1 77 := ⟨by decide +kernel, rfl⟩
theorem aX8_layStands_77 : At cX8_layStands 77 (.iconst 0) 1 78 := ⟨by decide +kernel, rfl⟩
theorem aX8_layStands_78 : At cX8_layStands 78 (.istore 6) 2 80 := ⟨by decide +kernel, rfl⟩
theorem aX8_layStands_80 : At cX8_layStands 80 (.iload 6) 2 82 := ⟨by decide +kernel, rfl⟩
theorem aX8_layStands_82 : At cX8_layStands 82 (.aload_n 0) 1 83 := ⟨by decide +kernel, rfl⟩
theorem aX8_layStands_83 : At cX8_layStands 83 (.getfield 118) 3 86 := ⟨by decide +kernel, rfl⟩
theorem aX8_layStands_86 : At cX8_layStands 86 (.if_icmp .ge 65) 3 89 := ⟨by decide +kernel, rfl⟩
theorem aX8_layStands_89 : At cX8_layStands 89 (.iload 5) 2 91 := ⟨by decide +kernel, rfl⟩
theorem aX8_layStands_91 : At cX8_layStands 91 (.ifCond .ne 60) 3 94 := ⟨by decide +kernel, rfl⟩
theorem aX8_layStands_94 : At cX8_layStands 94 (.iload 6) 2 96 := ⟨by decide +kernel, rfl⟩
theorem aX8_layStands_96 : At cX8_layStands 96 (.aload_n 0) 1 97 := ⟨by decide +kernel, rfl⟩
theorem aX8_layStands_97 : At cX8_layStands 97 (.getfield 54) 3 100 := ⟨by decide +kernel, rfl⟩
theorem aX8_layStands_100 : At cX8_layStands 100 (.iload 4) 2 102 := ⟨by decide +kernel, rfl⟩
theorem aX8_layStands_102 : At cX8_layStands 102 .iaload 1 103 := ⟨by decide +kernel, rfl⟩
theorem aX8_layStands_103 : At cX8_layStands 103 (.if_icmp .eq 42) 3 106 := ⟨by decide +kernel, rfl⟩
theorem aX8_layStands_106 : At cX8_layStands 106 (.aload_n 0) 1 107 := ⟨by decide +kernel, rfl⟩
theorem aX8_layStands_107 : At cX8_layStands 107 (.iload 4) 2 109 := ⟨by decide +kernel, rfl⟩
theorem aX8_layStands_109 : At cX8_layStands 109 (.iload 6) 2 111 := ⟨by decide +kernel, rfl⟩
theorem aX8_layStands_111 : At cX8_layStands 111 (.iconst 0) 1 112 := ⟨by decide +kernel, rfl⟩
theorem aX8_layStands_112 : At cX8_layStands 112 (.invokevirtual 155) 3 115 := ⟨by decide +kernel, rfl⟩
theorem aX8_layStands_115 : At cX8_layStands 115 (.istore 7) 2 117 := ⟨by decide +kernel, rfl⟩
theorem aX8_layStands_117 : At cX8_layStands 117 (.aload_n 0) 1 118 := ⟨by decide +kernel, rfl⟩
theorem aX8_layStands_118 : At cX8_layStands 118 (.iload 4) 2 120 := ⟨by decide +kernel, rfl⟩
theorem aX8_layStands_120 : At cX8_layStands 120 (.iload 6) 2 122 := ⟨by decide +kernel, rfl⟩
theorem aX8_layStands_122 : At cX8_layStands 122 (.iconst 1) 1 123 := ⟨by decide +kernel, rfl⟩
theorem aX8_layStands_123 : At cX8_layStands 123 (.invokevirtual 155) 3 126 := ⟨by decide +kernel, rfl⟩
theorem aX8_layStands_126 : At cX8_layStands 126 (.istore 8) 2 128 := ⟨by decide +kernel, rfl⟩
theorem aX8_layStands_128 : At cX8_layStands 128 (.iload 7) 2 130 := ⟨by decide +kernel, rfl⟩
theorem aX8_layStands_130 : At cX8_layStands 130 (.ifCond .lt 8) 3 133 := ⟨by decide +kernel, rfl⟩
theorem aX8_layStands_133 : At cX8_layStands 133 (.iload 8) 2 135 := ⟨by decide +kernel, rfl⟩
theorem aX8_layStands_135 : At cX8_layStands 135 (.ifCond .ge 7) 3 138 := ⟨by decide +kernel, rfl⟩
theorem aX8_layStands_138 : At cX8_layStands 138 (.iconst 1) 1 139 := ⟨by decide +kernel, rfl⟩
theorem aX8_layStands_139 : At cX8_layStands 139 (.goto 4) 3 142 := ⟨by decide +kernel, rfl⟩
theorem aX8_layStands_142 : At cX8_layStands 142 (.iconst 0) 1 143 := ⟨by decide +kernel, rfl⟩
theorem aX8_layStands_143 : At cX8_layStands 143 (.istore 5) 2 145 := ⟨by decide +kernel, rfl⟩
theorem aX8_layStands_145 : At cX8_layStands 145 (.iinc 6 1) 3 148 := ⟨by decide +kernel, rfl⟩
theorem aX8_layStands_148 : At cX8_layStands 148 (.goto (-68)) 3 151 := ⟨by decide +kernel, rfl⟩
theorem aX8_layStands_151 : At cX8_layStands 151 (.iinc 4 1) 3 154 := ⟨by decide +kernel, rfl⟩
theorem aX8_layStands_154 : At cX8_layStands 154 (.goto (-117)) 3 157 := ⟨by decide +kernel, rfl⟩
theorem aX8_layStands_157 : At cX8_layStands 157 .return_ 1 158 := ⟨by decide +kernel, rfl⟩
theorem aX8_layValues_0 : At cX8_layValues 0 (.iconst 0) 1 1 := ⟨by decide +kernel, rfl⟩
theorem aX8_layValues_1 : At cX8_layValues 1 (.istore_n 1) 1 2 := ⟨by decide +kernel, rfl⟩
theorem aX8_layValues_2 : At cX8_layValues 2 (.aload_n 0) 1 3 := ⟨by decide +kernel, rfl⟩
theorem aX8_layValues_3 : At cX8_layValues 3 (.getfield 57) 3 6 := ⟨by decide +kernel, rfl⟩
theorem aX8_layValues_6 : At cX8_layValues 6 (.iconst 0) 1 7 := ⟨by decide +kernel, rfl⟩
theorem aX8_layValues_7 : At cX8_layValues 7 .iaload 1 8 := ⟨by decide +kernel, rfl⟩
theorem aX8_layValues_8 : At cX8_layValues 8 (.ifCond .ge 89) 3 11 := ⟨by decide +kernel, rfl⟩
theorem aX8_layValues_11 : At cX8_layValues 11 (.iconst 0) 1 12 := ⟨by decide +kernel, rfl⟩
theorem aX8_layValues_12 : At cX8_layValues 12 (.istore_n 2) 1 13 := ⟨by decide +kernel, rfl⟩
theorem aX8_layValues_13 : At cX8_layValues 13 (.iload_n 2) 1 14 := ⟨by decide +kernel, rfl⟩
theorem aX8_layValues_14 : At cX8_layValues 14 (.aload_n 0) 1 15 := ⟨by decide +kernel, rfl⟩
theorem aX8_layValues_15 : At cX8_layValues 15 (.getfield 139) 3 18 := ⟨by decide +kernel, rfl⟩
theorem aX8_layValues_18 : At cX8_layValues 18 (.if_icmp .ge 73) 3 21 := ⟨by decide +kernel, rfl⟩
theorem aX8_layValues_21 : At cX8_layValues 21 (.aload_n 0) 1 22 := ⟨by decide +kernel, rfl⟩
theorem aX8_layValues_22 : At cX8_layValues 22 (.getfield 57) 3 25 := ⟨by decide +kernel, rfl⟩
theorem aX8_layValues_25 : At cX8_layValues 25 (.iload_n 2) 1 26 := ⟨by decide +kernel, rfl⟩
theorem aX8_layValues_26 : At cX8_layValues 26 .iaload 1 27 := ⟨by decide +kernel, rfl⟩
theorem aX8_layValues_27 : At cX8_layValues 27 (.ifCond .lt 7) 3 30 := ⟨by decide +kernel, rfl⟩
theorem aX8_layValues_30 : At cX8_layValues 30 (.iconst 1) 1 31 := ⟨by decide +kernel, rfl⟩
theorem aX8_layValues_31 : At cX8_layValues 31 (.goto 4) 3 34 := ⟨by decide +kernel, rfl⟩
theorem aX8_layValues_34 : At cX8_layValues 34 (.iconst 0) 1 35 := ⟨by decide +kernel, rfl⟩
theorem aX8_layValues_35 : At cX8_layValues 35 (.istore_n 3) 1 36 := ⟨by decide +kernel, rfl⟩
theorem aX8_layValues_36 : At cX8_layValues 36 (.iconst 0) 1 37 := ⟨by decide +kernel, rfl⟩
theorem aX8_layValues_37 : At cX8_layValues 37 (.istore 4) 2 39 := ⟨by decide +kernel, rfl⟩
theorem aX8_layValues_39 : At cX8_layValues 39 (.iload 4) 2 41 := ⟨by decide +kernel, rfl⟩
theorem aX8_layValues_41 : At cX8_layValues 41 (.aload_n 0) 1 42 := ⟨by decide +kernel, rfl⟩
theorem aX8_layValues_42 : At cX8_layValues 42 (.getfield 118) 3 45 := ⟨by decide +kernel, rfl⟩
theorem aX8_layValues_45 : At cX8_layValues 45 (.if_icmp .ge 40) 3 48 := ⟨by decide +kernel, rfl⟩
theorem aX8_layValues_48 : At cX8_layValues 48 (.iload_n 3) 1 49 := ⟨by decide +kernel, rfl⟩
theorem aX8_layValues_49 : At cX8_layValues 49 (.ifCond .ne 36) 3 52 := ⟨by decide +kernel, rfl⟩
theorem aX8_layValues_52 : At cX8_layValues 52 (.aload_n 0) 1 53 := ⟨by decide +kernel, rfl⟩
theorem aX8_layValues_53 : At cX8_layValues 53 (.iload_n 2) 1 54 := ⟨by decide +kernel, rfl⟩
theorem aX8_layValues_54 : At cX8_layValues 54 (.iload 4) 2 56 := ⟨by decide +kernel, rfl⟩
theorem aX8_layValues_56 : At cX8_layValues 56 (.iload_n 1) 1 57 := ⟨by decide +kernel, rfl⟩
theorem aX8_layValues_57 : At cX8_layValues 57 (.invokevirtual 158) 3 60 := ⟨by decide +kernel, rfl⟩
theorem aX8_layValues_60 : At cX8_layValues 60 (.istore_n 3) 1 61 := ⟨by decide +kernel, rfl⟩
theorem aX8_layValues_61 : At cX8_layValues 61 (.aload_n 0) 1 62 := ⟨by decide +kernel, rfl⟩
theorem aX8_layValues_62 : At cX8_layValues 62 (.getfield 57) 3 65 := ⟨by decide +kernel, rfl⟩
theorem aX8_layValues_65 : At cX8_layValues 65 (.iload_n 2) 1 66 := ⟨by decide +kernel, rfl⟩
theorem aX8_layValues_66 : At cX8_layValues 66 (.iload_n 3) 1 67 := ⟨by decide +kernel, rfl⟩
theorem aX8_layValues_67 : At cX8_layValues 67 (.ifCond .eq 9) 3 70 := ⟨by decide +kernel, rfl⟩
theorem aX8_layValues_70 : At cX8_layValues 70 (.iload_n 1) 1 71 := ⟨by decide +kernel, rfl⟩
theorem aX8_layValues_71 : At cX8_layValues 71 (.iconst 1) 1 72 := ⟨by decide +kernel, rfl⟩
theorem aX8_layValues_72 : At cX8_layValues 72 .iadd 1 73 := ⟨by decide +kernel, rfl⟩
theorem aX8_layValues_73 : At cX8_layValues 73 (.goto 5) 3 76 := ⟨by decide +kernel, rfl⟩
theorem aX8_layValues_76 : At cX8_layValues 76 (.bipush (-6)) 2 78 := ⟨by decide +kernel, rfl⟩
theorem aX8_layValues_78 : At cX8_layValues 78 .iastore 1 79 := ⟨by decide +kernel, rfl⟩
theorem aX8_layValues_79 : At cX8_layValues 79 (.iinc 4 1) 3 82 := ⟨by decide +kernel, rfl⟩
theorem aX8_layValues_82 : At cX8_layValues 82 (.goto (-43)) 3 85 := ⟨by decide +kernel, rfl⟩
theorem aX8_layValues_85 : At cX8_layValues 85 (.iinc 2 1) 3 88 := ⟨by decide +kernel, rfl⟩
theorem aX8_layValues_88 : At cX8_layValues 88 (.goto (-75)) 3 91 := ⟨by decide +kernel, rfl⟩
theorem aX8_layValues_91 : At cX8_layValues 91 (.iinc 1 1) 3 94 := ⟨by decide +kernel, rfl⟩
theorem aX8_layValues_94 : At cX8_layValues 94 (.goto (-92)) 3 97 := ⟨by decide +kernel, rfl⟩
theorem aX8_layValues_97 : At cX8_layValues 97 .return_ 1 98 := ⟨by decide +kernel, rfl⟩
theorem aX8_leaves_0 : At cX8_leaves 0 (.iload_n 1) 1 1 := ⟨by decide +kernel, rfl⟩
theorem aX8_leaves_1 : At cX8_leaves 1 (.ifCond .lt 13) 3 4 := ⟨by decide +kernel, rfl⟩
theorem aX8_leaves_4 : At cX8_leaves 4 (.aload_n 0) 1 5 := ⟨by decide +kernel, rfl⟩
theorem aX8_leaves_5 : At cX8_leaves 5 (.iload_n 1) 1 6 := ⟨by decide +kernel, rfl⟩
theorem aX8_leaves_6 : At cX8_leaves 6 (.bipush 10) 2 8 := ⟨by decide +kernel, rfl⟩
theorem aX8_leaves_8 : At cX8_leaves 8 (.invokevirtual 184) 3 11 := ⟨by decide +kernel, rfl⟩
theorem aX8_leaves_11 : At cX8_leaves 11 (.ifCond .ne 8) 3 14 := ⟨by decide +kernel, rfl⟩
theorem aX8_leaves_14 : At cX8_leaves 14 (.bipush (-2)) 2 16 := ⟨by decide +kernel, rfl⟩
theorem aX8_leaves_16 : At cX8_leaves 16 (.goto 7) 3 19 := ⟨by decide +kernel, rfl⟩
theorem aX8_leaves_19 : At cX8_leaves 19 (.aload_n 0) 1 20 := ⟨by decide +kernel, rfl⟩
theorem aX8_leaves_20 : At cX8_leaves 20 (.invokevirtual 187) 3 23 := ⟨by decide +kernel, rfl⟩
theorem aX8_leaves_23 : At cX8_leaves 23 .ireturn 1 24 := ⟨by decide +kernel, rfl⟩
theorem aX8_leftOpen_0 : At cX8_leftOpen 0 (.aload_n 0) 1 1 := ⟨by decide +kernel, rfl⟩
theorem aX8_leftOpen_1 : At cX8_leftOpen 1 (.invokevirtual 97) 3 4 := ⟨by decide +kernel, rfl⟩
theorem aX8_leftOpen_4 : At cX8_leftOpen 4 (.iconst 1) 1 5 := ⟨by decide +kernel, rfl⟩
theorem aX8_leftOpen_5 : At cX8_leftOpen 5 (.istore_n 1) 1 6 := ⟨by decide +kernel, rfl⟩
theorem aX8_leftOpen_6 : At cX8_leftOpen 6 (.iload_n 1) 1 7 := ⟨by decide +kernel, rfl⟩
theorem aX8_leftOpen_7 : At cX8_leftOpen 7 (.aload_n 0) 1 8 := ⟨by decide +kernel, rfl⟩
theorem aX8_leftOpen_8 : At cX8_leftOpen 8 (.getfield 7) 3 11 := ⟨by decide +kernel, rfl⟩
theorem aX8_leftOpen_11 : At cX8_leftOpen 11 (.if_icmp .ge 72) 3 14 := ⟨by decide +kernel, rfl⟩
theorem aX8_leftOpen_14 : At cX8_leftOpen 14 (.aload_n 0) 1 15 := ⟨by decide +kernel, rfl⟩
theorem aX8_leftOpen_15 : At cX8_leftOpen 15 (.getfield 32) 3 18 := ⟨by decide +kernel, rfl⟩
theorem aX8_leftOpen_18 : At cX8_leftOpen 18 (.aload_n 0) 1 19 := ⟨by decide +kernel, rfl⟩
theorem aX8_leftOpen_19 : At cX8_leftOpen 19 (.getfield 70) 3 22 := ⟨by decide +kernel, rfl⟩
theorem aX8_leftOpen_22 : At cX8_leftOpen 22 (.iload_n 1) 1 23 := ⟨by decide +kernel, rfl⟩
theorem aX8_leftOpen_23 : At cX8_leftOpen 23 .iaload 1 24 := ⟨by decide +kernel, rfl⟩
theorem aX8_leftOpen_24 : At cX8_leftOpen 24 .iaload 1 25 := ⟨by decide +kernel, rfl⟩
theorem aX8_leftOpen_25 : At cX8_leftOpen 25 (.istore_n 2) 1 26 := ⟨by decide +kernel, rfl⟩
theorem aX8_leftOpen_26 : At cX8_leftOpen 26 (.aload_n 0) 1 27 := ⟨by decide +kernel, rfl⟩
theorem aX8_leftOpen_27 : At cX8_leftOpen 27 (.getfield 32) 3 30 := ⟨by decide +kernel, rfl⟩
theorem aX8_leftOpen_30 : At cX8_leftOpen 30 (.aload_n 0) 1 31 := ⟨by decide +kernel, rfl⟩
theorem aX8_leftOpen_31 : At cX8_leftOpen 31 (.getfield 70) 3 34 := ⟨by decide +kernel, rfl⟩
theorem aX8_leftOpen_34 : At cX8_leftOpen 34 (.iload_n 1) 1 35 := ⟨by decide +kernel, rfl⟩
theorem aX8_leftOpen_35 : At cX8_leftOpen 35 (.iconst 1) 1 36 := ⟨by decide +kernel, rfl⟩
theorem aX8_leftOpen_36 : At cX8_leftOpen 36 .isub 1 37 := ⟨by decide +kernel, rfl⟩
theorem aX8_leftOpen_37 : At cX8_leftOpen 37 .iaload 1 38 := ⟨by decide +kernel, rfl⟩
theorem aX8_leftOpen_38 : At cX8_leftOpen 38 .iaload 1 39 := ⟨by decide +kernel, rfl⟩
theorem aX8_leftOpen_39 : At cX8_leftOpen 39 (.istore_n 3) 1 40 := ⟨by decide +kernel, rfl⟩
theorem aX8_leftOpen_40 : At cX8_leftOpen 40 (.aload_n 0) 1 41 := ⟨by decide +kernel, rfl⟩
theorem aX8_leftOpen_41 : At cX8_leftOpen 41 (.aload_n 0) 1 42 := ⟨by decide +kernel, rfl⟩
theorem aX8_leftOpen_42 : At cX8_leftOpen 42 (.getfield 70) 3 45 := ⟨by decide +kernel, rfl⟩
theorem aX8_leftOpen_45 : At cX8_leftOpen 45 (.iload_n 1) 1 46 := ⟨by decide +kernel, rfl⟩
theorem aX8_leftOpen_46 : At cX8_leftOpen 46 .iaload 1 47 := ⟨by decide +kernel, rfl⟩
theorem aX8_leftOpen_47 : At cX8_leftOpen 47 (.aload_n 0) 1 48 := ⟨by decide +kernel, rfl⟩
theorem aX8_leftOpen_48 : At cX8_leftOpen 48 (.getfield 70) 3 51 := ⟨by decide +kernel, rfl⟩
theorem aX8_leftOpen_51 : At cX8_leftOpen 51 (.iload_n 1) 1 52 := ⟨by decide +kernel, rfl⟩
theorem aX8_leftOpen_52 : At cX8_leftOpen 52 (.iconst 1) 1 53 := ⟨by decide +kernel, rfl⟩
theorem aX8_leftOpen_53 : At cX8_leftOpen 53 .isub 1 54 := ⟨by decide +kernel, rfl⟩
theorem aX8_leftOpen_54 : At cX8_leftOpen 54 .iaload 1 55 := ⟨by decide +kernel, rfl⟩
theorem aX8_leftOpen_55 : At cX8_leftOpen 55 (.iload_n 2) 1 56 := ⟨by decide +kernel, rfl⟩
theorem aX8_leftOpen_56 : At cX8_leftOpen 56 (.iload_n 3) 1 57 := ⟨by decide +kernel, rfl⟩
theorem aX8_leftOpen_57 : At cX8_leftOpen 57 (.if_icmp .le 7) 3 60 := ⟨by decide +kernel, rfl⟩
theorem aX8_leftOpen_60 : At cX8_leftOpen 60 (.iconst 1) 1 61 := ⟨by decide +kernel, rfl⟩
theorem aX8_leftOpen_61 : At cX8_leftOpen 61 (.goto 13) 3 64 := ⟨by decide +kernel, rfl⟩
theorem aX8_leftOpen_64 : At cX8_leftOpen 64 (.iload_n 2) 1 65 := ⟨by decide +kernel, rfl⟩
theorem aX8_leftOpen_65 : At cX8_leftOpen 65 (.iload_n 3) 1 66 := ⟨by decide +kernel, rfl⟩
theorem aX8_leftOpen_66 : At cX8_leftOpen 66 (.if_icmp .ge 7) 3 69 := ⟨by decide +kernel, rfl⟩
theorem aX8_leftOpen_69 : At cX8_leftOpen 69 (.iconst 2) 1 70 := ⟨by decide +kernel, rfl⟩
theorem aX8_leftOpen_70 : At cX8_leftOpen 70 (.goto 4) 3 73 := ⟨by decide +kernel, rfl⟩
theorem aX8_leftOpen_73 : At cX8_leftOpen 73 (.iconst 0) 1 74 := ⟨by decide +kernel, rfl⟩
theorem aX8_leftOpen_74 : At cX8_leftOpen 74 (.invokevirtual 100) 3 77 := ⟨by decide +kernel, rfl⟩
theorem aX8_leftOpen_77 : At cX8_leftOpen 77 (.iinc 1 1) 3 80 := ⟨by decide +kernel, rfl⟩
theorem aX8_leftOpen_80 : At cX8_leftOpen 80 (.goto (-74)) 3 83 := ⟨by decide +kernel, rfl⟩
theorem aX8_leftOpen_83 : At cX8_leftOpen 83 (.aload_n 0) 1 84 := ⟨by decide +kernel, rfl⟩
theorem aX8_leftOpen_84 : At cX8_leftOpen 84 (.invokevirtual 104) 3 87 := ⟨by decide +kernel, rfl⟩
theorem aX8_leftOpen_87 : At cX8_leftOpen 87 (.istore_n 1) 1 88 := ⟨by decide +kernel, rfl⟩
theorem aX8_leftOpen_88 : At cX8_leftOpen 88 (.iload_n 1) 1 89 := ⟨by decide +kernel, rfl⟩
theorem aX8_leftOpen_89 : At cX8_leftOpen 89 (.ifCond .eq 10) 3 92 := ⟨by decide +kernel, rfl⟩
theorem aX8_leftOpen_92 : At cX8_leftOpen 92 (.aload_n 0) 1 93 := ⟨by decide +kernel, rfl⟩
theorem aX8_leftOpen_93 : At cX8_leftOpen 93 (.invokevirtual 124) 3 96 := ⟨by decide +kernel, rfl⟩
theorem aX8_leftOpen_96 : At cX8_leftOpen 96 (.goto 5) 3 99 := ⟨by decide +kernel, rfl⟩
theorem aX8_leftOpen_99 : At cX8_leftOpen 99 (.bipush (-6)) 2 101 := ⟨by decide +kernel, rfl⟩
theorem aX8_leftOpen_101 : At cX8_leftOpen 101 .ireturn 1 102 := ⟨by decide +kernel, rfl⟩
theorem aX8_lies_0 : At cX8_lies 0 (.iload_n 1) 1 1 := ⟨by decide +kernel, rfl⟩
theorem aX8_lies_1 : At cX8_lies 1 (.iconst 0) 1 2 := ⟨by decide +kernel, rfl⟩
theorem aX8_lies_2 : At cX8_lies 2 (.iconst 2) 1 3 := ⟨by decide +kernel, rfl⟩
theorem aX8_lies_3 : At cX8_lies 3 (.invokestatic 79) 3 6 := ⟨by decide +kernel, rfl⟩
theorem aX8_lies_6 : At cX8_lies 6 (.ifCond .ne 6) 3 9 := ⟨by decide +kernel, rfl⟩
theorem aX8_lies_9 : At cX8_lies 9 (.bipush (-2)) 2 11 := ⟨by decide +kernel, rfl⟩
theorem aX8_lies_11 : At cX8_lies 11 .ireturn 1 12 := ⟨by decide +kernel, rfl⟩
theorem aX8_lies_12 : At cX8_lies 12 (.iconst 1) 1 13 := ⟨by decide +kernel, rfl⟩
theorem aX8_lies_13 : At cX8_lies 13 (.aload_n 0) 1 14 := ⟨by decide +kernel, rfl⟩
theorem aX8_lies_14 : At cX8_lies 14 (.getfield 83) 3 17 := ⟨by decide +kernel, rfl⟩
theorem aX8_lies_17 : At cX8_lies 17 .ishl 1 18 := ⟨by decide +kernel, rfl⟩
theorem aX8_lies_18 : At cX8_lies 18 (.iconst 1) 1 19 := ⟨by decide +kernel, rfl⟩
theorem aX8_lies_19 : At cX8_lies 19 .isub 1 20 := ⟨by decide +kernel, rfl⟩
theorem aX8_lies_20 : At cX8_lies 20 (.istore_n 2) 1 21 := ⟨by decide +kernel, rfl⟩
theorem aX8_lies_21 : At cX8_lies 21 (.bipush (-6)) 2 23 := ⟨by decide +kernel, rfl⟩
theorem aX8_lies_23 : At cX8_lies 23 (.istore_n 3) 1 24 := ⟨by decide +kernel, rfl⟩
theorem aX8_lies_24 : At cX8_lies 24 (.bipush 13) 2 26 := ⟨by decide +kernel, rfl⟩
theorem aX8_lies_26 : At cX8_lies 26 (.istore 4) 2 28 := ⟨by decide +kernel, rfl⟩
theorem aX8_lies_28 : At cX8_lies 28 (.iload_n 2) 1 29 := ⟨by decide +kernel, rfl⟩
theorem aX8_lies_29 : At cX8_lies 29 (.istore 5) 2 31 := ⟨by decide +kernel, rfl⟩
theorem aX8_lies_31 : At cX8_lies 31 (.iconst 0) 1 32 := ⟨by decide +kernel, rfl⟩
theorem aX8_lies_32 : At cX8_lies 32 (.istore 6) 2 34 := ⟨by decide +kernel, rfl⟩
theorem aX8_lies_34 : At cX8_lies 34 (.iload 6) 2 36 := ⟨by decide +kernel, rfl⟩
theorem aX8_lies_36 : At cX8_lies 36 (.iload_n 2) 1 37 := ⟨by decide +kernel, rfl⟩
theorem aX8_lies_37 : At cX8_lies 37 (.if_icmp .gt 85) 3 40 := ⟨by decide +kernel, rfl⟩
theorem aX8_lies_40 : At cX8_lies 40 (.iload 6) 2 42 := ⟨by decide +kernel, rfl⟩
theorem aX8_lies_42 : At cX8_lies 42 (.invokestatic 180) 3 45 := ⟨by decide +kernel, rfl⟩
theorem aX8_lies_45 : At cX8_lies 45 (.iload 4) 2 47 := ⟨by decide +kernel, rfl⟩
theorem aX8_lies_47 : At cX8_lies 47 (.if_icmp .gt 69) 3 50 := ⟨by decide +kernel, rfl⟩
theorem aX8_lies_50 : At cX8_lies 50 (.aload_n 0) 1 51 := ⟨by decide +kernel, rfl⟩
theorem aX8_lies_51 : At cX8_lies 51 (.iload_n 2) 1 52 := ⟨by decide +kernel, rfl⟩
theorem aX8_lies_52 : At cX8_lies 52 (.iload 6) 2 54 := ⟨by decide +kernel, rfl⟩
theorem aX8_lies_54 : At cX8_lies 54 (.iconst (-1)) 1 55 := ⟨by decide +kernel, rfl⟩
theorem aX8_lies_55 : At cX8_lies 55 .ixor 1 56 := ⟨by decide +kernel, rfl⟩
theorem aX8_lies_56 : At cX8_lies 56 .iand 1 57 := ⟨by decide +kernel, rfl⟩
theorem aX8_lies_57 : At cX8_lies 57 (.invokevirtual 108) 3 60 := ⟨by decide +kernel, rfl⟩
theorem aX8_lies_60 : At cX8_lies 60 (.ifCond .eq 56) 3 63 := ⟨by decide +kernel, rfl⟩
theorem aX8_lies_63 : At cX8_lies 63 (.iload 6) 2 65 := ⟨by decide +kernel, rfl⟩
theorem aX8_lies_65 : At cX8_lies 65 (.invokestatic 180) 3 68 := ⟨by decide +kernel, rfl⟩
theorem aX8_lies_68 : At cX8_lies 68 (.iload 4) 2 70 := ⟨by decide +kernel, rfl⟩
theorem aX8_lies_70 : At cX8_lies 70 (.if_icmp .ge 7) 3 73 := ⟨by decide +kernel, rfl⟩
theorem aX8_lies_73 : At cX8_lies 73 (.iconst 1) 1 74 := ⟨by decide +kernel, rfl⟩
theorem aX8_lies_74 : At cX8_lies 74 (.goto 4) 3 77 := ⟨by decide +kernel, rfl⟩
theorem aX8_lies_77 : At cX8_lies 77 (.iconst 0) 1 78 := ⟨by decide +kernel, rfl⟩
theorem aX8_lies_78 : At cX8_lies 78 (.istore 7) 2 80 := ⟨by decide +kernel, rfl⟩
theorem aX8_lies_80 : At cX8_lies 80 (.iload 7) 2 82 := ⟨by decide +kernel, rfl⟩
theorem aX8_lies_82 : At cX8_lies 82 (.ifCond .eq 8) 3 85 := ⟨by decide +kernel, rfl⟩
theorem aX8_lies_85 : At cX8_lies 85 (.iload 6) 2 87 := ⟨by decide +kernel, rfl⟩
theorem aX8_lies_87 : At cX8_lies 87 (.goto 4) 3 90 := ⟨by decide +kernel, rfl⟩
theorem aX8_lies_90 : At cX8_lies 90 (.iload_n 3) 1 91 := ⟨by decide +kernel, rfl⟩
theorem aX8_lies_91 : At cX8_lies 91 (.istore_n 3) 1 92 := ⟨by decide +kernel, rfl⟩
theorem aX8_lies_92 : At cX8_lies 92 (.iload 7) 2 94 := ⟨by decide +kernel, rfl⟩
theorem aX8_lies_94 : At cX8_lies 94 (.ifCond .eq 8) 3 97 := ⟨by decide +kernel, rfl⟩
theorem aX8_lies_97 : At cX8_lies 97 (.iload 6) 2 99 := ⟨by decide +kernel, rfl⟩
theorem aX8_lies_99 : At cX8_lies 99 (.goto 8) 3 102 := ⟨by decide +kernel, rfl⟩
theorem aX8_lies_102 : At cX8_lies 102 (.iload 5) 2 104 := ⟨by decide +kernel, rfl⟩
theorem aX8_lies_104 : At cX8_lies 104 (.iload 6) 2 106 := ⟨by decide +kernel, rfl⟩
theorem aX8_lies_106 : At cX8_lies 106 .iand 1 107 := ⟨by decide +kernel, rfl⟩
theorem aX8_lies_107 : At cX8_lies 107 (.istore 5) 2 109 := ⟨by decide +kernel, rfl⟩
theorem aX8_lies_109 : At cX8_lies 109 (.iload 6) 2 111 := ⟨by decide +kernel, rfl⟩
theorem aX8_lies_111 : At cX8_lies 111 (.invokestatic 180) 3 114 := ⟨by decide +kernel, rfl⟩
theorem aX8_lies_114 : At cX8_lies 114 (.istore 4) 2 116 := ⟨by decide +kernel, rfl⟩
theorem aX8_lies_116 : At cX8_lies 116 (.iinc 6 1) 3 119 := ⟨by decide +kernel, rfl⟩
theorem aX8_lies_119 : At cX8_lies 119 (.goto (-85)) 3 122 := ⟨by decide +kernel, rfl⟩
theorem aX8_lies_122 : At cX8_lies 122 (.iload_n 1) 1 123 := ⟨by decide +kernel, rfl⟩
theorem aX8_lies_123 : At cX8_lies 123 (.ifCond .ne 8) 3 126 := ⟨by decide +kernel, rfl⟩
theorem aX8_lies_126 : At cX8_lies 126 (.iload 4) 2 128 := ⟨by decide +kernel, rfl⟩
theorem aX8_lies_128 : At cX8_lies 128 (.goto 14) 3 131 := ⟨by decide +kernel, rfl⟩
theorem aX8_lies_131 : At cX8_lies 131 (.iload_n 1) 1 132 := ⟨by decide +kernel, rfl⟩
theorem aX8_lies_132 : At cX8_lies 132 (.iconst 1) 1 133 := ⟨by decide +kernel, rfl⟩
theorem aX8_lies_133 : At cX8_lies 133 (.if_icmp .ne 7) 3 136 := ⟨by decide +kernel, rfl⟩
theorem aX8_lies_136 : At cX8_lies 136 (.iload_n 3) 1 137 := ⟨by decide +kernel, rfl⟩
theorem aX8_lies_137 : At cX8_lies 137 (.goto 5) 3 140 := ⟨by decide +kernel, rfl⟩
theorem aX8_lies_140 : At cX8_lies 140 (.iload 5) 2 142 := ⟨by decide +kernel, rfl⟩
theorem aX8_lies_142 : At cX8_lies 142 .ireturn 1 143 := ⟨by decide +kernel, rfl⟩
theorem aX8_line_0 : At cX8_line 0 (.aload_n 0) 1 1 := ⟨by decide +kernel, rfl⟩
theorem aX8_line_1 : At cX8_line 1 (.invokevirtual 93) 3 4 := ⟨by decide +kernel, rfl⟩
theorem aX8_line_4 : At cX8_line 4 (.ifCond .lt 6) 3 7 := ⟨by decide +kernel, rfl⟩
theorem aX8_line_7 : At cX8_line 7 (.bipush (-5)) 2 9 := ⟨by decide +kernel, rfl⟩
theorem aX8_line_9 : At cX8_line 9 .ireturn 1 10 := ⟨by decide +kernel, rfl⟩
theorem aX8_line_10 : At cX8_line 10 (.aload_n 0) 1 11 := ⟨by decide +kernel, rfl⟩
theorem aX8_line_11 : At cX8_line 11 (.getfield 83) 3 14 := ⟨by decide +kernel, rfl⟩
theorem aX8_line_14 : At cX8_line 14 (.aload_n 0) 1 15 := ⟨by decide +kernel, rfl⟩
theorem aX8_line_15 : At cX8_line 15 (.getfield 86) 3 18 := ⟨by decide +kernel, rfl⟩
theorem aX8_line_18 : At cX8_line 18 (.iconst 2) 1 19 := ⟨by decide +kernel, rfl⟩
theorem aX8_line_19 : At cX8_line 19 .idiv 1 20 := ⟨by decide +kernel, rfl⟩
theorem aX8_line_20 : At cX8_line 20 .iadd 1 21 := ⟨by decide +kernel, rfl⟩
theorem aX8_line_21 : At cX8_line 21 (.bipush 12) 2 23 := ⟨by decide +kernel, rfl⟩
theorem aX8_line_23 : At cX8_line 23 (.if_icmp .le 6) 3 26 := ⟨by decide +kernel, rfl⟩
theorem aX8_line_26 : At cX8_line 26 (.bipush (-4)) 2 28 := ⟨by decide +kernel, rfl⟩
theorem aX8_line_28 : At cX8_line 28 .ireturn 1 29 := ⟨by decide +kernel, rfl⟩
theorem aX8_line_29 : At cX8_line 29 (.aload_n 0) 1 30 := ⟨by decide +kernel, rfl⟩
theorem aX8_line_30 : At cX8_line 30 (.getfield 20) 3 33 := ⟨by decide +kernel, rfl⟩
theorem aX8_line_33 : At cX8_line 33 (.aload_n 0) 1 34 := ⟨by decide +kernel, rfl⟩
theorem aX8_line_34 : At cX8_line 34 (.getfield 13) 3 37 := ⟨by decide +kernel, rfl⟩
theorem aX8_line_37 : At cX8_line 37 (.iconst 0) 1 38 := ⟨by decide +kernel, rfl⟩
theorem aX8_line_38 : At cX8_line 38 .iaload 1 39 := ⟨by decide +kernel, rfl⟩
theorem aX8_line_39 : At cX8_line 39 (.bipush 97) 2 41 := ⟨by decide +kernel, rfl⟩
theorem aX8_line_41 : At cX8_line 41 .isub 1 42 := ⟨by decide +kernel, rfl⟩
theorem aX8_line_42 : At cX8_line 42 .dup2 1 43 := ⟨by decide +kernel, rfl⟩
theorem aX8_line_43 : At cX8_line 43 .iaload 1 44 := ⟨by decide +kernel, rfl⟩
theorem aX8_line_44 : At cX8_line 44 (.iconst 1) 1 45 := ⟨by decide +kernel, rfl⟩
theorem aX8_line_45 : At cX8_line 45 .iadd 1 46 := ⟨by decide +kernel, rfl⟩
theorem aX8_line_46 : At cX8_line 46 .iastore 1 47 := ⟨by decide +kernel, rfl⟩
theorem aX8_line_47 : At cX8_line 47 (.iconst 2) 1 48 := ⟨by decide +kernel, rfl⟩
theorem aX8_line_48 : At cX8_line 48 (.istore_n 1) 1 49 := ⟨by decide +kernel, rfl⟩
theorem aX8_line_49 : At cX8_line 49 (.iload_n 1) 1 50 := ⟨by decide +kernel, rfl⟩
theorem aX8_line_50 : At cX8_line 50 (.aload_n 0) 1 51 := ⟨by decide +kernel, rfl⟩
theorem aX8_line_51 : At cX8_line 51 (.getfield 86) 3 54 := ⟨by decide +kernel, rfl⟩
theorem aX8_line_54 : At cX8_line 54 (.if_icmp .ge 163) 3 57 := ⟨by decide +kernel, rfl⟩
theorem aX8_line_57 : At cX8_line 57 (.aload_n 0) 1 58 := ⟨by decide +kernel, rfl⟩
theorem aX8_line_58 : At cX8_line 58 (.getfield 13) 3 61 := ⟨by decide +kernel, rfl⟩
theorem aX8_line_61 : At cX8_line 61 (.iload_n 1) 1 62 := ⟨by decide +kernel, rfl⟩
theorem aX8_line_62 : At cX8_line 62 .iaload 1 63 := ⟨by decide +kernel, rfl⟩
theorem aX8_line_63 : At cX8_line 63 (.bipush 97) 2 65 := ⟨by decide +kernel, rfl⟩
theorem aX8_line_65 : At cX8_line 65 .isub 1 66 := ⟨by decide +kernel, rfl⟩
theorem aX8_line_66 : At cX8_line 66 (.istore_n 2) 1 67 := ⟨by decide +kernel, rfl⟩
theorem aX8_line_67 : At cX8_line 67 (.aload_n 0) 1 68 := ⟨by decide +kernel, rfl⟩
theorem aX8_line_68 : At cX8_line 68 (.getfield 13) 3 71 := ⟨by decide +kernel, rfl⟩
theorem aX8_line_71 : At cX8_line 71 (.iload_n 1) 1 72 := ⟨by decide +kernel, rfl⟩
theorem aX8_line_72 : At cX8_line 72 (.iconst 2) 1 73 := ⟨by decide +kernel, rfl⟩
theorem aX8_line_73 : At cX8_line 73 .isub 1 74 := ⟨by decide +kernel, rfl⟩
theorem aX8_line_74 : At cX8_line 74 .iaload 1 75 := ⟨by decide +kernel, rfl⟩
theorem aX8_line_75 : At cX8_line 75 (.bipush 97) 2 77 := ⟨by decide +kernel, rfl⟩
theorem aX8_line_77 : At cX8_line 77 .isub 1 78 := ⟨by decide +kernel, rfl⟩
theorem aX8_line_78 : At cX8_line 78 (.istore_n 3) 1 79 := ⟨by decide +kernel, rfl⟩
theorem aX8_line_79 : At cX8_line 79 (.aload_n 0) 1 80 := ⟨by decide +kernel, rfl⟩
theorem aX8_line_80 : At cX8_line 80 (.getfield 20) 3 83 := ⟨by decide +kernel, rfl⟩
theorem aX8_line_83 : At cX8_line 83 (.iload_n 2) 1 84 := ⟨by decide +kernel, rfl⟩
theorem aX8_line_84 : At cX8_line 84 .dup2 1 85 := ⟨by decide +kernel, rfl⟩
theorem aX8_line_85 : At cX8_line 85 .iaload 1 86 := ⟨by decide +kernel, rfl⟩
theorem aX8_line_86 : At cX8_line 86 (.iconst 1) 1 87 := ⟨by decide +kernel, rfl⟩
theorem aX8_line_87 : At cX8_line 87 .iadd 1 88 := ⟨by decide +kernel, rfl⟩
theorem aX8_line_88 : At cX8_line 88 .iastore 1 89 := ⟨by decide +kernel, rfl⟩
theorem aX8_line_89 : At cX8_line 89 (.aload_n 0) 1 90 := ⟨by decide +kernel, rfl⟩
theorem aX8_line_90 : At cX8_line 90 (.getfield 17) 3 93 := ⟨by decide +kernel, rfl⟩
theorem aX8_line_93 : At cX8_line 93 (.iconst 5) 1 94 := ⟨by decide +kernel, rfl⟩
theorem aX8_line_94 : At cX8_line 94 (.aload_n 0) 1 95 := ⟨by decide +kernel, rfl⟩
theorem aX8_line_95 : At cX8_line 95 (.getfield 83) 3 98 := ⟨by decide +kernel, rfl⟩
theorem aX8_line_98 : At cX8_line 98 .imul 1 99 := ⟨by decide +kernel, rfl⟩
theorem aX8_line_99 : At cX8_line 99 (.iload_n 2) 1 100 := ⟨by decide +kernel, rfl⟩
theorem aX8_line_100 : At cX8_line 100 .iastore 1 101 := ⟨by decide +kernel, rfl⟩
theorem aX8_line_101 : At cX8_line 101 (.aload_n 0) 1 102 := ⟨by decide +kernel, rfl⟩
theorem aX8_line_102 : At cX8_line 102 (.getfield 17) 3 105 := ⟨by decide +kernel, rfl⟩
theorem aX8_line_105 : At cX8_line 105 (.iconst 5) 1 106 := ⟨by decide +kernel, rfl⟩
theorem aX8_line_106 : At cX8_line 106 (.aload_n 0) 1 107 := ⟨by decide +kernel, rfl⟩
theorem aX8_line_107 : At cX8_line 107 (.getfield 83) 3 110 := ⟨by decide +kernel, rfl⟩
theorem aX8_line_110 : At cX8_line 110 .imul 1 111 := ⟨by decide +kernel, rfl⟩
theorem aX8_line_111 : At cX8_line 111 (.iconst 1) 1 112 := ⟨by decide +kernel, rfl⟩
theorem aX8_line_112 : At cX8_line 112 .iadd 1 113 := ⟨by decide +kernel, rfl⟩
theorem aX8_line_113 : At cX8_line 113 (.iload_n 3) 1 114 := ⟨by decide +kernel, rfl⟩
theorem aX8_line_114 : At cX8_line 114 .iastore 1 115 := ⟨by decide +kernel, rfl⟩
theorem aX8_line_115 : At cX8_line 115 (.aload_n 0) 1 116 := ⟨by decide +kernel, rfl⟩
theorem aX8_line_116 : At cX8_line 116 (.getfield 17) 3 119 := ⟨by decide +kernel, rfl⟩
theorem aX8_line_119 : At cX8_line 119 (.iconst 5) 1 120 := ⟨by decide +kernel, rfl⟩
theorem aX8_line_120 : At cX8_line 120 (.aload_n 0) 1 121 := ⟨by decide +kernel, rfl⟩
theorem aX8_line_121 : At cX8_line 121 (.getfield 83) 3 124 := ⟨by decide +kernel, rfl⟩
theorem aX8_line_124 : At cX8_line 124 .imul 1 125 := ⟨by decide +kernel, rfl⟩
theorem aX8_line_125 : At cX8_line 125 (.iconst 2) 1 126 := ⟨by decide +kernel, rfl⟩
theorem aX8_line_126 : At cX8_line 126 .iadd 1 127 := ⟨by decide +kernel, rfl⟩
theorem aX8_line_127 : At cX8_line 127 (.aload_n 0) 1 128 := ⟨by decide +kernel, rfl⟩
theorem aX8_line_128 : At cX8_line 128 (.getfield 13) 3 131 := ⟨by decide +kernel, rfl⟩
theorem aX8_line_131 : At cX8_line 131 (.iload_n 1) 1 132 := ⟨by decide +kernel, rfl⟩
theorem aX8_line_132 : At cX8_line 132 (.iconst 1) 1 133 := ⟨by decide +kernel, rfl⟩
theorem aX8_line_133 : At cX8_line 133 .isub 1 134 := ⟨by decide +kernel, rfl⟩
theorem aX8_line_134 : At cX8_line 134 .iaload 1 135 := ⟨by decide +kernel, rfl⟩
theorem aX8_line_135 : At cX8_line 135 (.bipush 43) 2 137 := ⟨by decide +kernel, rfl⟩
theorem aX8_line_137 : At cX8_line 137 (.if_icmp .ne 7) 3 140 := ⟨by decide +kernel, rfl⟩
theorem aX8_line_140 : At cX8_line 140 (.iconst 1) 1 141 := ⟨by decide +kernel, rfl⟩
theorem aX8_line_141 : At cX8_line 141 (.goto 21) 3 144 := ⟨by decide +kernel, rfl⟩
theorem aX8_line_144 : At cX8_line 144 (.aload_n 0) 1 145 := ⟨by decide +kernel, rfl⟩
theorem aX8_line_145 : At cX8_line 145 (.getfield 13) 3 148 := ⟨by decide +kernel, rfl⟩
theorem aX8_line_148 : At cX8_line 148 (.iload_n 1) 1 149 := ⟨by decide +kernel, rfl⟩
theorem aX8_line_149 : At cX8_line 149 (.iconst 1) 1 150 := ⟨by decide +kernel, rfl⟩
theorem aX8_line_150 : At cX8_line 150 .isub 1 151 := ⟨by decide +kernel, rfl⟩
theorem aX8_line_151 : At cX8_line 151 .iaload 1 152 := ⟨by decide +kernel, rfl⟩
theorem aX8_line_152 : At cX8_line 152 (.bipush 45) 2 154 := ⟨by decide +kernel, rfl⟩
theorem aX8_line_154 : At cX8_line 154 (.if_icmp .ne 7) 3 157 := ⟨by decide +kernel, rfl⟩
theorem aX8_line_157 : At cX8_line 157 (.iconst 2) 1 158 := ⟨by decide +kernel, rfl⟩
theorem aX8_line_158 : At cX8_line 158 (.goto 4) 3 161 := ⟨by decide +kernel, rfl⟩
theorem aX8_line_161 : At cX8_line 161 (.iconst 0) 1 162 := ⟨by decide +kernel, rfl⟩
theorem aX8_line_162 : At cX8_line 162 .iastore 1 163 := ⟨by decide +kernel, rfl⟩
theorem aX8_line_163 : At cX8_line 163 (.aload_n 0) 1 164 := ⟨by decide +kernel, rfl⟩
theorem aX8_line_164 : At cX8_line 164 (.getfield 17) 3 167 := ⟨by decide +kernel, rfl⟩
theorem aX8_line_167 : At cX8_line 167 (.iconst 5) 1 168 := ⟨by decide +kernel, rfl⟩
theorem aX8_line_168 : At cX8_line 168 (.aload_n 0) 1 169 := ⟨by decide +kernel, rfl⟩
theorem aX8_line_169 : At cX8_line 169 (.getfield 83) 3 172 := ⟨by decide +kernel, rfl⟩
theorem aX8_line_172 : At cX8_line 172 .imul 1 173 := ⟨by decide +kernel, rfl⟩
theorem aX8_line_173 : At cX8_line 173 (.iconst 3) 1 174 := ⟨by decide +kernel, rfl⟩
theorem aX8_line_174 : At cX8_line 174 .iadd 1 175 := ⟨by decide +kernel, rfl⟩
theorem aX8_line_175 : At cX8_line 175 (.aload_n 0) 1 176 := ⟨by decide +kernel, rfl⟩
theorem aX8_line_176 : At cX8_line 176 (.getfield 20) 3 179 := ⟨by decide +kernel, rfl⟩
theorem aX8_line_179 : At cX8_line 179 (.iload_n 2) 1 180 := ⟨by decide +kernel, rfl⟩
theorem aX8_line_180 : At cX8_line 180 .iaload 1 181 := ⟨by decide +kernel, rfl⟩
theorem aX8_line_181 : At cX8_line 181 .iastore 1 182 := ⟨by decide +kernel, rfl⟩
theorem aX8_line_182 : At cX8_line 182 (.aload_n 0) 1 183 := ⟨by decide +kernel, rfl⟩
theorem aX8_line_183 : At cX8_line 183 (.getfield 17) 3 186 := ⟨by decide +kernel, rfl⟩
theorem aX8_line_186 : At cX8_line 186 (.iconst 5) 1 187 := ⟨by decide +kernel, rfl⟩
theorem aX8_line_187 : At cX8_line 187 (.aload_n 0) 1 188 := ⟨by decide +kernel, rfl⟩
theorem aX8_line_188 : At cX8_line 188 (.getfield 83) 3 191 := ⟨by decide +kernel, rfl⟩
theorem aX8_line_191 : At cX8_line 191 .imul 1 192 := ⟨by decide +kernel, rfl⟩
theorem aX8_line_192 : At cX8_line 192 (.iconst 4) 1 193 := ⟨by decide +kernel, rfl⟩
theorem aX8_line_193 : At cX8_line 193 .iadd 1 194 := ⟨by decide +kernel, rfl⟩
theorem aX8_line_194 : At cX8_line 194 (.aload_n 0) 1 195 := ⟨by decide +kernel, rfl⟩
theorem aX8_line_195 : At cX8_line 195 (.getfield 20) 3 198 := ⟨by decide +kernel, rfl⟩
theorem aX8_line_198 : At cX8_line 198 (.iload_n 3) 1 199 := ⟨by decide +kernel, rfl⟩
theorem aX8_line_199 : At cX8_line 199 .iaload 1 200 := ⟨by decide +kernel, rfl⟩
theorem aX8_line_200 : At cX8_line 200 .iastore 1 201 := ⟨by decide +kernel, rfl⟩
theorem aX8_line_201 : At cX8_line 201 (.aload_n 0) 1 202 := ⟨by decide +kernel, rfl⟩
theorem aX8_line_202 : At cX8_line 202 .dup 1 203 := ⟨by decide +kernel, rfl⟩
theorem aX8_line_203 : At cX8_line 203 (.getfield 83) 3 206 := ⟨by decide +kernel, rfl⟩
theorem aX8_line_206 : At cX8_line 206 (.iconst 1) 1 207 := ⟨by decide +kernel, rfl⟩
theorem aX8_line_207 : At cX8_line 207 .iadd 1 208 := ⟨by decide +kernel, rfl⟩
theorem aX8_line_208 : At cX8_line 208 (.putfield 83) 3 211 := ⟨by decide +kernel, rfl⟩
theorem aX8_line_211 : At cX8_line 211 (.iinc 1 2) 3 214 := ⟨by decide +kernel, rfl⟩
theorem aX8_line_214 : At cX8_line 214 (.goto (-165)) 3 217 := ⟨by decide +kernel, rfl⟩
theorem aX8_line_217 : At cX8_line 217 (.aload_n 0) 1 218 := ⟨by decide +kernel, rfl⟩
theorem aX8_line_218 : At cX8_line 218 (.iconst 0) 1 219 := ⟨by decide +kernel, rfl⟩
theorem aX8_line_219 : At cX8_line 219 (.putfield 86) 3 222 := ⟨by decide +kernel, rfl⟩
theorem aX8_line_222 : At cX8_line 222 (.aload_n 0) 1 223 := ⟨by decide +kernel, rfl⟩
theorem aX8_line_223 : At cX8_line 223 (.getfield 83) 3 226 := ⟨by decide +kernel, rfl⟩
theorem aX8_line_226 : At cX8_line 226 .ireturn 1 227 := ⟨by decide +kernel, rfl⟩
theorem aX8_lineBy_0 : At cX8_lineBy 0 (.iload_n 1) 1 1 := ⟨by decide +kernel, rfl⟩
theorem aX8_lineBy_1 : At cX8_lineBy 1 (.iconst 0) 1 2 := ⟨by decide +kernel, rfl⟩
theorem aX8_lineBy_2 : At cX8_lineBy 2 (.iconst 1) 1 3 := ⟨by decide +kernel, rfl⟩
theorem aX8_lineBy_3 : At cX8_lineBy 3 (.invokestatic 79) 3 6 := ⟨by decide +kernel, rfl⟩
theorem aX8_lineBy_6 : At cX8_lineBy 6 (.ifCond .eq 12) 3 9 := ⟨by decide +kernel, rfl⟩
theorem aX8_lineBy_9 : At cX8_lineBy 9 (.iload_n 2) 1 10 := ⟨by decide +kernel, rfl⟩
theorem aX8_lineBy_10 : At cX8_lineBy 10 (.iconst 0) 1 11 := ⟨by decide +kernel, rfl⟩
theorem aX8_lineBy_11 : At cX8_lineBy 11 (.iconst 1) 1 12 := ⟨by decide +kernel, rfl⟩
theorem aX8_lineBy_12 : At cX8_lineBy 12 (.invokestatic 79) 3 15 := ⟨by decide +kernel, rfl⟩
theorem aX8_lineBy_15 : At cX8_lineBy 15 (.ifCond .ne 6) 3 18 := ⟨by decide +kernel, rfl⟩
theorem aX8_lineBy_18 : At cX8_lineBy 18 (.bipush (-2)) 2 20 := ⟨by decide +kernel, rfl⟩
theorem aX8_lineBy_20 : At cX8_lineBy 20 .ireturn 1 21 := ⟨by decide +kernel, rfl⟩
theorem aX8_lineBy_21 : At cX8_lineBy 21 (.iconst 1) 1 22 := ⟨by decide +kernel, rfl⟩
theorem aX8_lineBy_22 : At cX8_lineBy 22 (.istore_n 3) 1 23 := ⟨by decide +kernel, rfl⟩
theorem aX8_lineBy_23 : At cX8_lineBy 23 (.iconst 0) 1 24 := ⟨by decide +kernel, rfl⟩
theorem aX8_lineBy_24 : At cX8_lineBy 24 (.istore 4) 2 26 := ⟨by decide +kernel, rfl⟩
theorem aX8_lineBy_26 : At cX8_lineBy 26 (.iload 4) 2 28 := ⟨by decide +kernel, rfl⟩
theorem aX8_lineBy_28 : At cX8_lineBy 28 (.aload_n 0) 1 29 := ⟨by decide +kernel, rfl⟩
theorem aX8_lineBy_29 : At cX8_lineBy 29 (.getfield 7) 3 32 := ⟨by decide +kernel, rfl⟩
theorem aX8_lineBy_32 : At cX8_lineBy 32 (.if_icmp .ge 16) 3 35 := ⟨by decide +kernel, rfl⟩
theorem aX8_lineBy_35 : At cX8_lineBy 35 (.iload_n 3) 1 36 := ⟨by decide +kernel, rfl⟩
theorem aX8_lineBy_36 : At cX8_lineBy 36 (.aload_n 0) 1 37 := ⟨by decide +kernel, rfl⟩
theorem aX8_lineBy_37 : At cX8_lineBy 37 (.getfield 7) 3 40 := ⟨by decide +kernel, rfl⟩
theorem aX8_lineBy_40 : At cX8_lineBy 40 .imul 1 41 := ⟨by decide +kernel, rfl⟩
theorem aX8_lineBy_41 : At cX8_lineBy 41 (.istore_n 3) 1 42 := ⟨by decide +kernel, rfl⟩
theorem aX8_lineBy_42 : At cX8_lineBy 42 (.iinc 4 1) 3 45 := ⟨by decide +kernel, rfl⟩
theorem aX8_lineBy_45 : At cX8_lineBy 45 (.goto (-19)) 3 48 := ⟨by decide +kernel, rfl⟩
theorem aX8_lineBy_48 : At cX8_lineBy 48 (.bipush (-6)) 2 50 := ⟨by decide +kernel, rfl⟩
theorem aX8_lineBy_50 : At cX8_lineBy 50 (.istore 4) 2 52 := ⟨by decide +kernel, rfl⟩
theorem aX8_lineBy_52 : At cX8_lineBy 52 (.iconst 0) 1 53 := ⟨by decide +kernel, rfl⟩
theorem aX8_lineBy_53 : At cX8_lineBy 53 (.istore 5) 2 55 := ⟨by decide +kernel, rfl⟩
theorem aX8_lineBy_55 : At cX8_lineBy 55 (.iconst 0) 1 56 := ⟨by decide +kernel, rfl⟩
theorem aX8_lineBy_56 : At cX8_lineBy 56 (.istore 6) 2 58 := ⟨by decide +kernel, rfl⟩
theorem aX8_lineBy_58 : At cX8_lineBy 58 (.iload 6) 2 60 := ⟨by decide +kernel, rfl⟩
theorem aX8_lineBy_60 : At cX8_lineBy 60 (.iload_n 3) 1 61 := ⟨by decide +kernel, rfl⟩
theorem aX8_lineBy_61 : At cX8_lineBy 61 (.if_icmp .ge 62) 3 64 := ⟨by decide +kernel, rfl⟩
theorem aX8_lineBy_64 : At cX8_lineBy 64 (.aload_n 0) 1 65 := ⟨by decide +kernel, rfl⟩
theorem aX8_lineBy_65 : At cX8_lineBy 65 (.iload 6) 2 67 := ⟨by decide +kernel, rfl⟩
theorem aX8_lineBy_67 : At cX8_lineBy 67 (.aload_n 0) 1 68 := ⟨by decide +kernel, rfl⟩
theorem aX8_lineBy_68 : At cX8_lineBy 68 (.getfield 7) 3 71 := ⟨by decide +kernel, rfl⟩
theorem aX8_lineBy_71 : At cX8_lineBy 71 (.invokevirtual 184) 3 74 := ⟨by decide +kernel, rfl⟩
theorem aX8_lineBy_74 : At cX8_lineBy 74 (.ifCond .eq 43) 3 77 := ⟨by decide +kernel, rfl⟩
theorem aX8_lineBy_77 : At cX8_lineBy 77 (.aload_n 0) 1 78 := ⟨by decide +kernel, rfl⟩
theorem aX8_lineBy_78 : At cX8_lineBy 78 (.invokevirtual 187) 3 81 := ⟨by decide +kernel, rfl⟩
theorem aX8_lineBy_81 : At cX8_lineBy 81 (.istore 7) 2 83 := ⟨by decide +kernel, rfl⟩
theorem aX8_lineBy_83 : At cX8_lineBy 83 (.iload 4) 2 85 := ⟨by decide +kernel, rfl⟩
theorem aX8_lineBy_85 : At cX8_lineBy 85 (.ifCond .lt 24) 3 88 := ⟨by decide +kernel, rfl⟩
theorem aX8_lineBy_88 : At cX8_lineBy 88 (.iload_n 1) 1 89 := ⟨by decide +kernel, rfl⟩
theorem aX8_lineBy_89 : At cX8_lineBy 89 (.ifCond .ne 13) 3 92 := ⟨by decide +kernel, rfl⟩
theorem aX8_lineBy_92 : At cX8_lineBy 92 (.iload 7) 2 94 := ⟨by decide +kernel, rfl⟩
theorem aX8_lineBy_94 : At cX8_lineBy 94 (.iload 5) 2 96 := ⟨by decide +kernel, rfl⟩
theorem aX8_lineBy_96 : At cX8_lineBy 96 (.if_icmp .ge 21) 3 99 := ⟨by decide +kernel, rfl⟩
theorem aX8_lineBy_99 : At cX8_lineBy 99 (.goto 10) 3 102 := ⟨by decide +kernel, rfl⟩
theorem aX8_lineBy_102 : At cX8_lineBy 102 (.iload 7) 2 104 := ⟨by decide +kernel, rfl⟩
theorem aX8_lineBy_104 : At cX8_lineBy 104 (.iload 5) 2 106 := ⟨by decide +kernel, rfl⟩
theorem aX8_lineBy_106 : At cX8_lineBy 106 (.if_icmp .le 11) 3 109 := ⟨by decide +kernel, rfl⟩
theorem aX8_lineBy_109 : At cX8_lineBy 109 (.iload 7) 2 111 := ⟨by decide +kernel, rfl⟩
theorem aX8_lineBy_111 : At cX8_lineBy 111 (.istore 5) 2 113 := ⟨by decide +kernel, rfl⟩
theorem aX8_lineBy_113 : At cX8_lineBy 113 (.iload 6) 2 115 := ⟨by decide +kernel, rfl⟩
theorem aX8_lineBy_115 : At cX8_lineBy 115 (.istore 4) 2 117 := ⟨by decide +kernel, rfl⟩
theorem aX8_lineBy_117 : At cX8_lineBy 117 (.iinc 6 1) 3 120 := ⟨by decide +kernel, rfl⟩
theorem aX8_lineBy_120 : At cX8_lineBy 120 (.goto (-62)) 3 123 := ⟨by decide +kernel, rfl⟩
theorem aX8_lineBy_123 : At cX8_lineBy 123 (.iconst 0) 1 124 := ⟨by decide +kernel, rfl⟩
theorem aX8_lineBy_124 : At cX8_lineBy 124 (.istore 6) 2 126 := ⟨by decide +kernel, rfl⟩
theorem aX8_lineBy_126 : At cX8_lineBy 126 (.aload_n 0) 1 127 := ⟨by decide +kernel, rfl⟩
theorem aX8_lineBy_127 : At cX8_lineBy 127 (.iload 4) 2 129 := ⟨by decide +kernel, rfl⟩
theorem aX8_lineBy_129 : At cX8_lineBy 129 (.aload_n 0) 1 130 := ⟨by decide +kernel, rfl⟩
theorem aX8_lineBy_130 : At cX8_lineBy 130 (.getfield 7) 3 133 := ⟨by decide +kernel, rfl⟩
theorem aX8_lineBy_133 : At cX8_lineBy 133 (.invokevirtual 184) 3 136 := ⟨by decide +kernel, rfl⟩
theorem aX8_lineBy_136 : At cX8_lineBy 136 (.istore 7) 2 138 := ⟨by decide +kernel, rfl⟩
theorem aX8_lineBy_138 : At cX8_lineBy 138 (.iconst 0) 1 139 := ⟨by decide +kernel, rfl⟩
theorem aX8_lineBy_139 : At cX8_lineBy 139 (.istore 8) 2 141 := ⟨by decide +kernel, rfl⟩
theorem aX8_lineBy_141 : At cX8_lineBy 141 (.iload 8) 2 143 := ⟨by decide +kernel, rfl⟩
theorem aX8_lineBy_143 : At cX8_lineBy 143 (.aload_n 0) 1 144 := ⟨by decide +kernel, rfl⟩
theorem aX8_lineBy_144 : At cX8_lineBy 144 (.getfield 7) 3 147 := ⟨by decide +kernel, rfl⟩
theorem aX8_lineBy_147 : At cX8_lineBy 147 (.if_icmp .ge 29) 3 150 := ⟨by decide +kernel, rfl⟩
theorem aX8_lineBy_150 : At cX8_lineBy 150 (.iload 7) 2 152 := ⟨by decide +kernel, rfl⟩
theorem aX8_lineBy_152 : At cX8_lineBy 152 (.ifCond .eq 24) 3 155 := ⟨by decide +kernel, rfl⟩
theorem aX8_lineBy_155 : At cX8_lineBy 155 (.bipush 10) 2 157 := ⟨by decide +kernel, rfl⟩
theorem aX8_lineBy_157 : At cX8_lineBy 157 (.iload 6) 2 159 := ⟨by decide +kernel, rfl⟩
theorem aX8_lineBy_159 : At cX8_lineBy 159 .imul 1 160 := ⟨by decide +kernel, rfl⟩
theorem aX8_lineBy_160 : At cX8_lineBy 160 (.aload_n 0) 1 161 := ⟨by decide +kernel, rfl⟩
theorem aX8_lineBy_161 : At cX8_lineBy 161 (.getfield 70) 3 164 := ⟨by decide +kernel, rfl⟩
theorem aX8_lineBy_164 : At cX8_lineBy 164 (.iload 8) 2 166 := ⟨by decide +kernel, rfl⟩
theorem aX8_lineBy_166 : At cX8_lineBy 166 .iaload 1 167 := ⟨by decide +kernel, rfl⟩
theorem aX8_lineBy_167 : At cX8_lineBy 167 .iadd 1 168 := ⟨by decide +kernel, rfl⟩
theorem aX8_lineBy_168 : At cX8_lineBy 168 (.istore 6) 2 170 := ⟨by decide +kernel, rfl⟩
theorem aX8_lineBy_170 : At cX8_lineBy 170 (.iinc 8 1) 3 173 := ⟨by decide +kernel, rfl⟩
theorem aX8_lineBy_173 : At cX8_lineBy 173 (.goto (-32)) 3 176 := ⟨by decide +kernel, rfl⟩
theorem aX8_lineBy_176 : At cX8_lineBy 176 (.iload_n 2) 1 177 := ⟨by decide +kernel, rfl⟩
theorem aX8_lineBy_177 : At cX8_lineBy 177 (.ifCond .ne 8) 3 180 := ⟨by decide +kernel, rfl⟩
theorem aX8_lineBy_180 : At cX8_lineBy 180 (.iload 6) 2 182 := ⟨by decide +kernel, rfl⟩
theorem aX8_lineBy_182 : At cX8_lineBy 182 (.goto 5) 3 185 := ⟨by decide +kernel, rfl⟩
theorem aX8_lineBy_185 : At cX8_lineBy 185 (.iload 5) 2 187 := ⟨by decide +kernel, rfl⟩
theorem aX8_lineBy_187 : At cX8_lineBy 187 .ireturn 1 188 := ⟨by decide +kernel, rfl⟩
theorem aX8_loss_0 : At cX8_loss 0 (.iload_n 1) 1 1 := ⟨by decide +kernel, rfl⟩
theorem aX8_loss_1 : At cX8_loss 1 (.iconst 0) 1 2 := ⟨by decide +kernel, rfl⟩
theorem aX8_loss_2 : At cX8_loss 2 (.bipush 20) 2 4 := ⟨by decide +kernel, rfl⟩
theorem aX8_loss_4 : At cX8_loss 4 (.invokestatic 79) 3 7 := ⟨by decide +kernel, rfl⟩
theorem aX8_loss_7 : At cX8_loss 7 (.ifCond .ne 6) 3 10 := ⟨by decide +kernel, rfl⟩
theorem aX8_loss_10 : At cX8_loss 10 (.bipush (-2)) 2 12 := ⟨by decide +kernel, rfl⟩
theorem aX8_loss_12 : At cX8_loss 12 .ireturn 1 13 := ⟨by decide +kernel, rfl⟩
theorem aX8_loss_13 : At cX8_loss 13 (.aload_n 0) 1 14 := ⟨by decide +kernel, rfl⟩
theorem aX8_loss_14 : At cX8_loss 14 (.getfield 168) 3 17 := ⟨by decide +kernel, rfl⟩
theorem aX8_loss_17 : At cX8_loss 17 (.istore_n 2) 1 18 := ⟨by decide +kernel, rfl⟩
theorem aX8_loss_18 : At cX8_loss 18 (.aload_n 0) 1 19 := ⟨by decide +kernel, rfl⟩
theorem aX8_loss_19 : At cX8_loss 19 (.iload_n 1) 1 20 := ⟨by decide +kernel, rfl⟩
theorem aX8_loss_20 : At cX8_loss 20 (.putfield 168) 3 23 := ⟨by decide +kernel, rfl⟩
theorem aX8_loss_23 : At cX8_loss 23 (.iload_n 2) 1 24 := ⟨by decide +kernel, rfl⟩
theorem aX8_loss_24 : At cX8_loss 24 .ireturn 1 25 := ⟨by decide +kernel, rfl⟩
theorem aX8_more_0 : At cX8_more 0 (.iload_n 1) 1 1 := ⟨by decide +kernel, rfl⟩
theorem aX8_more_1 : At cX8_more 1 (.iconst (-1)) 1 2 := ⟨by decide +kernel, rfl⟩
theorem aX8_more_2 : At cX8_more 2 (.if_icmp .eq 13) 3 5 := ⟨by decide +kernel, rfl⟩
theorem aX8_more_5 : At cX8_more 5 (.aload_n 0) 1 6 := ⟨by decide +kernel, rfl⟩
theorem aX8_more_6 : At cX8_more 6 (.iload_n 1) 1 7 := ⟨by decide +kernel, rfl⟩
theorem aX8_more_7 : At cX8_more 7 (.invokevirtual 89) 3 10 := ⟨by decide +kernel, rfl⟩
theorem aX8_more_10 : At cX8_more 10 (.ifCond .ne 5) 3 13 := ⟨by decide +kernel, rfl⟩
theorem aX8_more_13 : At cX8_more 13 (.iconst (-1)) 1 14 := ⟨by decide +kernel, rfl⟩
theorem aX8_more_14 : At cX8_more 14 .ireturn 1 15 := ⟨by decide +kernel, rfl⟩
theorem aX8_more_15 : At cX8_more 15 (.iload_n 2) 1 16 := ⟨by decide +kernel, rfl⟩
theorem aX8_more_16 : At cX8_more 16 (.iconst 0) 1 17 := ⟨by decide +kernel, rfl⟩
theorem aX8_more_17 : At cX8_more 17 (.iconst 1) 1 18 := ⟨by decide +kernel, rfl⟩
theorem aX8_more_18 : At cX8_more 18 (.invokestatic 79) 3 21 := ⟨by decide +kernel, rfl⟩
theorem aX8_more_21 : At cX8_more 21 (.ifCond .ne 6) 3 24 := ⟨by decide +kernel, rfl⟩
theorem aX8_more_24 : At cX8_more 24 (.bipush (-2)) 2 26 := ⟨by decide +kernel, rfl⟩
theorem aX8_more_26 : At cX8_more 26 .ireturn 1 27 := ⟨by decide +kernel, rfl⟩
theorem aX8_more_27 : At cX8_more 27 (.aload_n 0) 1 28 := ⟨by decide +kernel, rfl⟩
theorem aX8_more_28 : At cX8_more 28 (.invokevirtual 111) 3 31 := ⟨by decide +kernel, rfl⟩
theorem aX8_more_31 : At cX8_more 31 (.ifCond .ne 6) 3 34 := ⟨by decide +kernel, rfl⟩
theorem aX8_more_34 : At cX8_more 34 (.bipush (-3)) 2 36 := ⟨by decide +kernel, rfl⟩
theorem aX8_more_36 : At cX8_more 36 .ireturn 1 37 := ⟨by decide +kernel, rfl⟩
theorem aX8_more_37 : At cX8_more 37 (.aload_n 0) 1 38 := ⟨by decide +kernel, rfl⟩
theorem aX8_more_38 : At cX8_more 38 (.invokevirtual 121) 3 41 := ⟨by decide +kernel, rfl⟩
theorem aX8_more_41 : At cX8_more 41 (.aload_n 0) 1 42 := ⟨by decide +kernel, rfl⟩
theorem aX8_more_42 : At cX8_more 42 (.getfield 118) 3 45 := ⟨by decide +kernel, rfl⟩
theorem aX8_more_45 : At cX8_more 45 (.iconst 5) 1 46 := ⟨by decide +kernel, rfl⟩
theorem aX8_more_46 : At cX8_more 46 (.if_icmp .le 6) 3 49 := ⟨by decide +kernel, rfl⟩
theorem aX8_more_49 : At cX8_more 49 (.bipush (-5)) 2 51 := ⟨by decide +kernel, rfl⟩
theorem aX8_more_51 : At cX8_more 51 .ireturn 1 52 := ⟨by decide +kernel, rfl⟩
theorem aX8_more_52 : At cX8_more 52 (.iconst 0) 1 53 := ⟨by decide +kernel, rfl⟩
theorem aX8_more_53 : At cX8_more 53 (.istore_n 3) 1 54 := ⟨by decide +kernel, rfl⟩
theorem aX8_more_54 : At cX8_more 54 (.iconst 0) 1 55 := ⟨by decide +kernel, rfl⟩
theorem aX8_more_55 : At cX8_more 55 (.istore 4) 2 57 := ⟨by decide +kernel, rfl⟩
theorem aX8_more_57 : At cX8_more 57 (.iload 4) 2 59 := ⟨by decide +kernel, rfl⟩
theorem aX8_more_59 : At cX8_more 59 (.aload_n 0) 1 60 := ⟨by decide +kernel, rfl⟩
theorem aX8_more_60 : At cX8_more 60 (.getfield 118) 3 63 := ⟨by decide +kernel, rfl⟩
theorem aX8_more_63 : At cX8_more 63 (.if_icmp .ge 69) 3 66 := ⟨by decide +kernel, rfl⟩
theorem aX8_more_66 : At cX8_more 66 (.iconst 0) 1 67 := ⟨by decide +kernel, rfl⟩
theorem aX8_more_67 : At cX8_more 67 (.istore 5) 2 69 := ⟨by decide +kernel, rfl⟩
theorem aX8_more_69 : At cX8_more 69 (.iload 5) 2 71 := ⟨by decide +kernel, rfl⟩
theorem aX8_more_71 : At cX8_more 71 (.aload_n 0) 1 72 := ⟨by decide +kernel, rfl⟩
theorem aX8_more_72 : At cX8_more 72 (.getfield 118) 3 75 := ⟨by decide +kernel, rfl⟩
theorem aX8_more_75 : At cX8_more 75 (.if_icmp .ge 51) 3 78 := ⟨by decide +kernel, rfl⟩
theorem aX8_more_78 : At cX8_more 78 (.iload_n 3) 1 79 := ⟨by decide +kernel, rfl⟩
theorem aX8_more_79 : At cX8_more 79 (.aload_n 0) 1 80 := ⟨by decide +kernel, rfl⟩
theorem aX8_more_80 : At cX8_more 80 (.getfield 35) 3 83 := ⟨by decide +kernel, rfl⟩
theorem aX8_more_83 : At cX8_more 83 (.bipush 6) 2 85 := ⟨by decide +kernel, rfl⟩
theorem aX8_more_85 : At cX8_more 85 (.aload_n 0) 1 86 := ⟨by decide +kernel, rfl⟩
theorem aX8_more_86 : At cX8_more 86 (.getfield 42) 3 89 := ⟨by decide +kernel, rfl⟩
theorem aX8_more_89 : At cX8_more 89 (.iload 4) 2 91 := ⟨by decide +kernel, rfl⟩
theorem aX8_more_91 : At cX8_more 91 .iaload 1 92 := ⟨by decide +kernel, rfl⟩
theorem aX8_more_92 : At cX8_more 92 .imul 1 93 := ⟨by decide +kernel, rfl⟩
theorem aX8_more_93 : At cX8_more 93 (.aload_n 0) 1 94 := ⟨by decide +kernel, rfl⟩
theorem aX8_more_94 : At cX8_more 94 (.getfield 42) 3 97 := ⟨by decide +kernel, rfl⟩
theorem aX8_more_97 : At cX8_more 97 (.iload 5) 2 99 := ⟨by decide +kernel, rfl⟩
theorem aX8_more_99 : At cX8_more 99 .iaload 1 100 := ⟨by decide +kernel, rfl⟩
theorem aX8_more_100 : At cX8_more 100 .iadd 1 101 := ⟨by decide +kernel, rfl⟩
theorem aX8_more_101 : At cX8_more 101 .baload 1 102 := ⟨by decide +kernel, rfl⟩
theorem aX8_more_102 : At cX8_more 102 (.ifCond .eq 15) 3 105 := ⟨by decide +kernel, rfl⟩
theorem aX8_more_105 : At cX8_more 105 (.iconst 1) 1 106 := ⟨by decide +kernel, rfl⟩
theorem aX8_more_106 : At cX8_more 106 (.iconst 5) 1 107 := ⟨by decide +kernel, rfl⟩
theorem aX8_more_107 : At cX8_more 107 (.iload 4) 2 109 := ⟨by decide +kernel, rfl⟩
theorem aX8_more_109 : At cX8_more 109 .imul 1 110 := ⟨by decide +kernel, rfl⟩
theorem aX8_more_110 : At cX8_more 110 (.iload 5) 2 112 := ⟨by decide +kernel, rfl⟩
theorem aX8_more_112 : At cX8_more 112 .iadd 1 113 := ⟨by decide +kernel, rfl⟩
theorem aX8_more_113 : At cX8_more 113 .ishl 1 114 := ⟨by decide +kernel, rfl⟩
theorem aX8_more_114 : At cX8_more 114 (.goto 4) 3 117 := ⟨by decide +kernel, rfl⟩
theorem aX8_more_117 : At cX8_more 117 (.iconst 0) 1 118 := ⟨by decide +kernel, rfl⟩
theorem aX8_more_118 : At cX8_more 118 .ior 1 119 := ⟨by decide +kernel, rfl⟩
theorem aX8_more_119 : At cX8_more 119 (.istore_n 3) 1 120 := ⟨by decide +kernel, rfl⟩
theorem aX8_more_120 : At cX8_more 120 (.iinc 5 1) 3 123 := ⟨by decide +kernel, rfl⟩
theorem aX8_more_123 : At cX8_more 123 (.goto (-54)) 3 126 := ⟨by decide +kernel, rfl⟩
theorem aX8_more_126 : At cX8_more 126 (.iinc 4 1) 3 129 := ⟨by decide +kernel, rfl⟩
theorem aX8_more_129 : At cX8_more 129 (.goto (-72)) 3 132 := ⟨by decide +kernel, rfl⟩
theorem aX8_more_132 : At cX8_more 132 (.aload_n 0) 1 133 := ⟨by decide +kernel, rfl⟩
theorem aX8_more_133 : At cX8_more 133 (.iload_n 3) 1 134 := ⟨by decide +kernel, rfl⟩
theorem aX8_more_134 : At cX8_more 134 (.iload_n 1) 1 135 := ⟨by decide +kernel, rfl⟩
theorem aX8_more_135 : At cX8_more 135 (.ifCond .ge 7) 3 138 := ⟨by decide +kernel, rfl⟩
theorem aX8_more_138 : At cX8_more 138 (.iconst 5) 1 139 := ⟨by decide +kernel, rfl⟩
theorem aX8_more_139 : At cX8_more 139 (.goto 9) 3 142 := ⟨by decide +kernel, rfl⟩
theorem aX8_more_142 : At cX8_more 142 (.aload_n 0) 1 143 := ⟨by decide +kernel, rfl⟩
theorem aX8_more_143 : At cX8_more 143 (.getfield 45) 3 146 := ⟨by decide +kernel, rfl⟩
theorem aX8_more_146 : At cX8_more 146 (.iload_n 1) 1 147 := ⟨by decide +kernel, rfl⟩
theorem aX8_more_147 : At cX8_more 147 .iaload 1 148 := ⟨by decide +kernel, rfl⟩
theorem aX8_more_148 : At cX8_more 148 (.invokevirtual 161) 3 151 := ⟨by decide +kernel, rfl⟩
theorem aX8_more_151 : At cX8_more 151 (.aload_n 0) 1 152 := ⟨by decide +kernel, rfl⟩
theorem aX8_more_152 : At cX8_more 152 (.invokevirtual 165) 3 155 := ⟨by decide +kernel, rfl⟩
theorem aX8_more_155 : At cX8_more 155 (.iload_n 2) 1 156 := ⟨by decide +kernel, rfl⟩
theorem aX8_more_156 : At cX8_more 156 (.ifCond .ne 10) 3 159 := ⟨by decide +kernel, rfl⟩
theorem aX8_more_159 : At cX8_more 159 (.aload_n 0) 1 160 := ⟨by decide +kernel, rfl⟩
theorem aX8_more_160 : At cX8_more 160 (.getfield 57) 3 163 := ⟨by decide +kernel, rfl⟩
theorem aX8_more_163 : At cX8_more 163 (.iconst 0) 1 164 := ⟨by decide +kernel, rfl⟩
theorem aX8_more_164 : At cX8_more 164 .iaload 1 165 := ⟨by decide +kernel, rfl⟩
theorem aX8_more_165 : At cX8_more 165 .ireturn 1 166 := ⟨by decide +kernel, rfl⟩
theorem aX8_more_166 : At cX8_more 166 (.bipush (-6)) 2 168 := ⟨by decide +kernel, rfl⟩
theorem aX8_more_168 : At cX8_more 168 (.istore 4) 2 170 := ⟨by decide +kernel, rfl⟩
theorem aX8_more_170 : At cX8_more 170 (.iconst 0) 1 171 := ⟨by decide +kernel, rfl⟩
theorem aX8_more_171 : At cX8_more 171 (.istore 5) 2 173 := ⟨by decide +kernel, rfl⟩
theorem aX8_more_173 : At cX8_more 173 (.iload 5) 2 175 := ⟨by decide +kernel, rfl⟩
theorem aX8_more_175 : At cX8_more 175 (.aload_n 0) 1 176 := ⟨by decide +kernel, rfl⟩
theorem aX8_more_176 : At cX8_more 176 (.getfield 118) 3 179 := ⟨by decide +kernel, rfl⟩
theorem aX8_more_179 : At cX8_more 179 (.if_icmp .ge 55) 3 182 := ⟨by decide +kernel, rfl⟩
theorem aX8_more_182 : At cX8_more 182 (.aload_n 0) 1 183 := ⟨by decide +kernel, rfl⟩
theorem aX8_more_183 : At cX8_more 183 (.getfield 57) 3 186 := ⟨by decide +kernel, rfl⟩
theorem aX8_more_186 : At cX8_more 186 (.iconst 0) 1 187 := ⟨by decide +kernel, rfl⟩
theorem aX8_more_187 : At cX8_more 187 .iaload 1 188 := ⟨by decide +kernel, rfl⟩
theorem aX8_more_188 : At cX8_more 188 (.ifCond .le 46) 3 191 := ⟨by decide +kernel, rfl⟩
theorem aX8_more_191 : At cX8_more 191 (.iload 4) 2 193 := ⟨by decide +kernel, rfl⟩
theorem aX8_more_193 : At cX8_more 193 (.ifCond .ge 41) 3 196 := ⟨by decide +kernel, rfl⟩
theorem aX8_more_196 : At cX8_more 196 (.aload_n 0) 1 197 := ⟨by decide +kernel, rfl⟩
theorem aX8_more_197 : At cX8_more 197 (.iconst 0) 1 198 := ⟨by decide +kernel, rfl⟩
theorem aX8_more_198 : At cX8_more 198 (.iload 5) 2 200 := ⟨by decide +kernel, rfl⟩
theorem aX8_more_200 : At cX8_more 200 (.aload_n 0) 1 201 := ⟨by decide +kernel, rfl⟩
theorem aX8_more_201 : At cX8_more 201 (.getfield 57) 3 204 := ⟨by decide +kernel, rfl⟩
theorem aX8_more_204 : At cX8_more 204 (.iconst 0) 1 205 := ⟨by decide +kernel, rfl⟩
theorem aX8_more_205 : At cX8_more 205 .iaload 1 206 := ⟨by decide +kernel, rfl⟩
theorem aX8_more_206 : At cX8_more 206 (.iconst 1) 1 207 := ⟨by decide +kernel, rfl⟩
theorem aX8_more_207 : At cX8_more 207 .isub 1 208 := ⟨by decide +kernel, rfl⟩
theorem aX8_more_208 : At cX8_more 208 (.invokevirtual 158) 3 211 := ⟨by decide +kernel, rfl⟩
theorem aX8_more_211 : At cX8_more 211 (.ifCond .eq 13) 3 214 := ⟨by decide +kernel, rfl⟩
theorem aX8_more_214 : At cX8_more 214 (.aload_n 0) 1 215 := ⟨by decide +kernel, rfl⟩
theorem aX8_more_215 : At cX8_more 215 (.getfield 42) 3 218 := ⟨by decide +kernel, rfl⟩
theorem aX8_more_218 : At cX8_more 218 (.iload 5) 2 220 := ⟨by decide +kernel, rfl⟩
theorem aX8_more_220 : At cX8_more 220 .iaload 1 221 := ⟨by decide +kernel, rfl⟩
theorem aX8_more_221 : At cX8_more 221 (.goto 5) 3 224 := ⟨by decide +kernel, rfl⟩
theorem aX8_more_224 : At cX8_more 224 (.bipush (-6)) 2 226 := ⟨by decide +kernel, rfl⟩
theorem aX8_more_226 : At cX8_more 226 (.istore 4) 2 228 := ⟨by decide +kernel, rfl⟩
theorem aX8_more_228 : At cX8_more 228 (.iinc 5 1) 3 231 := ⟨by decide +kernel, rfl⟩
theorem aX8_more_231 : At cX8_more 231 (.goto (-58)) 3 234 := ⟨by decide +kernel, rfl⟩
theorem aX8_more_234 : At cX8_more 234 (.iload 4) 2 236 := ⟨by decide +kernel, rfl⟩
theorem aX8_more_236 : At cX8_more 236 .ireturn 1 237 := ⟨by decide +kernel, rfl⟩
theorem aX8_open_0 : At cX8_open 0 (.iload_n 1) 1 1 := ⟨by decide +kernel, rfl⟩
theorem aX8_open_1 : At cX8_open 1 (.iconst 0) 1 2 := ⟨by decide +kernel, rfl⟩
theorem aX8_open_2 : At cX8_open 2 (.iconst 2) 1 3 := ⟨by decide +kernel, rfl⟩
theorem aX8_open_3 : At cX8_open 3 (.invokestatic 79) 3 6 := ⟨by decide +kernel, rfl⟩
theorem aX8_open_6 : At cX8_open 6 (.ifCond .ne 6) 3 9 := ⟨by decide +kernel, rfl⟩
theorem aX8_open_9 : At cX8_open 9 (.bipush (-2)) 2 11 := ⟨by decide +kernel, rfl⟩
theorem aX8_open_11 : At cX8_open 11 .ireturn 1 12 := ⟨by decide +kernel, rfl⟩
theorem aX8_open_12 : At cX8_open 12 (.aload_n 0) 1 13 := ⟨by decide +kernel, rfl⟩
theorem aX8_open_13 : At cX8_open 13 (.invokevirtual 111) 3 16 := ⟨by decide +kernel, rfl⟩
theorem aX8_open_16 : At cX8_open 16 (.istore_n 2) 1 17 := ⟨by decide +kernel, rfl⟩
theorem aX8_open_17 : At cX8_open 17 (.iload_n 1) 1 18 := ⟨by decide +kernel, rfl⟩
theorem aX8_open_18 : At cX8_open 18 (.iconst 2) 1 19 := ⟨by decide +kernel, rfl⟩
theorem aX8_open_19 : At cX8_open 19 (.if_icmp .ne 13) 3 22 := ⟨by decide +kernel, rfl⟩
theorem aX8_open_22 : At cX8_open 22 (.iload_n 2) 1 23 := ⟨by decide +kernel, rfl⟩
theorem aX8_open_23 : At cX8_open 23 (.ifCond .eq 7) 3 26 := ⟨by decide +kernel, rfl⟩
theorem aX8_open_26 : At cX8_open 26 (.iconst 1) 1 27 := ⟨by decide +kernel, rfl⟩
theorem aX8_open_27 : At cX8_open 27 (.goto 4) 3 30 := ⟨by decide +kernel, rfl⟩
theorem aX8_open_30 : At cX8_open 30 (.iconst 0) 1 31 := ⟨by decide +kernel, rfl⟩
theorem aX8_open_31 : At cX8_open 31 .ireturn 1 32 := ⟨by decide +kernel, rfl⟩
theorem aX8_open_32 : At cX8_open 32 (.iload_n 2) 1 33 := ⟨by decide +kernel, rfl⟩
theorem aX8_open_33 : At cX8_open 33 (.ifCond .ne 6) 3 36 := ⟨by decide +kernel, rfl⟩
theorem aX8_open_36 : At cX8_open 36 (.bipush (-3)) 2 38 := ⟨by decide +kernel, rfl⟩
theorem aX8_open_38 : At cX8_open 38 .ireturn 1 39 := ⟨by decide +kernel, rfl⟩
theorem aX8_open_39 : At cX8_open 39 (.aload_n 0) 1 40 := ⟨by decide +kernel, rfl⟩
theorem aX8_open_40 : At cX8_open 40 (.invokevirtual 121) 3 43 := ⟨by decide +kernel, rfl⟩
theorem aX8_open_43 : At cX8_open 43 (.iload_n 1) 1 44 := ⟨by decide +kernel, rfl⟩
theorem aX8_open_44 : At cX8_open 44 (.ifCond .ne 10) 3 47 := ⟨by decide +kernel, rfl⟩
theorem aX8_open_47 : At cX8_open 47 (.aload_n 0) 1 48 := ⟨by decide +kernel, rfl⟩
theorem aX8_open_48 : At cX8_open 48 (.invokevirtual 124) 3 51 := ⟨by decide +kernel, rfl⟩
theorem aX8_open_51 : At cX8_open 51 (.goto 7) 3 54 := ⟨by decide +kernel, rfl⟩
theorem aX8_open_54 : At cX8_open 54 (.aload_n 0) 1 55 := ⟨by decide +kernel, rfl⟩
theorem aX8_open_55 : At cX8_open 55 (.getfield 118) 3 58 := ⟨by decide +kernel, rfl⟩
theorem aX8_open_58 : At cX8_open 58 .ireturn 1 59 := ⟨by decide +kernel, rfl⟩
theorem aX8_openPairs_0 : At cX8_openPairs 0 (.iconst 0) 1 1 := ⟨by decide +kernel, rfl⟩
theorem aX8_openPairs_1 : At cX8_openPairs 1 (.istore_n 1) 1 2 := ⟨by decide +kernel, rfl⟩
theorem aX8_openPairs_2 : At cX8_openPairs 2 (.iconst 0) 1 3 := ⟨by decide +kernel, rfl⟩
theorem aX8_openPairs_3 : At cX8_openPairs 3 (.istore_n 2) 1 4 := ⟨by decide +kernel, rfl⟩
theorem aX8_openPairs_4 : At cX8_openPairs 4 (.iload_n 2) 1 5 := ⟨by decide +kernel, rfl⟩
theorem aX8_openPairs_5 : At cX8_openPairs 5 (.aload_n 0) 1 6 := ⟨by decide +kernel, rfl⟩
theorem aX8_openPairs_6 : At cX8_openPairs 6 (.getfield 7) 3 9 := ⟨by decide +kernel, rfl⟩
theorem aX8_openPairs_9 : At cX8_openPairs 9 (.if_icmp .ge 39) 3 12 := ⟨by decide +kernel, rfl⟩
theorem aX8_openPairs_12 : At cX8_openPairs 12 (.iconst 0) 1 13 := ⟨by decide +kernel, rfl⟩
theorem aX8_openPairs_13 : At cX8_openPairs 13 (.istore_n 3) 1 14 := ⟨by decide +kernel, rfl⟩
theorem aX8_openPairs_14 : At cX8_openPairs 14 (.iload_n 3) 1 15 := ⟨by decide +kernel, rfl⟩
theorem aX8_openPairs_15 : At cX8_openPairs 15 (.iload_n 2) 1 16 := ⟨by decide +kernel, rfl⟩
theorem aX8_openPairs_16 : At cX8_openPairs 16 (.if_icmp .ge 26) 3 19 := ⟨by decide +kernel, rfl⟩
theorem aX8_openPairs_19 : At cX8_openPairs 19 (.iload_n 1) 1 20 := ⟨by decide +kernel, rfl⟩
theorem aX8_openPairs_20 : At cX8_openPairs 20 (.aload_n 0) 1 21 := ⟨by decide +kernel, rfl⟩
theorem aX8_openPairs_21 : At cX8_openPairs 21 (.iload_n 2) 1 22 := ⟨by decide +kernel, rfl⟩
theorem aX8_openPairs_22 : At cX8_openPairs 22 (.iload_n 3) 1 23 := ⟨by decide +kernel, rfl⟩
theorem aX8_openPairs_23 : At cX8_openPairs 23 (.invokevirtual 114) 3 26 := ⟨by decide +kernel, rfl⟩
theorem aX8_openPairs_26 : At cX8_openPairs 26 (.ifCond .eq 7) 3 29 := ⟨by decide +kernel, rfl⟩
theorem aX8_openPairs_29 : At cX8_openPairs 29 (.iconst 1) 1 30 := ⟨by decide +kernel, rfl⟩
theorem aX8_openPairs_30 : At cX8_openPairs 30 (.goto 4) 3 33 := ⟨by decide +kernel, rfl⟩
theorem aX8_openPairs_33 : At cX8_openPairs 33 (.iconst 0) 1 34 := ⟨by decide +kernel, rfl⟩
theorem aX8_openPairs_34 : At cX8_openPairs 34 .iadd 1 35 := ⟨by decide +kernel, rfl⟩
theorem aX8_openPairs_35 : At cX8_openPairs 35 (.istore_n 1) 1 36 := ⟨by decide +kernel, rfl⟩
theorem aX8_openPairs_36 : At cX8_openPairs 36 (.iinc 3 1) 3 39 := ⟨by decide +kernel, rfl⟩
theorem aX8_openPairs_39 : At cX8_openPairs 39 (.goto (-25)) 3 42 := ⟨by decide +kernel, rfl⟩
theorem aX8_openPairs_42 : At cX8_openPairs 42 (.iinc 2 1) 3 45 := ⟨by decide +kernel, rfl⟩
theorem aX8_openPairs_45 : At cX8_openPairs 45 (.goto (-41)) 3 48 := ⟨by decide +kernel, rfl⟩
theorem aX8_openPairs_48 : At cX8_openPairs 48 (.iload_n 1) 1 49 := ⟨by decide +kernel, rfl⟩
theorem aX8_openPairs_49 : At cX8_openPairs 49 .ireturn 1 50 := ⟨by decide +kernel, rfl⟩
theorem aX8_orders_0 : At cX8_orders 0 (.aload_n 0) 1 1 := ⟨by decide +kernel, rfl⟩
theorem aX8_orders_1 : At cX8_orders 1 (.invokevirtual 111) 3 4 := ⟨by decide +kernel, rfl⟩
theorem aX8_orders_4 : At cX8_orders 4 (.ifCond .ne 6) 3 7 := ⟨by decide +kernel, rfl⟩
theorem aX8_orders_7 : At cX8_orders 7 (.bipush (-3)) 2 9 := ⟨by decide +kernel, rfl⟩
theorem aX8_orders_9 : At cX8_orders 9 .ireturn 1 10 := ⟨by decide +kernel, rfl⟩
theorem aX8_orders_10 : At cX8_orders 10 (.aload_n 0) 1 11 := ⟨by decide +kernel, rfl⟩
theorem aX8_orders_11 : At cX8_orders 11 (.invokevirtual 121) 3 14 := ⟨by decide +kernel, rfl⟩
theorem aX8_orders_14 : At cX8_orders 14 (.iconst 0) 1 15 := ⟨by decide +kernel, rfl⟩
theorem aX8_orders_15 : At cX8_orders 15 (.istore_n 1) 1 16 := ⟨by decide +kernel, rfl⟩
theorem aX8_orders_16 : At cX8_orders 16 (.iload_n 1) 1 17 := ⟨by decide +kernel, rfl⟩
theorem aX8_orders_17 : At cX8_orders 17 (.bipush 64) 2 19 := ⟨by decide +kernel, rfl⟩
theorem aX8_orders_19 : At cX8_orders 19 (.if_icmp .ge 24) 3 22 := ⟨by decide +kernel, rfl⟩
theorem aX8_orders_22 : At cX8_orders 22 (.aload_n 0) 1 23 := ⟨by decide +kernel, rfl⟩
theorem aX8_orders_23 : At cX8_orders 23 (.getfield 48) 3 26 := ⟨by decide +kernel, rfl⟩
theorem aX8_orders_26 : At cX8_orders 26 (.iload_n 1) 1 27 := ⟨by decide +kernel, rfl⟩
theorem aX8_orders_27 : At cX8_orders 27 (.iload_n 1) 1 28 := ⟨by decide +kernel, rfl⟩
theorem aX8_orders_28 : At cX8_orders 28 (.ifCond .ne 7) 3 31 := ⟨by decide +kernel, rfl⟩
theorem aX8_orders_31 : At cX8_orders 31 (.iconst 1) 1 32 := ⟨by decide +kernel, rfl⟩
theorem aX8_orders_32 : At cX8_orders 32 (.goto 4) 3 35 := ⟨by decide +kernel, rfl⟩
theorem aX8_orders_35 : At cX8_orders 35 (.iconst 0) 1 36 := ⟨by decide +kernel, rfl⟩
theorem aX8_orders_36 : At cX8_orders 36 .iastore 1 37 := ⟨by decide +kernel, rfl⟩
theorem aX8_orders_37 : At cX8_orders 37 (.iinc 1 1) 3 40 := ⟨by decide +kernel, rfl⟩
theorem aX8_orders_40 : At cX8_orders 40 (.goto (-24)) 3 43 := ⟨by decide +kernel, rfl⟩
theorem aX8_orders_43 : At cX8_orders 43 (.iconst 0) 1 44 := ⟨by decide +kernel, rfl⟩
theorem aX8_orders_44 : At cX8_orders 44 (.istore_n 1) 1 45 := ⟨by decide +kernel, rfl⟩
theorem aX8_orders_45 : At cX8_orders 45 (.iload_n 1) 1 46 := ⟨by decide +kernel, rfl⟩
theorem aX8_orders_46 : At cX8_orders 46 (.iconst 1) 1 47 := ⟨by decide +kernel, rfl⟩
theorem aX8_orders_47 : At cX8_orders 47 (.aload_n 0) 1 48 := ⟨by decide +kernel, rfl⟩
theorem aX8_orders_48 : At cX8_orders 48 (.getfield 118) 3 51 := ⟨by decide +kernel, rfl⟩
theorem aX8_orders_51 : At cX8_orders 51 .ishl 1 52 := ⟨by decide +kernel, rfl⟩
theorem aX8_orders_52 : At cX8_orders 52 (.if_icmp .ge 125) 3 55 := ⟨by decide +kernel, rfl⟩
theorem aX8_orders_55 : At cX8_orders 55 (.iconst 0) 1 56 := ⟨by decide +kernel, rfl⟩
theorem aX8_orders_56 : At cX8_orders 56 (.istore_n 2) 1 57 := ⟨by decide +kernel, rfl⟩
theorem aX8_orders_57 : At cX8_orders 57 (.iload_n 2) 1 58 := ⟨by decide +kernel, rfl⟩
theorem aX8_orders_58 : At cX8_orders 58 (.aload_n 0) 1 59 := ⟨by decide +kernel, rfl⟩
theorem aX8_orders_59 : At cX8_orders 59 (.getfield 118) 3 62 := ⟨by decide +kernel, rfl⟩
theorem aX8_orders_62 : At cX8_orders 62 (.if_icmp .ge 109) 3 65 := ⟨by decide +kernel, rfl⟩
theorem aX8_orders_65 : At cX8_orders 65 (.iload_n 1) 1 66 := ⟨by decide +kernel, rfl⟩
theorem aX8_orders_66 : At cX8_orders 66 (.iload_n 2) 1 67 := ⟨by decide +kernel, rfl⟩
theorem aX8_orders_67 : At cX8_orders 67 .ishr 1 68 := ⟨by decide +kernel, rfl⟩
theorem aX8_orders_68 : At cX8_orders 68 (.iconst 1) 1 69 := ⟨by decide +kernel, rfl⟩
theorem aX8_orders_69 : At cX8_orders 69 .iand 1 70 := ⟨by decide +kernel, rfl⟩
theorem aX8_orders_70 : At cX8_orders 70 (.ifCond .ne 7) 3 73 := ⟨by decide +kernel, rfl⟩
theorem aX8_orders_73 : At cX8_orders 73 (.iconst 1) 1 74 := ⟨by decide +kernel, rfl⟩
theorem aX8_orders_74 : At cX8_orders 74 (.goto 4) 3 77 := ⟨by decide +kernel, rfl⟩
theorem aX8_orders_77 : At cX8_orders 77 (.iconst 0) 1 78 := ⟨by decide +kernel, rfl⟩
theorem aX8_orders_78 : At cX8_orders 78 (.istore_n 3) 1 79 := ⟨by decide +kernel, rfl⟩
theorem aX8_orders_79 : At cX8_orders 79 (.iconst 0) 1 80 := ⟨by decide +kernel, rfl⟩
theorem aX8_orders_80 : At cX8_orders 80 (.istore 4) 2 82 := ⟨by decide +kernel, rfl⟩
theorem aX8_orders_82 : At cX8_orders 82 (.iload 4) 2 84 := ⟨by decide +kernel, rfl⟩
theorem aX8_orders_84 : At cX8_orders 84 (.aload_n 0) 1 85 := ⟨by decide +kernel, rfl⟩
theorem aX8_orders_85 : At cX8_orders 85 (.getfield 118) 3 88 := ⟨by decide +kernel, rfl⟩
theorem aX8_orders_88 : At cX8_orders 88 (.if_icmp .ge 54) 3 91 := ⟨by decide +kernel, rfl⟩
theorem aX8_orders_91 : At cX8_orders 91 (.iload_n 3) 1 92 := ⟨by decide +kernel, rfl⟩
theorem aX8_orders_92 : At cX8_orders 92 (.ifCond .eq 42) 3 95 := ⟨by decide +kernel, rfl⟩
theorem aX8_orders_95 : At cX8_orders 95 (.aload_n 0) 1 96 := ⟨by decide +kernel, rfl⟩
theorem aX8_orders_96 : At cX8_orders 96 (.getfield 35) 3 99 := ⟨by decide +kernel, rfl⟩
theorem aX8_orders_99 : At cX8_orders 99 (.bipush 6) 2 101 := ⟨by decide +kernel, rfl⟩
theorem aX8_orders_101 : At cX8_orders 101 (.aload_n 0) 1 102 := ⟨by decide +kernel, rfl⟩
theorem aX8_orders_102 : At cX8_orders 102 (.getfield 42) 3 105 := ⟨by decide +kernel, rfl⟩
theorem aX8_orders_105 : At cX8_orders 105 (.iload 4) 2 107 := ⟨by decide +kernel, rfl⟩
theorem aX8_orders_107 : At cX8_orders 107 .iaload 1 108 := ⟨by decide +kernel, rfl⟩
theorem aX8_orders_108 : At cX8_orders 108 .imul 1 109 := ⟨by decide +kernel, rfl⟩
theorem aX8_orders_109 : At cX8_orders 109 (.aload_n 0) 1 110 := ⟨by decide +kernel, rfl⟩
theorem aX8_orders_110 : At cX8_orders 110 (.getfield 42) 3 113 := ⟨by decide +kernel, rfl⟩
theorem aX8_orders_113 : At cX8_orders 113 (.iload_n 2) 1 114 := ⟨by decide +kernel, rfl⟩
theorem aX8_orders_114 : At cX8_orders 114 .iaload 1 115 := ⟨by decide +kernel, rfl⟩
theorem aX8_orders_115 : At cX8_orders 115 .iadd 1 116 := ⟨by decide +kernel, rfl⟩
theorem aX8_orders_116 : At cX8_orders 116 .baload 1 117 := ⟨by decide +kernel, rfl⟩
theorem aX8_orders_117 : At cX8_orders 117 (.ifCond .eq 13) 3 120 := ⟨by decide +kernel, rfl⟩
theorem aX8_orders_120 : At cX8_orders 120 (.iload_n 1) 1 121 := ⟨by decide +kernel, rfl⟩
theorem aX8_orders_121 : At cX8_orders 121 (.iload 4) 2 123 := ⟨by decide +kernel, rfl⟩
theorem aX8_orders_123 : At cX8_orders 123 .ishr 1 124 := ⟨by decide +kernel, rfl⟩
theorem aX8_orders_124 : At cX8_orders 124 (.iconst 1) 1 125 := ⟨by decide +kernel, rfl⟩
theorem aX8_orders_125 : At cX8_orders 125 .iand 1 126 := ⟨by decide +kernel, rfl⟩
theorem aX8_orders_126 : At cX8_orders 126 (.iconst 1) 1 127 := ⟨by decide +kernel, rfl⟩
theorem aX8_orders_127 : At cX8_orders 127 (.if_icmp .ne 7) 3 130 := ⟨by decide +kernel, rfl⟩
theorem aX8_orders_130 : At cX8_orders 130 (.iconst 1) 1 131 := ⟨by decide +kernel, rfl⟩
theorem aX8_orders_131 : At cX8_orders 131 (.goto 4) 3 134 := ⟨by decide +kernel, rfl⟩
theorem aX8_orders_134 : At cX8_orders 134 (.iconst 0) 1 135 := ⟨by decide +kernel, rfl⟩
theorem aX8_orders_135 : At cX8_orders 135 (.istore_n 3) 1 136 := ⟨by decide +kernel, rfl⟩
theorem aX8_orders_136 : At cX8_orders 136 (.iinc 4 1) 3 139 := ⟨by decide +kernel, rfl⟩
theorem aX8_orders_139 : At cX8_orders 139 (.goto (-57)) 3 142 := ⟨by decide +kernel, rfl⟩
theorem aX8_orders_142 : At cX8_orders 142 (.iload_n 3) 1 143 := ⟨by decide +kernel, rfl⟩
theorem aX8_orders_143 : At cX8_orders 143 (.ifCond .eq 22) 3 146 := ⟨by decide +kernel, rfl⟩
theorem aX8_orders_146 : At cX8_orders 146 (.aload_n 0) 1 147 := ⟨by decide +kernel, rfl⟩
theorem aX8_orders_147 : At cX8_orders 147 (.getfield 48) 3 150 := ⟨by decide +kernel, rfl⟩
theorem aX8_orders_150 : At cX8_orders 150 (.iload_n 1) 1 151 := ⟨by decide +kernel, rfl⟩
theorem aX8_orders_151 : At cX8_orders 151 (.iconst 1) 1 152 := ⟨by decide +kernel, rfl⟩
theorem aX8_orders_152 : At cX8_orders 152 (.iload_n 2) 1 153 := ⟨by decide +kernel, rfl⟩
theorem aX8_orders_153 : At cX8_orders 153 .ishl 1 154 := ⟨by decide +kernel, rfl⟩
theorem aX8_orders_154 : At cX8_orders 154 .ior 1 155 := ⟨by decide +kernel, rfl⟩
theorem aX8_orders_155 : At cX8_orders 155 .dup2 1 156 := ⟨by decide +kernel, rfl⟩
theorem aX8_orders_156 : At cX8_orders 156 .iaload 1 157 := ⟨by decide +kernel, rfl⟩
theorem aX8_orders_157 : At cX8_orders 157 (.aload_n 0) 1 158 := ⟨by decide +kernel, rfl⟩
theorem aX8_orders_158 : At cX8_orders 158 (.getfield 48) 3 161 := ⟨by decide +kernel, rfl⟩
theorem aX8_orders_161 : At cX8_orders 161 (.iload_n 1) 1 162 := ⟨by decide +kernel, rfl⟩
theorem aX8_orders_162 : At cX8_orders 162 .iaload 1 163 := ⟨by decide +kernel, rfl⟩
theorem aX8_orders_163 : At cX8_orders 163 .iadd 1 164 := ⟨by decide +kernel, rfl⟩
theorem aX8_orders_164 : At cX8_orders 164 .iastore 1 165 := ⟨by decide +kernel, rfl⟩
theorem aX8_orders_165 : At cX8_orders 165 (.iinc 2 1) 3 168 := ⟨by decide +kernel, rfl⟩
theorem aX8_orders_168 : At cX8_orders 168 (.goto (-111)) 3 171 := ⟨by decide +kernel, rfl⟩
theorem aX8_orders_171 : At cX8_orders 171 (.iinc 1 1) 3 174 := ⟨by decide +kernel, rfl⟩
theorem aX8_orders_174 : At cX8_orders 174 (.goto (-129)) 3 177 := ⟨by decide +kernel, rfl⟩
theorem aX8_orders_177 : At cX8_orders 177 (.aload_n 0) 1 178 := ⟨by decide +kernel, rfl⟩
theorem aX8_orders_178 : At cX8_orders 178 (.getfield 48) 3 181 := ⟨by decide +kernel, rfl⟩
theorem aX8_orders_181 : At cX8_orders 181 (.iconst 1) 1 182 := ⟨by decide +kernel, rfl⟩
theorem aX8_orders_182 : At cX8_orders 182 (.aload_n 0) 1 183 := ⟨by decide +kernel, rfl⟩
theorem aX8_orders_183 : At cX8_orders 183 (.getfield 118) 3 186 := ⟨by decide +kernel, rfl⟩
theorem aX8_orders_186 : At cX8_orders 186 .ishl 1 187 := ⟨by decide +kernel, rfl⟩
theorem aX8_orders_187 : At cX8_orders 187 (.iconst 1) 1 188 := ⟨by decide +kernel, rfl⟩
theorem aX8_orders_188 : At cX8_orders 188 .isub 1 189 := ⟨by decide +kernel, rfl⟩
theorem aX8_orders_189 : At cX8_orders 189 .iaload 1 190 := ⟨by decide +kernel, rfl⟩
theorem aX8_orders_190 : At cX8_orders 190 .ireturn 1 191 := ⟨by decide +kernel, rfl⟩
theorem aX8_pays_0 : At cX8_pays 0 (.iload_n 1) 1 1 := ⟨by decide +kernel, rfl⟩
theorem aX8_pays_1 : At cX8_pays 1 (.iconst (-1)) 1 2 := ⟨by decide +kernel, rfl⟩
theorem aX8_pays_2 : At cX8_pays 2 (.if_icmp .eq 13) 3 5 := ⟨by decide +kernel, rfl⟩
theorem aX8_pays_5 : At cX8_pays 5 (.aload_n 0) 1 6 := ⟨by decide +kernel, rfl⟩
theorem aX8_pays_6 : At cX8_pays 6 (.iload_n 1) 1 7 := ⟨by decide +kernel, rfl⟩
theorem aX8_pays_7 : At cX8_pays 7 (.invokevirtual 89) 3 10 := ⟨by decide +kernel, rfl⟩
theorem aX8_pays_10 : At cX8_pays 10 (.ifCond .ne 5) 3 13 := ⟨by decide +kernel, rfl⟩
theorem aX8_pays_13 : At cX8_pays 13 (.iconst (-1)) 1 14 := ⟨by decide +kernel, rfl⟩
theorem aX8_pays_14 : At cX8_pays 14 .ireturn 1 15 := ⟨by decide +kernel, rfl⟩
theorem aX8_pays_15 : At cX8_pays 15 (.iload_n 2) 1 16 := ⟨by decide +kernel, rfl⟩
theorem aX8_pays_16 : At cX8_pays 16 (.iconst 0) 1 17 := ⟨by decide +kernel, rfl⟩
theorem aX8_pays_17 : At cX8_pays 17 (.iconst 1) 1 18 := ⟨by decide +kernel, rfl⟩
theorem aX8_pays_18 : At cX8_pays 18 (.invokestatic 79) 3 21 := ⟨by decide +kernel, rfl⟩
theorem aX8_pays_21 : At cX8_pays 21 (.ifCond .ne 6) 3 24 := ⟨by decide +kernel, rfl⟩
theorem aX8_pays_24 : At cX8_pays 24 (.bipush (-2)) 2 26 := ⟨by decide +kernel, rfl⟩
theorem aX8_pays_26 : At cX8_pays 26 .ireturn 1 27 := ⟨by decide +kernel, rfl⟩
theorem aX8_pays_27 : At cX8_pays 27 (.aload_n 0) 1 28 := ⟨by decide +kernel, rfl⟩
theorem aX8_pays_28 : At cX8_pays 28 (.invokevirtual 111) 3 31 := ⟨by decide +kernel, rfl⟩
theorem aX8_pays_31 : At cX8_pays 31 (.ifCond .ne 6) 3 34 := ⟨by decide +kernel, rfl⟩
theorem aX8_pays_34 : At cX8_pays 34 (.bipush (-3)) 2 36 := ⟨by decide +kernel, rfl⟩
theorem aX8_pays_36 : At cX8_pays 36 .ireturn 1 37 := ⟨by decide +kernel, rfl⟩
theorem aX8_pays_37 : At cX8_pays 37 (.aload_n 0) 1 38 := ⟨by decide +kernel, rfl⟩
theorem aX8_pays_38 : At cX8_pays 38 (.invokevirtual 121) 3 41 := ⟨by decide +kernel, rfl⟩
theorem aX8_pays_41 : At cX8_pays 41 (.iconst 0) 1 42 := ⟨by decide +kernel, rfl⟩
theorem aX8_pays_42 : At cX8_pays 42 (.istore_n 3) 1 43 := ⟨by decide +kernel, rfl⟩
theorem aX8_pays_43 : At cX8_pays 43 (.iconst 0) 1 44 := ⟨by decide +kernel, rfl⟩
theorem aX8_pays_44 : At cX8_pays 44 (.istore 4) 2 46 := ⟨by decide +kernel, rfl⟩
theorem aX8_pays_46 : At cX8_pays 46 (.iload 4) 2 48 := ⟨by decide +kernel, rfl⟩
theorem aX8_pays_48 : At cX8_pays 48 (.aload_n 0) 1 49 := ⟨by decide +kernel, rfl⟩
theorem aX8_pays_49 : At cX8_pays 49 (.getfield 7) 3 52 := ⟨by decide +kernel, rfl⟩
theorem aX8_pays_52 : At cX8_pays 52 (.if_icmp .ge 34) 3 55 := ⟨by decide +kernel, rfl⟩
theorem aX8_pays_55 : At cX8_pays 55 (.iload_n 3) 1 56 := ⟨by decide +kernel, rfl⟩
theorem aX8_pays_56 : At cX8_pays 56 (.iload_n 1) 1 57 := ⟨by decide +kernel, rfl⟩
theorem aX8_pays_57 : At cX8_pays 57 (.iconst (-1)) 1 58 := ⟨by decide +kernel, rfl⟩
theorem aX8_pays_58 : At cX8_pays 58 (.if_icmp .eq 9) 3 61 := ⟨by decide +kernel, rfl⟩
theorem aX8_pays_61 : At cX8_pays 61 (.iload_n 1) 1 62 := ⟨by decide +kernel, rfl⟩
theorem aX8_pays_62 : At cX8_pays 62 (.iload 4) 2 64 := ⟨by decide +kernel, rfl⟩
theorem aX8_pays_64 : At cX8_pays 64 (.if_icmp .ne 13) 3 67 := ⟨by decide +kernel, rfl⟩
theorem aX8_pays_67 : At cX8_pays 67 (.aload_n 0) 1 68 := ⟨by decide +kernel, rfl⟩
theorem aX8_pays_68 : At cX8_pays 68 (.iload 4) 2 70 := ⟨by decide +kernel, rfl⟩
theorem aX8_pays_70 : At cX8_pays 70 (.iload_n 2) 1 71 := ⟨by decide +kernel, rfl⟩
theorem aX8_pays_71 : At cX8_pays 71 (.invokevirtual 131) 3 74 := ⟨by decide +kernel, rfl⟩
theorem aX8_pays_74 : At cX8_pays 74 (.goto 4) 3 77 := ⟨by decide +kernel, rfl⟩
theorem aX8_pays_77 : At cX8_pays 77 (.iconst 0) 1 78 := ⟨by decide +kernel, rfl⟩
theorem aX8_pays_78 : At cX8_pays 78 .iadd 1 79 := ⟨by decide +kernel, rfl⟩
theorem aX8_pays_79 : At cX8_pays 79 (.istore_n 3) 1 80 := ⟨by decide +kernel, rfl⟩
theorem aX8_pays_80 : At cX8_pays 80 (.iinc 4 1) 3 83 := ⟨by decide +kernel, rfl⟩
theorem aX8_pays_83 : At cX8_pays 83 (.goto (-37)) 3 86 := ⟨by decide +kernel, rfl⟩
theorem aX8_pays_86 : At cX8_pays 86 (.iload_n 3) 1 87 := ⟨by decide +kernel, rfl⟩
theorem aX8_pays_87 : At cX8_pays 87 .ireturn 1 88 := ⟨by decide +kernel, rfl⟩
theorem aX8_paysOf_0 : At cX8_paysOf 0 (.aload_n 0) 1 1 := ⟨by decide +kernel, rfl⟩
theorem aX8_paysOf_1 : At cX8_paysOf 1 (.getfield 23) 3 4 := ⟨by decide +kernel, rfl⟩
theorem aX8_paysOf_4 : At cX8_paysOf 4 (.aload_n 0) 1 5 := ⟨by decide +kernel, rfl⟩
theorem aX8_paysOf_5 : At cX8_paysOf 5 (.iload_n 1) 1 6 := ⟨by decide +kernel, rfl⟩
theorem aX8_paysOf_6 : At cX8_paysOf 6 (.iconst 0) 1 7 := ⟨by decide +kernel, rfl⟩
theorem aX8_paysOf_7 : At cX8_paysOf 7 (.invokevirtual 127) 3 10 := ⟨by decide +kernel, rfl⟩
theorem aX8_paysOf_10 : At cX8_paysOf 10 .iaload 1 11 := ⟨by decide +kernel, rfl⟩
theorem aX8_paysOf_11 : At cX8_paysOf 11 (.istore_n 3) 1 12 := ⟨by decide +kernel, rfl⟩
theorem aX8_paysOf_12 : At cX8_paysOf 12 (.aload_n 0) 1 13 := ⟨by decide +kernel, rfl⟩
theorem aX8_paysOf_13 : At cX8_paysOf 13 (.iload_n 1) 1 14 := ⟨by decide +kernel, rfl⟩
theorem aX8_paysOf_14 : At cX8_paysOf 14 (.iconst 0) 1 15 := ⟨by decide +kernel, rfl⟩
theorem aX8_paysOf_15 : At cX8_paysOf 15 (.invokevirtual 127) 3 18 := ⟨by decide +kernel, rfl⟩
theorem aX8_paysOf_18 : At cX8_paysOf 18 (.istore 4) 2 20 := ⟨by decide +kernel, rfl⟩
theorem aX8_paysOf_20 : At cX8_paysOf 20 (.iload 4) 2 22 := ⟨by decide +kernel, rfl⟩
theorem aX8_paysOf_22 : At cX8_paysOf 22 (.aload_n 0) 1 23 := ⟨by decide +kernel, rfl⟩
theorem aX8_paysOf_23 : At cX8_paysOf 23 (.iload_n 1) 1 24 := ⟨by decide +kernel, rfl⟩
theorem aX8_paysOf_24 : At cX8_paysOf 24 (.iconst 1) 1 25 := ⟨by decide +kernel, rfl⟩
theorem aX8_paysOf_25 : At cX8_paysOf 25 (.invokevirtual 127) 3 28 := ⟨by decide +kernel, rfl⟩
theorem aX8_paysOf_28 : At cX8_paysOf 28 (.if_icmp .gt 67) 3 31 := ⟨by decide +kernel, rfl⟩
theorem aX8_paysOf_31 : At cX8_paysOf 31 (.iload_n 2) 1 32 := ⟨by decide +kernel, rfl⟩
theorem aX8_paysOf_32 : At cX8_paysOf 32 (.ifCond .ne 22) 3 35 := ⟨by decide +kernel, rfl⟩
theorem aX8_paysOf_35 : At cX8_paysOf 35 (.aload_n 0) 1 36 := ⟨by decide +kernel, rfl⟩
theorem aX8_paysOf_36 : At cX8_paysOf 36 (.getfield 23) 3 39 := ⟨by decide +kernel, rfl⟩
theorem aX8_paysOf_39 : At cX8_paysOf 39 (.iload 4) 2 41 := ⟨by decide +kernel, rfl⟩
theorem aX8_paysOf_41 : At cX8_paysOf 41 .iaload 1 42 := ⟨by decide +kernel, rfl⟩
theorem aX8_paysOf_42 : At cX8_paysOf 42 (.iload_n 3) 1 43 := ⟨by decide +kernel, rfl⟩
theorem aX8_paysOf_43 : At cX8_paysOf 43 (.if_icmp .ge 7) 3 46 := ⟨by decide +kernel, rfl⟩
theorem aX8_paysOf_46 : At cX8_paysOf 46 (.iconst 1) 1 47 := ⟨by decide +kernel, rfl⟩
theorem aX8_paysOf_47 : At cX8_paysOf 47 (.goto 23) 3 50 := ⟨by decide +kernel, rfl⟩
theorem aX8_paysOf_50 : At cX8_paysOf 50 (.iconst 0) 1 51 := ⟨by decide +kernel, rfl⟩
theorem aX8_paysOf_51 : At cX8_paysOf 51 (.goto 19) 3 54 := ⟨by decide +kernel, rfl⟩
theorem aX8_paysOf_54 : At cX8_paysOf 54 (.aload_n 0) 1 55 := ⟨by decide +kernel, rfl⟩
theorem aX8_paysOf_55 : At cX8_paysOf 55 (.getfield 23) 3 58 := ⟨by decide +kernel, rfl⟩
theorem aX8_paysOf_58 : At cX8_paysOf 58 (.iload 4) 2 60 := ⟨by decide +kernel, rfl⟩
theorem aX8_paysOf_60 : At cX8_paysOf 60 .iaload 1 61 := ⟨by decide +kernel, rfl⟩
theorem aX8_paysOf_61 : At cX8_paysOf 61 (.iload_n 3) 1 62 := ⟨by decide +kernel, rfl⟩
theorem aX8_paysOf_62 : At cX8_paysOf 62 (.if_icmp .le 7) 3 65 := ⟨by decide +kernel, rfl⟩
theorem aX8_paysOf_65 : At cX8_paysOf 65 (.iconst 1) 1 66 := ⟨by decide +kernel, rfl⟩
theorem aX8_paysOf_66 : At cX8_paysOf 66 (.goto 4) 3 69 := ⟨by decide +kernel, rfl⟩
theorem aX8_paysOf_69 : At cX8_paysOf 69 (.iconst 0) 1 70 := ⟨by decide +kernel, rfl⟩
theorem aX8_paysOf_70 : At cX8_paysOf 70 (.istore 5) 2 72 := ⟨by decide +kernel, rfl⟩
theorem aX8_paysOf_72 : At cX8_paysOf 72 (.iload 5) 2 74 := ⟨by decide +kernel, rfl⟩
theorem aX8_paysOf_74 : At cX8_paysOf 74 (.ifCond .eq 13) 3 77 := ⟨by decide +kernel, rfl⟩
theorem aX8_paysOf_77 : At cX8_paysOf 77 (.aload_n 0) 1 78 := ⟨by decide +kernel, rfl⟩
theorem aX8_paysOf_78 : At cX8_paysOf 78 (.getfield 23) 3 81 := ⟨by decide +kernel, rfl⟩
theorem aX8_paysOf_81 : At cX8_paysOf 81 (.iload 4) 2 83 := ⟨by decide +kernel, rfl⟩
theorem aX8_paysOf_83 : At cX8_paysOf 83 .iaload 1 84 := ⟨by decide +kernel, rfl⟩
theorem aX8_paysOf_84 : At cX8_paysOf 84 (.goto 4) 3 87 := ⟨by decide +kernel, rfl⟩
theorem aX8_paysOf_87 : At cX8_paysOf 87 (.iload_n 3) 1 88 := ⟨by decide +kernel, rfl⟩
theorem aX8_paysOf_88 : At cX8_paysOf 88 (.istore_n 3) 1 89 := ⟨by decide +kernel, rfl⟩
theorem aX8_paysOf_89 : At cX8_paysOf 89 (.iinc 4 1) 3 92 := ⟨by decide +kernel, rfl⟩
theorem aX8_paysOf_92 : At cX8_paysOf 92 (.goto (-72)) 3 95 := ⟨by decide +kernel, rfl⟩
theorem aX8_paysOf_95 : At cX8_paysOf 95 (.iload_n 3) 1 96 := ⟨by decide +kernel, rfl⟩
theorem aX8_paysOf_96 : At cX8_paysOf 96 .ireturn 1 97 := ⟨by decide +kernel, rfl⟩
theorem aX8_press_0 : At cX8_press 0 (.iconst 0) 1 1 := ⟨by decide +kernel, rfl⟩
theorem aX8_press_1 : At cX8_press 1 (.istore 4) 2 3 := ⟨by decide +kernel, rfl⟩
theorem aX8_press_3 : At cX8_press 3 (.aload_n 0) 1 4 := ⟨by decide +kernel, rfl⟩
theorem aX8_press_4 : At cX8_press 4 (.getfield 64) 3 7 := ⟨by decide +kernel, rfl⟩
theorem aX8_press_7 : At cX8_press 7 (.iload_n 1) 1 8 := ⟨by decide +kernel, rfl⟩
theorem aX8_press_8 : At cX8_press 8 .iaload 1 9 := ⟨by decide +kernel, rfl⟩
theorem aX8_press_9 : At cX8_press 9 (.aload_n 0) 1 10 := ⟨by decide +kernel, rfl⟩
theorem aX8_press_10 : At cX8_press 10 (.getfield 64) 3 13 := ⟨by decide +kernel, rfl⟩
theorem aX8_press_13 : At cX8_press 13 (.iload_n 2) 1 14 := ⟨by decide +kernel, rfl⟩
theorem aX8_press_14 : At cX8_press 14 .iaload 1 15 := ⟨by decide +kernel, rfl⟩
theorem aX8_press_15 : At cX8_press 15 (.iload_n 3) 1 16 := ⟨by decide +kernel, rfl⟩
theorem aX8_press_16 : At cX8_press 16 .isub 1 17 := ⟨by decide +kernel, rfl⟩
theorem aX8_press_17 : At cX8_press 17 (.if_icmp .ge 20) 3 20 := ⟨by decide +kernel, rfl⟩
theorem aX8_press_20 : At cX8_press 20 (.aload_n 0) 1 21 := ⟨by decide +kernel, rfl⟩
theorem aX8_press_21 : At cX8_press 21 (.getfield 64) 3 24 := ⟨by decide +kernel, rfl⟩
theorem aX8_press_24 : At cX8_press 24 (.iload_n 1) 1 25 := ⟨by decide +kernel, rfl⟩
theorem aX8_press_25 : At cX8_press 25 (.aload_n 0) 1 26 := ⟨by decide +kernel, rfl⟩
theorem aX8_press_26 : At cX8_press 26 (.getfield 64) 3 29 := ⟨by decide +kernel, rfl⟩
theorem aX8_press_29 : At cX8_press 29 (.iload_n 2) 1 30 := ⟨by decide +kernel, rfl⟩
theorem aX8_press_30 : At cX8_press 30 .iaload 1 31 := ⟨by decide +kernel, rfl⟩
theorem aX8_press_31 : At cX8_press 31 (.iload_n 3) 1 32 := ⟨by decide +kernel, rfl⟩
theorem aX8_press_32 : At cX8_press 32 .isub 1 33 := ⟨by decide +kernel, rfl⟩
theorem aX8_press_33 : At cX8_press 33 .iastore 1 34 := ⟨by decide +kernel, rfl⟩
theorem aX8_press_34 : At cX8_press 34 (.iconst 1) 1 35 := ⟨by decide +kernel, rfl⟩
theorem aX8_press_35 : At cX8_press 35 (.istore 4) 2 37 := ⟨by decide +kernel, rfl⟩
theorem aX8_press_37 : At cX8_press 37 (.aload_n 0) 1 38 := ⟨by decide +kernel, rfl⟩
theorem aX8_press_38 : At cX8_press 38 (.getfield 67) 3 41 := ⟨by decide +kernel, rfl⟩
theorem aX8_press_41 : At cX8_press 41 (.iload_n 2) 1 42 := ⟨by decide +kernel, rfl⟩
theorem aX8_press_42 : At cX8_press 42 .iaload 1 43 := ⟨by decide +kernel, rfl⟩
theorem aX8_press_43 : At cX8_press 43 (.aload_n 0) 1 44 := ⟨by decide +kernel, rfl⟩
theorem aX8_press_44 : At cX8_press 44 (.getfield 67) 3 47 := ⟨by decide +kernel, rfl⟩
theorem aX8_press_47 : At cX8_press 47 (.iload_n 1) 1 48 := ⟨by decide +kernel, rfl⟩
theorem aX8_press_48 : At cX8_press 48 .iaload 1 49 := ⟨by decide +kernel, rfl⟩
theorem aX8_press_49 : At cX8_press 49 (.iload_n 3) 1 50 := ⟨by decide +kernel, rfl⟩
theorem aX8_press_50 : At cX8_press 50 .iadd 1 51 := ⟨by decide +kernel, rfl⟩
theorem aX8_press_51 : At cX8_press 51 (.if_icmp .le 20) 3 54 := ⟨by decide +kernel, rfl⟩
theorem aX8_press_54 : At cX8_press 54 (.aload_n 0) 1 55 := ⟨by decide +kernel, rfl⟩
theorem aX8_press_55 : At cX8_press 55 (.getfield 67) 3 58 := ⟨by decide +kernel, rfl⟩
theorem aX8_press_58 : At cX8_press 58 (.iload_n 2) 1 59 := ⟨by decide +kernel, rfl⟩
theorem aX8_press_59 : At cX8_press 59 (.aload_n 0) 1 60 := ⟨by decide +kernel, rfl⟩
theorem aX8_press_60 : At cX8_press 60 (.getfield 67) 3 63 := ⟨by decide +kernel, rfl⟩
theorem aX8_press_63 : At cX8_press 63 (.iload_n 1) 1 64 := ⟨by decide +kernel, rfl⟩
theorem aX8_press_64 : At cX8_press 64 .iaload 1 65 := ⟨by decide +kernel, rfl⟩
theorem aX8_press_65 : At cX8_press 65 (.iload_n 3) 1 66 := ⟨by decide +kernel, rfl⟩
theorem aX8_press_66 : At cX8_press 66 .iadd 1 67 := ⟨by decide +kernel, rfl⟩
theorem aX8_press_67 : At cX8_press 67 .iastore 1 68 := ⟨by decide +kernel, rfl⟩
theorem aX8_press_68 : At cX8_press 68 (.iconst 1) 1 69 := ⟨by decide +kernel, rfl⟩
theorem aX8_press_69 : At cX8_press 69 (.istore 4) 2 71 := ⟨by decide +kernel, rfl⟩
theorem aX8_press_71 : At cX8_press 71 (.iload 4) 2 73 := ⟨by decide +kernel, rfl⟩
theorem aX8_press_73 : At cX8_press 73 .ireturn 1 74 := ⟨by decide +kernel, rfl⟩
theorem aX8_put_0 : At cX8_put 0 (.iload_n 3) 1 1 := ⟨by decide +kernel, rfl⟩
theorem aX8_put_1 : At cX8_put 1 (.ifCond .ne 30) 3 4 := ⟨by decide +kernel, rfl⟩
theorem aX8_put_4 : At cX8_put 4 (.aload_n 0) 1 5 := ⟨by decide +kernel, rfl⟩
theorem aX8_put_5 : At cX8_put 5 (.getfield 39) 3 8 := ⟨by decide +kernel, rfl⟩
theorem aX8_put_8 : At cX8_put 8 (.bipush 6) 2 10 := ⟨by decide +kernel, rfl⟩
theorem aX8_put_10 : At cX8_put 10 (.iload_n 1) 1 11 := ⟨by decide +kernel, rfl⟩
theorem aX8_put_11 : At cX8_put 11 .imul 1 12 := ⟨by decide +kernel, rfl⟩
theorem aX8_put_12 : At cX8_put 12 (.iload_n 2) 1 13 := ⟨by decide +kernel, rfl⟩
theorem aX8_put_13 : At cX8_put 13 .iadd 1 14 := ⟨by decide +kernel, rfl⟩
theorem aX8_put_14 : At cX8_put 14 (.iconst 1) 1 15 := ⟨by decide +kernel, rfl⟩
theorem aX8_put_15 : At cX8_put 15 .bastore 1 16 := ⟨by decide +kernel, rfl⟩
theorem aX8_put_16 : At cX8_put 16 (.aload_n 0) 1 17 := ⟨by decide +kernel, rfl⟩
theorem aX8_put_17 : At cX8_put 17 (.getfield 39) 3 20 := ⟨by decide +kernel, rfl⟩
theorem aX8_put_20 : At cX8_put 20 (.bipush 6) 2 22 := ⟨by decide +kernel, rfl⟩
theorem aX8_put_22 : At cX8_put 22 (.iload_n 2) 1 23 := ⟨by decide +kernel, rfl⟩
theorem aX8_put_23 : At cX8_put 23 .imul 1 24 := ⟨by decide +kernel, rfl⟩
theorem aX8_put_24 : At cX8_put 24 (.iload_n 1) 1 25 := ⟨by decide +kernel, rfl⟩
theorem aX8_put_25 : At cX8_put 25 .iadd 1 26 := ⟨by decide +kernel, rfl⟩
theorem aX8_put_26 : At cX8_put 26 (.iconst 1) 1 27 := ⟨by decide +kernel, rfl⟩
theorem aX8_put_27 : At cX8_put 27 .bastore 1 28 := ⟨by decide +kernel, rfl⟩
theorem aX8_put_28 : At cX8_put 28 (.goto 35) 3 31 := ⟨by decide +kernel, rfl⟩
theorem aX8_put_31 : At cX8_put 31 (.iload_n 3) 1 32 := ⟨by decide +kernel, rfl⟩
theorem aX8_put_32 : At cX8_put 32 (.iconst 1) 1 33 := ⟨by decide +kernel, rfl⟩
theorem aX8_put_33 : At cX8_put 33 (.if_icmp .ne 18) 3 36 := ⟨by decide +kernel, rfl⟩
theorem aX8_put_36 : At cX8_put 36 (.aload_n 0) 1 37 := ⟨by decide +kernel, rfl⟩
theorem aX8_put_37 : At cX8_put 37 (.getfield 35) 3 40 := ⟨by decide +kernel, rfl⟩
theorem aX8_put_40 : At cX8_put 40 (.bipush 6) 2 42 := ⟨by decide +kernel, rfl⟩
theorem aX8_put_42 : At cX8_put 42 (.iload_n 1) 1 43 := ⟨by decide +kernel, rfl⟩
theorem aX8_put_43 : At cX8_put 43 .imul 1 44 := ⟨by decide +kernel, rfl⟩
theorem aX8_put_44 : At cX8_put 44 (.iload_n 2) 1 45 := ⟨by decide +kernel, rfl⟩
theorem aX8_put_45 : At cX8_put 45 .iadd 1 46 := ⟨by decide +kernel, rfl⟩
theorem aX8_put_46 : At cX8_put 46 (.iconst 1) 1 47 := ⟨by decide +kernel, rfl⟩
theorem aX8_put_47 : At cX8_put 47 .bastore 1 48 := ⟨by decide +kernel, rfl⟩
theorem aX8_put_48 : At cX8_put 48 (.goto 15) 3 51 := ⟨by decide +kernel, rfl⟩
theorem aX8_put_51 : At cX8_put 51 (.aload_n 0) 1 52 := ⟨by decide +kernel, rfl⟩
theorem aX8_put_52 : At cX8_put 52 (.getfield 35) 3 55 := ⟨by decide +kernel, rfl⟩
theorem aX8_put_55 : At cX8_put 55 (.bipush 6) 2 57 := ⟨by decide +kernel, rfl⟩
theorem aX8_put_57 : At cX8_put 57 (.iload_n 2) 1 58 := ⟨by decide +kernel, rfl⟩
theorem aX8_put_58 : At cX8_put 58 .imul 1 59 := ⟨by decide +kernel, rfl⟩
theorem aX8_put_59 : At cX8_put 59 (.iload_n 1) 1 60 := ⟨by decide +kernel, rfl⟩
theorem aX8_put_60 : At cX8_put 60 .iadd 1 61 := ⟨by decide +kernel, rfl⟩
theorem aX8_put_61 : At cX8_put 61 (.iconst 1) 1 62 := ⟨by decide +kernel, rfl⟩
theorem aX8_put_62 : At cX8_put 62 .bastore 1 63 := ⟨by decide +kernel, rfl⟩
theorem aX8_put_63 : At cX8_put 63 .return_ 1 64 := ⟨by decide +kernel, rfl⟩
theorem aX8_rank_0 : At cX8_rank 0 (.aload_n 0) 1 1 := ⟨by decide +kernel, rfl⟩
theorem aX8_rank_1 : At cX8_rank 1 (.iload_n 1) 1 2 := ⟨by decide +kernel, rfl⟩
theorem aX8_rank_2 : At cX8_rank 2 (.invokevirtual 89) 3 5 := ⟨by decide +kernel, rfl⟩
theorem aX8_rank_5 : At cX8_rank 5 (.ifCond .ne 5) 3 8 := ⟨by decide +kernel, rfl⟩
theorem aX8_rank_8 : At cX8_rank 8 (.iconst (-1)) 1 9 := ⟨by decide +kernel, rfl⟩
theorem aX8_rank_9 : At cX8_rank 9 .ireturn 1 10 := ⟨by decide +kernel, rfl⟩
theorem aX8_rank_10 : At cX8_rank 10 (.iload_n 2) 1 11 := ⟨by decide +kernel, rfl⟩
theorem aX8_rank_11 : At cX8_rank 11 (.iconst 0) 1 12 := ⟨by decide +kernel, rfl⟩
theorem aX8_rank_12 : At cX8_rank 12 (.iconst 1) 1 13 := ⟨by decide +kernel, rfl⟩
theorem aX8_rank_13 : At cX8_rank 13 (.invokestatic 79) 3 16 := ⟨by decide +kernel, rfl⟩
theorem aX8_rank_16 : At cX8_rank 16 (.ifCond .ne 6) 3 19 := ⟨by decide +kernel, rfl⟩
theorem aX8_rank_19 : At cX8_rank 19 (.bipush (-2)) 2 21 := ⟨by decide +kernel, rfl⟩
theorem aX8_rank_21 : At cX8_rank 21 .ireturn 1 22 := ⟨by decide +kernel, rfl⟩
theorem aX8_rank_22 : At cX8_rank 22 (.aload_n 0) 1 23 := ⟨by decide +kernel, rfl⟩
theorem aX8_rank_23 : At cX8_rank 23 (.invokevirtual 111) 3 26 := ⟨by decide +kernel, rfl⟩
theorem aX8_rank_26 : At cX8_rank 26 (.ifCond .ne 6) 3 29 := ⟨by decide +kernel, rfl⟩
theorem aX8_rank_29 : At cX8_rank 29 (.bipush (-3)) 2 31 := ⟨by decide +kernel, rfl⟩
theorem aX8_rank_31 : At cX8_rank 31 .ireturn 1 32 := ⟨by decide +kernel, rfl⟩
theorem aX8_rank_32 : At cX8_rank 32 (.aload_n 0) 1 33 := ⟨by decide +kernel, rfl⟩
theorem aX8_rank_33 : At cX8_rank 33 (.invokevirtual 121) 3 36 := ⟨by decide +kernel, rfl⟩
theorem aX8_rank_36 : At cX8_rank 36 (.aload_n 0) 1 37 := ⟨by decide +kernel, rfl⟩
theorem aX8_rank_37 : At cX8_rank 37 (.iload_n 1) 1 38 := ⟨by decide +kernel, rfl⟩
theorem aX8_rank_38 : At cX8_rank 38 (.iload_n 2) 1 39 := ⟨by decide +kernel, rfl⟩
theorem aX8_rank_39 : At cX8_rank 39 (.invokevirtual 127) 3 42 := ⟨by decide +kernel, rfl⟩
theorem aX8_rank_42 : At cX8_rank 42 .ireturn 1 43 := ⟨by decide +kernel, rfl⟩
theorem aX8_rankOf_0 : At cX8_rankOf 0 (.iconst 0) 1 1 := ⟨by decide +kernel, rfl⟩
theorem aX8_rankOf_1 : At cX8_rankOf 1 (.istore_n 3) 1 2 := ⟨by decide +kernel, rfl⟩
theorem aX8_rankOf_2 : At cX8_rankOf 2 (.iconst 0) 1 3 := ⟨by decide +kernel, rfl⟩
theorem aX8_rankOf_3 : At cX8_rankOf 3 (.istore 4) 2 5 := ⟨by decide +kernel, rfl⟩
theorem aX8_rankOf_5 : At cX8_rankOf 5 (.iconst 0) 1 6 := ⟨by decide +kernel, rfl⟩
theorem aX8_rankOf_6 : At cX8_rankOf 6 (.istore 5) 2 8 := ⟨by decide +kernel, rfl⟩
theorem aX8_rankOf_8 : At cX8_rankOf 8 (.iload 5) 2 10 := ⟨by decide +kernel, rfl⟩
theorem aX8_rankOf_10 : At cX8_rankOf 10 (.aload_n 0) 1 11 := ⟨by decide +kernel, rfl⟩
theorem aX8_rankOf_11 : At cX8_rankOf 11 (.getfield 118) 3 14 := ⟨by decide +kernel, rfl⟩
theorem aX8_rankOf_14 : At cX8_rankOf 14 (.if_icmp .ge 67) 3 17 := ⟨by decide +kernel, rfl⟩
theorem aX8_rankOf_17 : At cX8_rankOf 17 (.iload_n 3) 1 18 := ⟨by decide +kernel, rfl⟩
theorem aX8_rankOf_18 : At cX8_rankOf 18 (.aload_n 0) 1 19 := ⟨by decide +kernel, rfl⟩
theorem aX8_rankOf_19 : At cX8_rankOf 19 (.getfield 35) 3 22 := ⟨by decide +kernel, rfl⟩
theorem aX8_rankOf_22 : At cX8_rankOf 22 (.bipush 6) 2 24 := ⟨by decide +kernel, rfl⟩
theorem aX8_rankOf_24 : At cX8_rankOf 24 (.aload_n 0) 1 25 := ⟨by decide +kernel, rfl⟩
theorem aX8_rankOf_25 : At cX8_rankOf 25 (.getfield 42) 3 28 := ⟨by decide +kernel, rfl⟩
theorem aX8_rankOf_28 : At cX8_rankOf 28 (.iload 5) 2 30 := ⟨by decide +kernel, rfl⟩
theorem aX8_rankOf_30 : At cX8_rankOf 30 .iaload 1 31 := ⟨by decide +kernel, rfl⟩
theorem aX8_rankOf_31 : At cX8_rankOf 31 .imul 1 32 := ⟨by decide +kernel, rfl⟩
theorem aX8_rankOf_32 : At cX8_rankOf 32 (.iload_n 1) 1 33 := ⟨by decide +kernel, rfl⟩
theorem aX8_rankOf_33 : At cX8_rankOf 33 .iadd 1 34 := ⟨by decide +kernel, rfl⟩
theorem aX8_rankOf_34 : At cX8_rankOf 34 .baload 1 35 := ⟨by decide +kernel, rfl⟩
theorem aX8_rankOf_35 : At cX8_rankOf 35 (.ifCond .eq 7) 3 38 := ⟨by decide +kernel, rfl⟩
theorem aX8_rankOf_38 : At cX8_rankOf 38 (.iconst 1) 1 39 := ⟨by decide +kernel, rfl⟩
theorem aX8_rankOf_39 : At cX8_rankOf 39 (.goto 4) 3 42 := ⟨by decide +kernel, rfl⟩
theorem aX8_rankOf_42 : At cX8_rankOf 42 (.iconst 0) 1 43 := ⟨by decide +kernel, rfl⟩
theorem aX8_rankOf_43 : At cX8_rankOf 43 .iadd 1 44 := ⟨by decide +kernel, rfl⟩
theorem aX8_rankOf_44 : At cX8_rankOf 44 (.istore_n 3) 1 45 := ⟨by decide +kernel, rfl⟩
theorem aX8_rankOf_45 : At cX8_rankOf 45 (.iload 4) 2 47 := ⟨by decide +kernel, rfl⟩
theorem aX8_rankOf_47 : At cX8_rankOf 47 (.aload_n 0) 1 48 := ⟨by decide +kernel, rfl⟩
theorem aX8_rankOf_48 : At cX8_rankOf 48 (.getfield 35) 3 51 := ⟨by decide +kernel, rfl⟩
theorem aX8_rankOf_51 : At cX8_rankOf 51 (.bipush 6) 2 53 := ⟨by decide +kernel, rfl⟩
theorem aX8_rankOf_53 : At cX8_rankOf 53 (.iload_n 1) 1 54 := ⟨by decide +kernel, rfl⟩
theorem aX8_rankOf_54 : At cX8_rankOf 54 .imul 1 55 := ⟨by decide +kernel, rfl⟩
theorem aX8_rankOf_55 : At cX8_rankOf 55 (.aload_n 0) 1 56 := ⟨by decide +kernel, rfl⟩
theorem aX8_rankOf_56 : At cX8_rankOf 56 (.getfield 42) 3 59 := ⟨by decide +kernel, rfl⟩
theorem aX8_rankOf_59 : At cX8_rankOf 59 (.iload 5) 2 61 := ⟨by decide +kernel, rfl⟩
theorem aX8_rankOf_61 : At cX8_rankOf 61 .iaload 1 62 := ⟨by decide +kernel, rfl⟩
theorem aX8_rankOf_62 : At cX8_rankOf 62 .iadd 1 63 := ⟨by decide +kernel, rfl⟩
theorem aX8_rankOf_63 : At cX8_rankOf 63 .baload 1 64 := ⟨by decide +kernel, rfl⟩
theorem aX8_rankOf_64 : At cX8_rankOf 64 (.ifCond .eq 7) 3 67 := ⟨by decide +kernel, rfl⟩
theorem aX8_rankOf_67 : At cX8_rankOf 67 (.iconst 1) 1 68 := ⟨by decide +kernel, rfl⟩
theorem aX8_rankOf_68 : At cX8_rankOf 68 (.goto 4) 3 71 := ⟨by decide +kernel, rfl⟩
theorem aX8_rankOf_71 : At cX8_rankOf 71 (.iconst 0) 1 72 := ⟨by decide +kernel, rfl⟩
theorem aX8_rankOf_72 : At cX8_rankOf 72 .iadd 1 73 := ⟨by decide +kernel, rfl⟩
theorem aX8_rankOf_73 : At cX8_rankOf 73 (.istore 4) 2 75 := ⟨by decide +kernel, rfl⟩
theorem aX8_rankOf_75 : At cX8_rankOf 75 (.iinc 5 1) 3 78 := ⟨by decide +kernel, rfl⟩
theorem aX8_rankOf_78 : At cX8_rankOf 78 (.goto (-70)) 3 81 := ⟨by decide +kernel, rfl⟩
theorem aX8_rankOf_81 : At cX8_rankOf 81 (.iload_n 2) 1 82 := ⟨by decide +kernel, rfl⟩
theorem aX8_rankOf_82 : At cX8_rankOf 82 (.ifCond .ne 7) 3 85 := ⟨by decide +kernel, rfl⟩
theorem aX8_rankOf_85 : At cX8_rankOf 85 (.iload_n 3) 1 86 := ⟨by decide +kernel, rfl⟩
theorem aX8_rankOf_86 : At cX8_rankOf 86 (.goto 12) 3 89 := ⟨by decide +kernel, rfl⟩
theorem aX8_rankOf_89 : At cX8_rankOf 89 (.aload_n 0) 1 90 := ⟨by decide +kernel, rfl⟩
theorem aX8_rankOf_90 : At cX8_rankOf 90 (.getfield 118) 3 93 := ⟨by decide +kernel, rfl⟩
theorem aX8_rankOf_93 : At cX8_rankOf 93 (.iconst 1) 1 94 := ⟨by decide +kernel, rfl⟩
theorem aX8_rankOf_94 : At cX8_rankOf 94 .isub 1 95 := ⟨by decide +kernel, rfl⟩
theorem aX8_rankOf_95 : At cX8_rankOf 95 (.iload 4) 2 97 := ⟨by decide +kernel, rfl⟩
theorem aX8_rankOf_97 : At cX8_rankOf 97 .isub 1 98 := ⟨by decide +kernel, rfl⟩
theorem aX8_rankOf_98 : At cX8_rankOf 98 .ireturn 1 99 := ⟨by decide +kernel, rfl⟩
theorem aX8_restore_0 : At cX8_restore 0 (.iload_n 1) 1 1 := ⟨by decide +kernel, rfl⟩
theorem aX8_restore_1 : At cX8_restore 1 (.iconst 0) 1 2 := ⟨by decide +kernel, rfl⟩
theorem aX8_restore_2 : At cX8_restore 2 (.iconst 1) 1 3 := ⟨by decide +kernel, rfl⟩
theorem aX8_restore_3 : At cX8_restore 3 (.invokestatic 79) 3 6 := ⟨by decide +kernel, rfl⟩
theorem aX8_restore_6 : At cX8_restore 6 (.ifCond .ne 6) 3 9 := ⟨by decide +kernel, rfl⟩
theorem aX8_restore_9 : At cX8_restore 9 (.bipush (-2)) 2 11 := ⟨by decide +kernel, rfl⟩
theorem aX8_restore_11 : At cX8_restore 11 .ireturn 1 12 := ⟨by decide +kernel, rfl⟩
theorem aX8_restore_12 : At cX8_restore 12 (.aload_n 0) 1 13 := ⟨by decide +kernel, rfl⟩
theorem aX8_restore_13 : At cX8_restore 13 (.getfield 76) 3 16 := ⟨by decide +kernel, rfl⟩
theorem aX8_restore_16 : At cX8_restore 16 (.iload_n 1) 1 17 := ⟨by decide +kernel, rfl⟩
theorem aX8_restore_17 : At cX8_restore 17 .baload 1 18 := ⟨by decide +kernel, rfl⟩
theorem aX8_restore_18 : At cX8_restore 18 (.ifCond .ne 6) 3 21 := ⟨by decide +kernel, rfl⟩
theorem aX8_restore_21 : At cX8_restore 21 (.bipush (-3)) 2 23 := ⟨by decide +kernel, rfl⟩
theorem aX8_restore_23 : At cX8_restore 23 .ireturn 1 24 := ⟨by decide +kernel, rfl⟩
theorem aX8_restore_24 : At cX8_restore 24 (.bipush 93) 2 26 := ⟨by decide +kernel, rfl⟩
theorem aX8_restore_26 : At cX8_restore 26 (.iload_n 1) 1 27 := ⟨by decide +kernel, rfl⟩
theorem aX8_restore_27 : At cX8_restore 27 .imul 1 28 := ⟨by decide +kernel, rfl⟩
theorem aX8_restore_28 : At cX8_restore 28 (.istore_n 2) 1 29 := ⟨by decide +kernel, rfl⟩
theorem aX8_restore_29 : At cX8_restore 29 (.iconst 0) 1 30 := ⟨by decide +kernel, rfl⟩
theorem aX8_restore_30 : At cX8_restore 30 (.istore_n 3) 1 31 := ⟨by decide +kernel, rfl⟩
theorem aX8_restore_31 : At cX8_restore 31 (.iload_n 3) 1 32 := ⟨by decide +kernel, rfl⟩
theorem aX8_restore_32 : At cX8_restore 32 (.bipush 60) 2 34 := ⟨by decide +kernel, rfl⟩
theorem aX8_restore_34 : At cX8_restore 34 (.if_icmp .ge 23) 3 37 := ⟨by decide +kernel, rfl⟩
theorem aX8_restore_37 : At cX8_restore 37 (.aload_n 0) 1 38 := ⟨by decide +kernel, rfl⟩
theorem aX8_restore_38 : At cX8_restore 38 (.getfield 17) 3 41 := ⟨by decide +kernel, rfl⟩
theorem aX8_restore_41 : At cX8_restore 41 (.iload_n 3) 1 42 := ⟨by decide +kernel, rfl⟩
theorem aX8_restore_42 : At cX8_restore 42 (.aload_n 0) 1 43 := ⟨by decide +kernel, rfl⟩
theorem aX8_restore_43 : At cX8_restore 43 (.getfield 73) 3 46 := ⟨by decide +kernel, rfl⟩
theorem aX8_restore_46 : At cX8_restore 46 (.iload_n 2) 1 47 := ⟨by decide +kernel, rfl⟩
theorem aX8_restore_47 : At cX8_restore 47 (.iload_n 3) 1 48 := ⟨by decide +kernel, rfl⟩
theorem aX8_restore_48 : At cX8_restore 48 .iadd 1 49 := ⟨by decide +kernel, rfl⟩
theorem aX8_restore_49 : At cX8_restore 49 .iaload 1 50 := ⟨by decide +kernel, rfl⟩
theorem aX8_restore_50 : At cX8_restore 50 .iastore 1 51 := ⟨by decide +kernel, rfl⟩
theorem aX8_restore_51 : At cX8_restore 51 (.iinc 3 1) 3 54 := ⟨by decide +kernel, rfl⟩
theorem aX8_restore_54 : At cX8_restore 54 (.goto (-23)) 3 57 := ⟨by decide +kernel, rfl⟩
theorem aX8_restore_57 : At cX8_restore 57 (.iconst 0) 1 58 := ⟨by decide +kernel, rfl⟩
theorem aX8_restore_58 : At cX8_restore 58 (.istore_n 3) 1 59 := ⟨by decide +kernel, rfl⟩
theorem aX8_restore_59 : At cX8_restore 59 (.iload_n 3) 1 60 := ⟨by decide +kernel, rfl⟩
theorem aX8_restore_60 : At cX8_restore 60 (.bipush 6) 2 62 := ⟨by decide +kernel, rfl⟩
theorem aX8_restore_62 : At cX8_restore 62 (.if_icmp .ge 94) 3 65 := ⟨by decide +kernel, rfl⟩
theorem aX8_restore_65 : At cX8_restore 65 (.aload_n 0) 1 66 := ⟨by decide +kernel, rfl⟩
theorem aX8_restore_66 : At cX8_restore 66 (.getfield 20) 3 69 := ⟨by decide +kernel, rfl⟩
theorem aX8_restore_69 : At cX8_restore 69 (.iload_n 3) 1 70 := ⟨by decide +kernel, rfl⟩
theorem aX8_restore_70 : At cX8_restore 70 (.aload_n 0) 1 71 := ⟨by decide +kernel, rfl⟩
theorem aX8_restore_71 : At cX8_restore 71 (.getfield 73) 3 74 := ⟨by decide +kernel, rfl⟩
theorem aX8_restore_74 : At cX8_restore 74 (.iload_n 2) 1 75 := ⟨by decide +kernel, rfl⟩
theorem aX8_restore_75 : At cX8_restore 75 (.bipush 60) 2 77 := ⟨by decide +kernel, rfl⟩
theorem aX8_restore_77 : At cX8_restore 77 .iadd 1 78 := ⟨by decide +kernel, rfl⟩
theorem aX8_restore_78 : At cX8_restore 78 (.iload_n 3) 1 79 := ⟨by decide +kernel, rfl⟩
theorem aX8_restore_79 : At cX8_restore 79 .iadd 1 80 := ⟨by decide +kernel, rfl⟩
theorem aX8_restore_80 : At cX8_restore 80 .iaload 1 81 := ⟨by decide +kernel, rfl⟩
theorem aX8_restore_81 : At cX8_restore 81 .iastore 1 82 := ⟨by decide +kernel, rfl⟩
theorem aX8_restore_82 : At cX8_restore 82 (.aload_n 0) 1 83 := ⟨by decide +kernel, rfl⟩
theorem aX8_restore_83 : At cX8_restore 83 (.getfield 23) 3 86 := ⟨by decide +kernel, rfl⟩
theorem aX8_restore_86 : At cX8_restore 86 (.iload_n 3) 1 87 := ⟨by decide +kernel, rfl⟩
theorem aX8_restore_87 : At cX8_restore 87 (.aload_n 0) 1 88 := ⟨by decide +kernel, rfl⟩
theorem aX8_restore_88 : At cX8_restore 88 (.getfield 73) 3 91 := ⟨by decide +kernel, rfl⟩
theorem aX8_restore_91 : At cX8_restore 91 (.iload_n 2) 1 92 := ⟨by decide +kernel, rfl⟩
theorem aX8_restore_92 : At cX8_restore 92 (.bipush 66) 2 94 := ⟨by decide +kernel, rfl⟩
theorem aX8_restore_94 : At cX8_restore 94 .iadd 1 95 := ⟨by decide +kernel, rfl⟩
theorem aX8_restore_95 : At cX8_restore 95 (.iload_n 3) 1 96 := ⟨by decide +kernel, rfl⟩
theorem aX8_restore_96 : At cX8_restore 96 .iadd 1 97 := ⟨by decide +kernel, rfl⟩
theorem aX8_restore_97 : At cX8_restore 97 .iaload 1 98 := ⟨by decide +kernel, rfl⟩
theorem aX8_restore_98 : At cX8_restore 98 .iastore 1 99 := ⟨by decide +kernel, rfl⟩
theorem aX8_restore_99 : At cX8_restore 99 (.aload_n 0) 1 100 := ⟨by decide +kernel, rfl⟩
theorem aX8_restore_100 : At cX8_restore 100 (.getfield 26) 3 103 := ⟨by decide +kernel, rfl⟩
theorem aX8_restore_103 : At cX8_restore 103 (.iload_n 3) 1 104 := ⟨by decide +kernel, rfl⟩
theorem aX8_restore_104 : At cX8_restore 104 (.aload_n 0) 1 105 := ⟨by decide +kernel, rfl⟩
theorem aX8_restore_105 : At cX8_restore 105 (.getfield 73) 3 108 := ⟨by decide +kernel, rfl⟩
theorem aX8_restore_108 : At cX8_restore 108 (.iload_n 2) 1 109 := ⟨by decide +kernel, rfl⟩
theorem aX8_restore_109 : At cX8_restore 109 (.bipush 72) 2 111 := ⟨by decide +kernel, rfl⟩
theorem aX8_restore_111 : At cX8_restore 111 .iadd 1 112 := ⟨by decide +kernel, rfl⟩
theorem aX8_restore_112 : At cX8_restore 112 (.iload_n 3) 1 113 := ⟨by decide +kernel, rfl⟩
theorem aX8_restore_113 : At cX8_restore 113 .iadd 1 114 := ⟨by decide +kernel, rfl⟩
theorem aX8_restore_114 : At cX8_restore 114 .iaload 1 115 := ⟨by decide +kernel, rfl⟩
theorem aX8_restore_115 : At cX8_restore 115 .iastore 1 116 := ⟨by decide +kernel, rfl⟩
theorem aX8_restore_116 : At cX8_restore 116 (.aload_n 0) 1 117 := ⟨by decide +kernel, rfl⟩
theorem aX8_restore_117 : At cX8_restore 117 (.getfield 29) 3 120 := ⟨by decide +kernel, rfl⟩
theorem aX8_restore_120 : At cX8_restore 120 (.iload_n 3) 1 121 := ⟨by decide +kernel, rfl⟩
theorem aX8_restore_121 : At cX8_restore 121 (.aload_n 0) 1 122 := ⟨by decide +kernel, rfl⟩
theorem aX8_restore_122 : At cX8_restore 122 (.getfield 73) 3 125 := ⟨by decide +kernel, rfl⟩
theorem aX8_restore_125 : At cX8_restore 125 (.iload_n 2) 1 126 := ⟨by decide +kernel, rfl⟩
theorem aX8_restore_126 : At cX8_restore 126 (.bipush 78) 2 128 := ⟨by decide +kernel, rfl⟩
theorem aX8_restore_128 : At cX8_restore 128 .iadd 1 129 := ⟨by decide +kernel, rfl⟩
theorem aX8_restore_129 : At cX8_restore 129 (.iload_n 3) 1 130 := ⟨by decide +kernel, rfl⟩
theorem aX8_restore_130 : At cX8_restore 130 .iadd 1 131 := ⟨by decide +kernel, rfl⟩
theorem aX8_restore_131 : At cX8_restore 131 .iaload 1 132 := ⟨by decide +kernel, rfl⟩
theorem aX8_restore_132 : At cX8_restore 132 .iastore 1 133 := ⟨by decide +kernel, rfl⟩
theorem aX8_restore_133 : At cX8_restore 133 (.aload_n 0) 1 134 := ⟨by decide +kernel, rfl⟩
theorem aX8_restore_134 : At cX8_restore 134 (.getfield 32) 3 137 := ⟨by decide +kernel, rfl⟩
theorem aX8_restore_137 : At cX8_restore 137 (.iload_n 3) 1 138 := ⟨by decide +kernel, rfl⟩
theorem aX8_restore_138 : At cX8_restore 138 (.aload_n 0) 1 139 := ⟨by decide +kernel, rfl⟩
theorem aX8_restore_139 : At cX8_restore 139 (.getfield 73) 3 142 := ⟨by decide +kernel, rfl⟩
theorem aX8_restore_142 : At cX8_restore 142 (.iload_n 2) 1 143 := ⟨by decide +kernel, rfl⟩
theorem aX8_restore_143 : At cX8_restore 143 (.bipush 84) 2 145 := ⟨by decide +kernel, rfl⟩
theorem aX8_restore_145 : At cX8_restore 145 .iadd 1 146 := ⟨by decide +kernel, rfl⟩
theorem aX8_restore_146 : At cX8_restore 146 (.iload_n 3) 1 147 := ⟨by decide +kernel, rfl⟩
theorem aX8_restore_147 : At cX8_restore 147 .iadd 1 148 := ⟨by decide +kernel, rfl⟩
theorem aX8_restore_148 : At cX8_restore 148 .iaload 1 149 := ⟨by decide +kernel, rfl⟩
theorem aX8_restore_149 : At cX8_restore 149 .iastore 1 150 := ⟨by decide +kernel, rfl⟩
theorem aX8_restore_150 : At cX8_restore 150 (.iinc 3 1) 3 153 := ⟨by decide +kernel, rfl⟩
theorem aX8_restore_153 : At cX8_restore 153 (.goto (-94)) 3 156 := ⟨by decide +kernel, rfl⟩
theorem aX8_restore_156 : At cX8_restore 156 (.aload_n 0) 1 157 := ⟨by decide +kernel, rfl⟩
theorem aX8_restore_157 : At cX8_restore 157 (.aload_n 0) 1 158 := ⟨by decide +kernel, rfl⟩
theorem aX8_restore_158 : At cX8_restore 158 (.getfield 73) 3 161 := ⟨by decide +kernel, rfl⟩
theorem aX8_restore_161 : At cX8_restore 161 (.iload_n 2) 1 162 := ⟨by decide +kernel, rfl⟩
theorem aX8_restore_162 : At cX8_restore 162 (.bipush 90) 2 164 := ⟨by decide +kernel, rfl⟩
theorem aX8_restore_164 : At cX8_restore 164 .iadd 1 165 := ⟨by decide +kernel, rfl⟩
theorem aX8_restore_165 : At cX8_restore 165 .iaload 1 166 := ⟨by decide +kernel, rfl⟩
theorem aX8_restore_166 : At cX8_restore 166 (.putfield 7) 3 169 := ⟨by decide +kernel, rfl⟩
theorem aX8_restore_169 : At cX8_restore 169 (.aload_n 0) 1 170 := ⟨by decide +kernel, rfl⟩
theorem aX8_restore_170 : At cX8_restore 170 (.aload_n 0) 1 171 := ⟨by decide +kernel, rfl⟩
theorem aX8_restore_171 : At cX8_restore 171 (.getfield 73) 3 174 := ⟨by decide +kernel, rfl⟩
theorem aX8_restore_174 : At cX8_restore 174 (.iload_n 2) 1 175 := ⟨by decide +kernel, rfl⟩
theorem aX8_restore_175 : At cX8_restore 175 (.bipush 91) 2 177 := ⟨by decide +kernel, rfl⟩
theorem aX8_restore_177 : At cX8_restore 177 .iadd 1 178 := ⟨by decide +kernel, rfl⟩
theorem aX8_restore_178 : At cX8_restore 178 .iaload 1 179 := ⟨by decide +kernel, rfl⟩
theorem aX8_restore_179 : At cX8_restore 179 (.putfield 83) 3 182 := ⟨by decide +kernel, rfl⟩
theorem aX8_restore_182 : At cX8_restore 182 (.aload_n 0) 1 183 := ⟨by decide +kernel, rfl⟩
theorem aX8_restore_183 : At cX8_restore 183 (.aload_n 0) 1 184 := ⟨by decide +kernel, rfl⟩
theorem aX8_restore_184 : At cX8_restore 184 (.getfield 73) 3 187 := ⟨by decide +kernel, rfl⟩
theorem aX8_restore_187 : At cX8_restore 187 (.iload_n 2) 1 188 := ⟨by decide +kernel, rfl⟩
theorem aX8_restore_188 : At cX8_restore 188 (.bipush 92) 2 190 := ⟨by decide +kernel, rfl⟩
theorem aX8_restore_190 : At cX8_restore 190 .iadd 1 191 := ⟨by decide +kernel, rfl⟩
theorem aX8_restore_191 : At cX8_restore 191 .iaload 1 192 := ⟨by decide +kernel, rfl⟩
theorem aX8_restore_192 : At cX8_restore 192 (.putfield 168) 3 195 := ⟨by decide +kernel, rfl⟩
theorem aX8_restore_195 : At cX8_restore 195 (.iconst 1) 1 196 := ⟨by decide +kernel, rfl⟩
theorem aX8_restore_196 : At cX8_restore 196 .ireturn 1 197 := ⟨by decide +kernel, rfl⟩
theorem aX8_sacks_0 : At cX8_sacks 0 (.iload_n 1) 1 1 := ⟨by decide +kernel, rfl⟩
theorem aX8_sacks_1 : At cX8_sacks 1 (.iconst 2) 1 2 := ⟨by decide +kernel, rfl⟩
theorem aX8_sacks_2 : At cX8_sacks 2 (.bipush 6) 2 4 := ⟨by decide +kernel, rfl⟩
theorem aX8_sacks_4 : At cX8_sacks 4 (.invokestatic 79) 3 7 := ⟨by decide +kernel, rfl⟩
theorem aX8_sacks_7 : At cX8_sacks 7 (.ifCond .ne 6) 3 10 := ⟨by decide +kernel, rfl⟩
theorem aX8_sacks_10 : At cX8_sacks 10 (.bipush (-2)) 2 12 := ⟨by decide +kernel, rfl⟩
theorem aX8_sacks_12 : At cX8_sacks 12 .ireturn 1 13 := ⟨by decide +kernel, rfl⟩
theorem aX8_sacks_13 : At cX8_sacks 13 (.aload_n 0) 1 14 := ⟨by decide +kernel, rfl⟩
theorem aX8_sacks_14 : At cX8_sacks 14 (.getfield 7) 3 17 := ⟨by decide +kernel, rfl⟩
theorem aX8_sacks_17 : At cX8_sacks 17 (.istore_n 2) 1 18 := ⟨by decide +kernel, rfl⟩
theorem aX8_sacks_18 : At cX8_sacks 18 (.aload_n 0) 1 19 := ⟨by decide +kernel, rfl⟩
theorem aX8_sacks_19 : At cX8_sacks 19 (.iload_n 1) 1 20 := ⟨by decide +kernel, rfl⟩
theorem aX8_sacks_20 : At cX8_sacks 20 (.putfield 7) 3 23 := ⟨by decide +kernel, rfl⟩
theorem aX8_sacks_23 : At cX8_sacks 23 (.aload_n 0) 1 24 := ⟨by decide +kernel, rfl⟩
theorem aX8_sacks_24 : At cX8_sacks 24 (.iconst 0) 1 25 := ⟨by decide +kernel, rfl⟩
theorem aX8_sacks_25 : At cX8_sacks 25 (.putfield 83) 3 28 := ⟨by decide +kernel, rfl⟩
theorem aX8_sacks_28 : At cX8_sacks 28 (.iconst 0) 1 29 := ⟨by decide +kernel, rfl⟩
theorem aX8_sacks_29 : At cX8_sacks 29 (.istore_n 3) 1 30 := ⟨by decide +kernel, rfl⟩
theorem aX8_sacks_30 : At cX8_sacks 30 (.iload_n 3) 1 31 := ⟨by decide +kernel, rfl⟩
theorem aX8_sacks_31 : At cX8_sacks 31 (.bipush 6) 2 33 := ⟨by decide +kernel, rfl⟩
theorem aX8_sacks_33 : At cX8_sacks 33 (.if_icmp .ge 32) 3 36 := ⟨by decide +kernel, rfl⟩
theorem aX8_sacks_36 : At cX8_sacks 36 (.aload_n 0) 1 37 := ⟨by decide +kernel, rfl⟩
theorem aX8_sacks_37 : At cX8_sacks 37 (.getfield 20) 3 40 := ⟨by decide +kernel, rfl⟩
theorem aX8_sacks_40 : At cX8_sacks 40 (.iload_n 3) 1 41 := ⟨by decide +kernel, rfl⟩
theorem aX8_sacks_41 : At cX8_sacks 41 (.iconst 0) 1 42 := ⟨by decide +kernel, rfl⟩
theorem aX8_sacks_42 : At cX8_sacks 42 .iastore 1 43 := ⟨by decide +kernel, rfl⟩
theorem aX8_sacks_43 : At cX8_sacks 43 (.aload_n 0) 1 44 := ⟨by decide +kernel, rfl⟩
theorem aX8_sacks_44 : At cX8_sacks 44 (.getfield 26) 3 47 := ⟨by decide +kernel, rfl⟩
theorem aX8_sacks_47 : At cX8_sacks 47 (.iload_n 3) 1 48 := ⟨by decide +kernel, rfl⟩
theorem aX8_sacks_48 : At cX8_sacks 48 (.iconst 0) 1 49 := ⟨by decide +kernel, rfl⟩
theorem aX8_sacks_49 : At cX8_sacks 49 .iastore 1 50 := ⟨by decide +kernel, rfl⟩
theorem aX8_sacks_50 : At cX8_sacks 50 (.aload_n 0) 1 51 := ⟨by decide +kernel, rfl⟩
theorem aX8_sacks_51 : At cX8_sacks 51 (.getfield 29) 3 54 := ⟨by decide +kernel, rfl⟩
theorem aX8_sacks_54 : At cX8_sacks 54 (.iload_n 3) 1 55 := ⟨by decide +kernel, rfl⟩
theorem aX8_sacks_55 : At cX8_sacks 55 (.sipush 999) 3 58 := ⟨by decide +kernel, rfl⟩
theorem aX8_sacks_58 : At cX8_sacks 58 .iastore 1 59 := ⟨by decide +kernel, rfl⟩
theorem aX8_sacks_59 : At cX8_sacks 59 (.iinc 3 1) 3 62 := ⟨by decide +kernel, rfl⟩
theorem aX8_sacks_62 : At cX8_sacks 62 (.goto (-32)) 3 65 := ⟨by decide +kernel, rfl⟩
theorem aX8_sacks_65 : At cX8_sacks 65 (.iload_n 2) 1 66 := ⟨by decide +kernel, rfl⟩
theorem aX8_sacks_66 : At cX8_sacks 66 .ireturn 1 67 := ⟨by decide +kernel, rfl⟩
theorem aX8_say_0 : At cX8_say 0 (.iload_n 1) 1 1 := ⟨by decide +kernel, rfl⟩
theorem aX8_say_1 : At cX8_say 1 (.bipush 33) 2 3 := ⟨by decide +kernel, rfl⟩
theorem aX8_say_3 : At cX8_say 3 (.bipush 126) 2 5 := ⟨by decide +kernel, rfl⟩
theorem aX8_say_5 : At cX8_say 5 (.invokestatic 79) 3 8 := ⟨by decide +kernel, rfl⟩
theorem aX8_say_8 : At cX8_say 8 (.ifCond .ne 6) 3 11 := ⟨by decide +kernel, rfl⟩
theorem aX8_say_11 : At cX8_say 11 (.bipush (-2)) 2 13 := ⟨by decide +kernel, rfl⟩
theorem aX8_say_13 : At cX8_say 13 .ireturn 1 14 := ⟨by decide +kernel, rfl⟩
theorem aX8_say_14 : At cX8_say 14 (.aload_n 0) 1 15 := ⟨by decide +kernel, rfl⟩
theorem aX8_say_15 : At cX8_say 15 (.getfield 86) 3 18 := ⟨by decide +kernel, rfl⟩
theorem aX8_say_18 : At cX8_say 18 (.bipush 40) 2 20 := ⟨by decide +kernel, rfl⟩
theorem aX8_say_20 : At cX8_say 20 (.if_icmp .ne 6) 3 23 := ⟨by decide +kernel, rfl⟩
theorem aX8_say_23 : At cX8_say 23 (.bipush (-4)) 2 25 := ⟨by decide +kernel, rfl⟩
theorem aX8_say_25 : At cX8_say 25 .ireturn 1 26 := ⟨by decide +kernel, rfl⟩
theorem aX8_say_26 : At cX8_say 26 (.aload_n 0) 1 27 := ⟨by decide +kernel, rfl⟩
theorem aX8_say_27 : At cX8_say 27 (.getfield 13) 3 30 := ⟨by decide +kernel, rfl⟩
theorem aX8_say_30 : At cX8_say 30 (.aload_n 0) 1 31 := ⟨by decide +kernel, rfl⟩
theorem aX8_say_31 : At cX8_say 31 (.getfield 86) 3 34 := ⟨by decide +kernel, rfl⟩
theorem aX8_say_34 : At cX8_say 34 (.iload_n 1) 1 35 := ⟨by decide +kernel, rfl⟩
theorem aX8_say_35 : At cX8_say 35 .iastore 1 36 := ⟨by decide +kernel, rfl⟩
theorem aX8_say_36 : At cX8_say 36 (.aload_n 0) 1 37 := ⟨by decide +kernel, rfl⟩
theorem aX8_say_37 : At cX8_say 37 .dup 1 38 := ⟨by decide +kernel, rfl⟩
theorem aX8_say_38 : At cX8_say 38 (.getfield 86) 3 41 := ⟨by decide +kernel, rfl⟩
theorem aX8_say_41 : At cX8_say 41 (.iconst 1) 1 42 := ⟨by decide +kernel, rfl⟩
theorem aX8_say_42 : At cX8_say 42 .iadd 1 43 := ⟨by decide +kernel, rfl⟩
theorem aX8_say_43 : At cX8_say 43 (.putfield 86) 3 46 := ⟨by decide +kernel, rfl⟩
theorem aX8_say_46 : At cX8_say 46 (.aload_n 0) 1 47 := ⟨by decide +kernel, rfl⟩
theorem aX8_say_47 : At cX8_say 47 (.getfield 86) 3 50 := ⟨by decide +kernel, rfl⟩
theorem aX8_say_50 : At cX8_say 50 .ireturn 1 51 := ⟨by decide +kernel, rfl⟩
theorem aX8_saying_0 : At cX8_saying 0 (.iload_n 1) 1 1 := ⟨by decide +kernel, rfl⟩
theorem aX8_saying_1 : At cX8_saying 1 (.iconst 0) 1 2 := ⟨by decide +kernel, rfl⟩
theorem aX8_saying_2 : At cX8_saying 2 (.aload_n 0) 1 3 := ⟨by decide +kernel, rfl⟩
theorem aX8_saying_3 : At cX8_saying 3 (.getfield 83) 3 6 := ⟨by decide +kernel, rfl⟩
theorem aX8_saying_6 : At cX8_saying 6 (.iconst 1) 1 7 := ⟨by decide +kernel, rfl⟩
theorem aX8_saying_7 : At cX8_saying 7 .isub 1 8 := ⟨by decide +kernel, rfl⟩
theorem aX8_saying_8 : At cX8_saying 8 (.invokestatic 79) 3 11 := ⟨by decide +kernel, rfl⟩
theorem aX8_saying_11 : At cX8_saying 11 (.ifCond .ne 5) 3 14 := ⟨by decide +kernel, rfl⟩
theorem aX8_saying_14 : At cX8_saying 14 (.iconst (-1)) 1 15 := ⟨by decide +kernel, rfl⟩
theorem aX8_saying_15 : At cX8_saying 15 .ireturn 1 16 := ⟨by decide +kernel, rfl⟩
theorem aX8_saying_16 : At cX8_saying 16 (.iload_n 2) 1 17 := ⟨by decide +kernel, rfl⟩
theorem aX8_saying_17 : At cX8_saying 17 (.iconst 0) 1 18 := ⟨by decide +kernel, rfl⟩
theorem aX8_saying_18 : At cX8_saying 18 (.iconst 4) 1 19 := ⟨by decide +kernel, rfl⟩
theorem aX8_saying_19 : At cX8_saying 19 (.invokestatic 79) 3 22 := ⟨by decide +kernel, rfl⟩
theorem aX8_saying_22 : At cX8_saying 22 (.ifCond .eq 16) 3 25 := ⟨by decide +kernel, rfl⟩
theorem aX8_saying_25 : At cX8_saying 25 (.aload_n 0) 1 26 := ⟨by decide +kernel, rfl⟩
theorem aX8_saying_26 : At cX8_saying 26 (.getfield 17) 3 29 := ⟨by decide +kernel, rfl⟩
theorem aX8_saying_29 : At cX8_saying 29 (.iconst 5) 1 30 := ⟨by decide +kernel, rfl⟩
theorem aX8_saying_30 : At cX8_saying 30 (.iload_n 1) 1 31 := ⟨by decide +kernel, rfl⟩
theorem aX8_saying_31 : At cX8_saying 31 .imul 1 32 := ⟨by decide +kernel, rfl⟩
theorem aX8_saying_32 : At cX8_saying 32 (.iload_n 2) 1 33 := ⟨by decide +kernel, rfl⟩
theorem aX8_saying_33 : At cX8_saying 33 .iadd 1 34 := ⟨by decide +kernel, rfl⟩
theorem aX8_saying_34 : At cX8_saying 34 .iaload 1 35 := ⟨by decide +kernel, rfl⟩
theorem aX8_saying_35 : At cX8_saying 35 (.goto 5) 3 38 := ⟨by decide +kernel, rfl⟩
theorem aX8_saying_38 : At cX8_saying 38 (.bipush (-2)) 2 40 := ⟨by decide +kernel, rfl⟩
theorem aX8_saying_40 : At cX8_saying 40 .ireturn 1 41 := ⟨by decide +kernel, rfl⟩
theorem aX8_slot_0 : At cX8_slot 0 (.iload_n 0) 1 1 := ⟨by decide +kernel, rfl⟩
theorem aX8_slot_1 : At cX8_slot 1 (.bipush 7) 2 3 := ⟨by decide +kernel, rfl⟩
theorem aX8_slot_3 : At cX8_slot 3 .imul 1 4 := ⟨by decide +kernel, rfl⟩
theorem aX8_slot_4 : At cX8_slot 4 (.iload_n 1) 1 5 := ⟨by decide +kernel, rfl⟩
theorem aX8_slot_5 : At cX8_slot 5 (.bipush 31) 2 7 := ⟨by decide +kernel, rfl⟩
theorem aX8_slot_7 : At cX8_slot 7 .imul 1 8 := ⟨by decide +kernel, rfl⟩
theorem aX8_slot_8 : At cX8_slot 8 .iadd 1 9 := ⟨by decide +kernel, rfl⟩
theorem aX8_slot_9 : At cX8_slot 9 (.iload_n 0) 1 10 := ⟨by decide +kernel, rfl⟩
theorem aX8_slot_10 : At cX8_slot 10 (.sipush 8191) 3 13 := ⟨by decide +kernel, rfl⟩
theorem aX8_slot_13 : At cX8_slot 13 .idiv 1 14 := ⟨by decide +kernel, rfl⟩
theorem aX8_slot_14 : At cX8_slot 14 .iadd 1 15 := ⟨by decide +kernel, rfl⟩
theorem aX8_slot_15 : At cX8_slot 15 (.istore_n 2) 1 16 := ⟨by decide +kernel, rfl⟩
theorem aX8_slot_16 : At cX8_slot 16 (.iload_n 2) 1 17 := ⟨by decide +kernel, rfl⟩
theorem aX8_slot_17 : At cX8_slot 17 (.ldc 134) 2 19 := ⟨by decide +kernel, rfl⟩
theorem aX8_slot_19 : At cX8_slot 19 .imul 1 20 := ⟨by decide +kernel, rfl⟩
theorem aX8_slot_20 : At cX8_slot 20 (.iconst 4) 1 21 := ⟨by decide +kernel, rfl⟩
theorem aX8_slot_21 : At cX8_slot 21 .ishr 1 22 := ⟨by decide +kernel, rfl⟩
theorem aX8_slot_22 : At cX8_slot 22 (.ldc 135) 2 24 := ⟨by decide +kernel, rfl⟩
theorem aX8_slot_24 : At cX8_slot 24 .iand 1 25 := ⟨by decide +kernel, rfl⟩
theorem aX8_slot_25 : At cX8_slot 25 .ireturn 1 26 := ⟨by decide +kernel, rfl⟩
theorem aX8_span_0 : At cX8_span 0 (.aload_n 0) 1 1 := ⟨by decide +kernel, rfl⟩
theorem aX8_span_1 : At cX8_span 1 (.iload_n 1) 1 2 := ⟨by decide +kernel, rfl⟩
theorem aX8_span_2 : At cX8_span 2 (.invokevirtual 89) 3 5 := ⟨by decide +kernel, rfl⟩
theorem aX8_span_5 : At cX8_span 5 (.ifCond .ne 5) 3 8 := ⟨by decide +kernel, rfl⟩
theorem aX8_span_8 : At cX8_span 8 (.iconst (-1)) 1 9 := ⟨by decide +kernel, rfl⟩
theorem aX8_span_9 : At cX8_span 9 .ireturn 1 10 := ⟨by decide +kernel, rfl⟩
theorem aX8_span_10 : At cX8_span 10 (.iload_n 2) 1 11 := ⟨by decide +kernel, rfl⟩
theorem aX8_span_11 : At cX8_span 11 (.iconst 0) 1 12 := ⟨by decide +kernel, rfl⟩
theorem aX8_span_12 : At cX8_span 12 (.iconst 1) 1 13 := ⟨by decide +kernel, rfl⟩
theorem aX8_span_13 : At cX8_span 13 (.invokestatic 79) 3 16 := ⟨by decide +kernel, rfl⟩
theorem aX8_span_16 : At cX8_span 16 (.ifCond .ne 6) 3 19 := ⟨by decide +kernel, rfl⟩
theorem aX8_span_19 : At cX8_span 19 (.bipush (-2)) 2 21 := ⟨by decide +kernel, rfl⟩
theorem aX8_span_21 : At cX8_span 21 .ireturn 1 22 := ⟨by decide +kernel, rfl⟩
theorem aX8_span_22 : At cX8_span 22 (.aload_n 0) 1 23 := ⟨by decide +kernel, rfl⟩
theorem aX8_span_23 : At cX8_span 23 (.invokevirtual 177) 3 26 := ⟨by decide +kernel, rfl⟩
theorem aX8_span_26 : At cX8_span 26 (.ifCond .ne 8) 3 29 := ⟨by decide +kernel, rfl⟩
theorem aX8_span_29 : At cX8_span 29 (.bipush (-6)) 2 31 := ⟨by decide +kernel, rfl⟩
theorem aX8_span_31 : At cX8_span 31 (.goto 22) 3 34 := ⟨by decide +kernel, rfl⟩
theorem aX8_span_34 : At cX8_span 34 (.iload_n 2) 1 35 := ⟨by decide +kernel, rfl⟩
theorem aX8_span_35 : At cX8_span 35 (.ifCond .ne 12) 3 38 := ⟨by decide +kernel, rfl⟩
theorem aX8_span_38 : At cX8_span 38 (.aload_n 0) 1 39 := ⟨by decide +kernel, rfl⟩
theorem aX8_span_39 : At cX8_span 39 (.getfield 64) 3 42 := ⟨by decide +kernel, rfl⟩
theorem aX8_span_42 : At cX8_span 42 (.iload_n 1) 1 43 := ⟨by decide +kernel, rfl⟩
theorem aX8_span_43 : At cX8_span 43 .iaload 1 44 := ⟨by decide +kernel, rfl⟩
theorem aX8_span_44 : At cX8_span 44 (.goto 9) 3 47 := ⟨by decide +kernel, rfl⟩
theorem aX8_span_47 : At cX8_span 47 (.aload_n 0) 1 48 := ⟨by decide +kernel, rfl⟩
theorem aX8_span_48 : At cX8_span 48 (.getfield 67) 3 51 := ⟨by decide +kernel, rfl⟩
theorem aX8_span_51 : At cX8_span 51 (.iload_n 1) 1 52 := ⟨by decide +kernel, rfl⟩
theorem aX8_span_52 : At cX8_span 52 .iaload 1 53 := ⟨by decide +kernel, rfl⟩
theorem aX8_span_53 : At cX8_span 53 .ireturn 1 54 := ⟨by decide +kernel, rfl⟩
theorem aX8_stand_0 : At cX8_stand 0 (.iload_n 1) 1 1 := ⟨by decide +kernel, rfl⟩
theorem aX8_stand_1 : At cX8_stand 1 (.iload_n 2) 1 2 := ⟨by decide +kernel, rfl⟩
theorem aX8_stand_2 : At cX8_stand 2 (.invokestatic 136) 3 5 := ⟨by decide +kernel, rfl⟩
theorem aX8_stand_5 : At cX8_stand 5 (.istore_n 3) 1 6 := ⟨by decide +kernel, rfl⟩
theorem aX8_stand_6 : At cX8_stand 6 (.aload_n 0) 1 7 := ⟨by decide +kernel, rfl⟩
theorem aX8_stand_7 : At cX8_stand 7 (.getfield 61) 3 10 := ⟨by decide +kernel, rfl⟩
theorem aX8_stand_10 : At cX8_stand 10 (.iload_n 3) 1 11 := ⟨by decide +kernel, rfl⟩
theorem aX8_stand_11 : At cX8_stand 11 .iaload 1 12 := ⟨by decide +kernel, rfl⟩
theorem aX8_stand_12 : At cX8_stand 12 (.ifCond .lt 43) 3 15 := ⟨by decide +kernel, rfl⟩
theorem aX8_stand_15 : At cX8_stand 15 (.aload_n 0) 1 16 := ⟨by decide +kernel, rfl⟩
theorem aX8_stand_16 : At cX8_stand 16 (.getfield 51) 3 19 := ⟨by decide +kernel, rfl⟩
theorem aX8_stand_19 : At cX8_stand 19 (.aload_n 0) 1 20 := ⟨by decide +kernel, rfl⟩
theorem aX8_stand_20 : At cX8_stand 20 (.getfield 61) 3 23 := ⟨by decide +kernel, rfl⟩
theorem aX8_stand_23 : At cX8_stand 23 (.iload_n 3) 1 24 := ⟨by decide +kernel, rfl⟩
theorem aX8_stand_24 : At cX8_stand 24 .iaload 1 25 := ⟨by decide +kernel, rfl⟩
theorem aX8_stand_25 : At cX8_stand 25 .iaload 1 26 := ⟨by decide +kernel, rfl⟩
theorem aX8_stand_26 : At cX8_stand 26 (.iload_n 1) 1 27 := ⟨by decide +kernel, rfl⟩
theorem aX8_stand_27 : At cX8_stand 27 (.if_icmp .ne 18) 3 30 := ⟨by decide +kernel, rfl⟩
theorem aX8_stand_30 : At cX8_stand 30 (.aload_n 0) 1 31 := ⟨by decide +kernel, rfl⟩
theorem aX8_stand_31 : At cX8_stand 31 (.getfield 54) 3 34 := ⟨by decide +kernel, rfl⟩
theorem aX8_stand_34 : At cX8_stand 34 (.aload_n 0) 1 35 := ⟨by decide +kernel, rfl⟩
theorem aX8_stand_35 : At cX8_stand 35 (.getfield 61) 3 38 := ⟨by decide +kernel, rfl⟩
theorem aX8_stand_38 : At cX8_stand 38 (.iload_n 3) 1 39 := ⟨by decide +kernel, rfl⟩
theorem aX8_stand_39 : At cX8_stand 39 .iaload 1 40 := ⟨by decide +kernel, rfl⟩
theorem aX8_stand_40 : At cX8_stand 40 .iaload 1 41 := ⟨by decide +kernel, rfl⟩
theorem aX8_stand_41 : At cX8_stand 41 (.iload_n 2) 1 42 := ⟨by decide +kernel, rfl⟩
theorem aX8_stand_42 : At cX8_stand 42 (.if_icmp .eq 13) 3 45 := ⟨by decide +kernel, rfl⟩
theorem aX8_stand_45 : At cX8_stand 45 (.iload_n 3) 1 46 := ⟨by decide +kernel, rfl⟩
theorem aX8_stand_46 : At cX8_stand 46 (.iconst 1) 1 47 := ⟨by decide +kernel, rfl⟩
theorem aX8_stand_47 : At cX8_stand 47 .iadd 1 48 := ⟨by decide +kernel, rfl⟩
theorem aX8_stand_48 : At cX8_stand 48 (.ldc 135) 2 50 := ⟨by decide +kernel, rfl⟩
theorem aX8_stand_50 : At cX8_stand 50 .iand 1 51 := ⟨by decide +kernel, rfl⟩
theorem aX8_stand_51 : At cX8_stand 51 (.istore_n 3) 1 52 := ⟨by decide +kernel, rfl⟩
theorem aX8_stand_52 : At cX8_stand 52 (.goto (-46)) 3 55 := ⟨by decide +kernel, rfl⟩
theorem aX8_stand_55 : At cX8_stand 55 (.aload_n 0) 1 56 := ⟨by decide +kernel, rfl⟩
theorem aX8_stand_56 : At cX8_stand 56 (.getfield 61) 3 59 := ⟨by decide +kernel, rfl⟩
theorem aX8_stand_59 : At cX8_stand 59 (.iload_n 3) 1 60 := ⟨by decide +kernel, rfl⟩
theorem aX8_stand_60 : At cX8_stand 60 .iaload 1 61 := ⟨by decide +kernel, rfl⟩
theorem aX8_stand_61 : At cX8_stand 61 (.ifCond .ge 54) 3 64 := ⟨by decide +kernel, rfl⟩
theorem aX8_stand_64 : At cX8_stand 64 (.aload_n 0) 1 65 := ⟨by decide +kernel, rfl⟩
theorem aX8_stand_65 : At cX8_stand 65 (.getfield 61) 3 68 := ⟨by decide +kernel, rfl⟩
theorem aX8_stand_68 : At cX8_stand 68 (.iload_n 3) 1 69 := ⟨by decide +kernel, rfl⟩
theorem aX8_stand_69 : At cX8_stand 69 (.aload_n 0) 1 70 := ⟨by decide +kernel, rfl⟩
theorem aX8_stand_70 : At cX8_stand 70 (.getfield 139) 3 73 := ⟨by decide +kernel, rfl⟩
theorem aX8_stand_73 : At cX8_stand 73 .iastore 1 74 := ⟨by decide +kernel, rfl⟩
theorem aX8_stand_74 : At cX8_stand 74 (.aload_n 0) 1 75 := ⟨by decide +kernel, rfl⟩
theorem aX8_stand_75 : At cX8_stand 75 (.getfield 51) 3 78 := ⟨by decide +kernel, rfl⟩
theorem aX8_stand_78 : At cX8_stand 78 (.aload_n 0) 1 79 := ⟨by decide +kernel, rfl⟩
theorem aX8_stand_79 : At cX8_stand 79 (.getfield 139) 3 82 := ⟨by decide +kernel, rfl⟩
theorem aX8_stand_82 : At cX8_stand 82 (.iload_n 1) 1 83 := ⟨by decide +kernel, rfl⟩
theorem aX8_stand_83 : At cX8_stand 83 .iastore 1 84 := ⟨by decide +kernel, rfl⟩
theorem aX8_stand_84 : At cX8_stand 84 (.aload_n 0) 1 85 := ⟨by decide +kernel, rfl⟩
theorem aX8_stand_85 : At cX8_stand 85 (.getfield 54) 3 88 := ⟨by decide +kernel, rfl⟩
theorem aX8_stand_88 : At cX8_stand 88 (.aload_n 0) 1 89 := ⟨by decide +kernel, rfl⟩
theorem aX8_stand_89 : At cX8_stand 89 (.getfield 139) 3 92 := ⟨by decide +kernel, rfl⟩
theorem aX8_stand_92 : At cX8_stand 92 (.iload_n 2) 1 93 := ⟨by decide +kernel, rfl⟩
theorem aX8_stand_93 : At cX8_stand 93 .iastore 1 94 := ⟨by decide +kernel, rfl⟩
theorem aX8_stand_94 : At cX8_stand 94 (.aload_n 0) 1 95 := ⟨by decide +kernel, rfl⟩
theorem aX8_stand_95 : At cX8_stand 95 (.getfield 57) 3 98 := ⟨by decide +kernel, rfl⟩
theorem aX8_stand_98 : At cX8_stand 98 (.aload_n 0) 1 99 := ⟨by decide +kernel, rfl⟩
theorem aX8_stand_99 : At cX8_stand 99 (.getfield 139) 3 102 := ⟨by decide +kernel, rfl⟩
theorem aX8_stand_102 : At cX8_stand 102 (.bipush (-6)) 2 104 := ⟨by decide +kernel, rfl⟩
theorem aX8_stand_104 : At cX8_stand 104 .iastore 1 105 := ⟨by decide +kernel, rfl⟩
theorem aX8_stand_105 : At cX8_stand 105 (.aload_n 0) 1 106 := ⟨by decide +kernel, rfl⟩
theorem aX8_stand_106 : At cX8_stand 106 .dup 1 107 := ⟨by decide +kernel, rfl⟩
theorem aX8_stand_107 : At cX8_stand 107 (.getfield 139) 3 110 := ⟨by decide +kernel, rfl⟩
theorem aX8_stand_110 : At cX8_stand 110 (.iconst 1) 1 111 := ⟨by decide +kernel, rfl⟩
theorem aX8_stand_111 : At cX8_stand 111 .iadd 1 112 := ⟨by decide +kernel, rfl⟩
theorem aX8_stand_112 : At cX8_stand 112 (.putfield 139) 3 115 := ⟨by decide +kernel, rfl⟩
theorem aX8_stand_115 : At cX8_stand 115 (.aload_n 0) 1 116 := ⟨by decide +kernel, rfl⟩
theorem aX8_stand_116 : At cX8_stand 116 (.getfield 61) 3 119 := ⟨by decide +kernel, rfl⟩
theorem aX8_stand_119 : At cX8_stand 119 (.iload_n 3) 1 120 := ⟨by decide +kernel, rfl⟩
theorem aX8_stand_120 : At cX8_stand 120 .iaload 1 121 := ⟨by decide +kernel, rfl⟩
theorem aX8_stand_121 : At cX8_stand 121 .ireturn 1 122 := ⟨by decide +kernel, rfl⟩
theorem aX8_strike_0 : At cX8_strike 0 (.aload_n 0) 1 1 := ⟨by decide +kernel, rfl⟩
theorem aX8_strike_1 : At cX8_strike 1 (.getfield 83) 3 4 := ⟨by decide +kernel, rfl⟩
theorem aX8_strike_4 : At cX8_strike 4 (.ifCond .ne 6) 3 7 := ⟨by decide +kernel, rfl⟩
theorem aX8_strike_7 : At cX8_strike 7 (.bipush (-5)) 2 9 := ⟨by decide +kernel, rfl⟩
theorem aX8_strike_9 : At cX8_strike 9 .ireturn 1 10 := ⟨by decide +kernel, rfl⟩
theorem aX8_strike_10 : At cX8_strike 10 (.aload_n 0) 1 11 := ⟨by decide +kernel, rfl⟩
theorem aX8_strike_11 : At cX8_strike 11 .dup 1 12 := ⟨by decide +kernel, rfl⟩
theorem aX8_strike_12 : At cX8_strike 12 (.getfield 83) 3 15 := ⟨by decide +kernel, rfl⟩
theorem aX8_strike_15 : At cX8_strike 15 (.iconst 1) 1 16 := ⟨by decide +kernel, rfl⟩
theorem aX8_strike_16 : At cX8_strike 16 .isub 1 17 := ⟨by decide +kernel, rfl⟩
theorem aX8_strike_17 : At cX8_strike 17 (.putfield 83) 3 20 := ⟨by decide +kernel, rfl⟩
theorem aX8_strike_20 : At cX8_strike 20 (.aload_n 0) 1 21 := ⟨by decide +kernel, rfl⟩
theorem aX8_strike_21 : At cX8_strike 21 (.getfield 83) 3 24 := ⟨by decide +kernel, rfl⟩
theorem aX8_strike_24 : At cX8_strike 24 .ireturn 1 25 := ⟨by decide +kernel, rfl⟩
theorem aX8_told_0 : At cX8_told 0 (.iload_n 1) 1 1 := ⟨by decide +kernel, rfl⟩
theorem aX8_told_1 : At cX8_told 1 (.bipush 10) 2 3 := ⟨by decide +kernel, rfl⟩
theorem aX8_told_3 : At cX8_told 3 (.bipush 15) 2 5 := ⟨by decide +kernel, rfl⟩
theorem aX8_told_5 : At cX8_told 5 (.invokestatic 79) 3 8 := ⟨by decide +kernel, rfl⟩
theorem aX8_told_8 : At cX8_told 8 (.ifCond .eq 13) 3 11 := ⟨by decide +kernel, rfl⟩
theorem aX8_told_11 : At cX8_told 11 (.aload_n 0) 1 12 := ⟨by decide +kernel, rfl⟩
theorem aX8_told_12 : At cX8_told 12 (.getfield 23) 3 15 := ⟨by decide +kernel, rfl⟩
theorem aX8_told_15 : At cX8_told 15 (.iload_n 1) 1 16 := ⟨by decide +kernel, rfl⟩
theorem aX8_told_16 : At cX8_told 16 (.bipush 10) 2 18 := ⟨by decide +kernel, rfl⟩
theorem aX8_told_18 : At cX8_told 18 .isub 1 19 := ⟨by decide +kernel, rfl⟩
theorem aX8_told_19 : At cX8_told 19 .iaload 1 20 := ⟨by decide +kernel, rfl⟩
theorem aX8_told_20 : At cX8_told 20 .ireturn 1 21 := ⟨by decide +kernel, rfl⟩
theorem aX8_told_21 : At cX8_told 21 (.iload_n 1) 1 22 := ⟨by decide +kernel, rfl⟩
theorem aX8_told_22 : At cX8_told 22 (.bipush 10) 2 24 := ⟨by decide +kernel, rfl⟩
theorem aX8_told_24 : At cX8_told 24 .irem 1 25 := ⟨by decide +kernel, rfl⟩
theorem aX8_told_25 : At cX8_told 25 (.istore_n 2) 1 26 := ⟨by decide +kernel, rfl⟩
theorem aX8_told_26 : At cX8_told 26 (.iload_n 1) 1 27 := ⟨by decide +kernel, rfl⟩
theorem aX8_told_27 : At cX8_told 27 (.iconst 0) 1 28 := ⟨by decide +kernel, rfl⟩
theorem aX8_told_28 : At cX8_told 28 (.iconst 3) 1 29 := ⟨by decide +kernel, rfl⟩
theorem aX8_told_29 : At cX8_told 29 (.invokestatic 79) 3 32 := ⟨by decide +kernel, rfl⟩
theorem aX8_told_32 : At cX8_told 32 (.ifCond .ne 14) 3 35 := ⟨by decide +kernel, rfl⟩
theorem aX8_told_35 : At cX8_told 35 (.aload_n 0) 1 36 := ⟨by decide +kernel, rfl⟩
theorem aX8_told_36 : At cX8_told 36 (.iload_n 2) 1 37 := ⟨by decide +kernel, rfl⟩
theorem aX8_told_37 : At cX8_told 37 (.invokevirtual 89) 3 40 := ⟨by decide +kernel, rfl⟩
theorem aX8_told_40 : At cX8_told 40 (.ifCond .ne 6) 3 43 := ⟨by decide +kernel, rfl⟩
theorem aX8_told_43 : At cX8_told 43 (.bipush (-2)) 2 45 := ⟨by decide +kernel, rfl⟩
theorem aX8_told_45 : At cX8_told 45 .ireturn 1 46 := ⟨by decide +kernel, rfl⟩
theorem aX8_told_46 : At cX8_told 46 (.iload_n 1) 1 47 := ⟨by decide +kernel, rfl⟩
theorem aX8_told_47 : At cX8_told 47 (.bipush 10) 2 49 := ⟨by decide +kernel, rfl⟩
theorem aX8_told_49 : At cX8_told 49 .idiv 1 50 := ⟨by decide +kernel, rfl⟩
theorem aX8_told_50 : At cX8_told 50 (.tableswitch 116 0 5 #[38, 116, 88, 95, 102, 109]) 38 88 := ⟨by decide +kernel, rfl⟩
theorem aX8_told_88 : At cX8_told 88 (.iload_n 1) 1 89 := ⟨by decide +kernel, rfl⟩
theorem aX8_told_89 : At cX8_told 89 (.ifCond .ne 10) 3 92 := ⟨by decide +kernel, rfl⟩
theorem aX8_told_92 : At cX8_told 92 (.aload_n 0) 1 93 := ⟨by decide +kernel, rfl⟩
theorem aX8_told_93 : At cX8_told 93 (.getfield 86) 3 96 := ⟨by decide +kernel, rfl⟩
theorem aX8_told_96 : At cX8_told 96 (.goto 41) 3 99 := ⟨by decide +kernel, rfl⟩
theorem aX8_told_99 : At cX8_told 99 (.iload_n 1) 1 100 := ⟨by decide +kernel, rfl⟩
theorem aX8_told_100 : At cX8_told 100 (.iconst 1) 1 101 := ⟨by decide +kernel, rfl⟩
theorem aX8_told_101 : At cX8_told 101 (.if_icmp .ne 10) 3 104 := ⟨by decide +kernel, rfl⟩
theorem aX8_told_104 : At cX8_told 104 (.aload_n 0) 1 105 := ⟨by decide +kernel, rfl⟩
theorem aX8_told_105 : At cX8_told 105 (.getfield 7) 3 108 := ⟨by decide +kernel, rfl⟩
theorem aX8_told_108 : At cX8_told 108 (.goto 29) 3 111 := ⟨by decide +kernel, rfl⟩
theorem aX8_told_111 : At cX8_told 111 (.iload_n 1) 1 112 := ⟨by decide +kernel, rfl⟩
theorem aX8_told_112 : At cX8_told 112 (.iconst 2) 1 113 := ⟨by decide +kernel, rfl⟩
theorem aX8_told_113 : At cX8_told 113 (.if_icmp .ne 10) 3 116 := ⟨by decide +kernel, rfl⟩
theorem aX8_told_116 : At cX8_told 116 (.aload_n 0) 1 117 := ⟨by decide +kernel, rfl⟩
theorem aX8_told_117 : At cX8_told 117 (.getfield 83) 3 120 := ⟨by decide +kernel, rfl⟩
theorem aX8_told_120 : At cX8_told 120 (.goto 17) 3 123 := ⟨by decide +kernel, rfl⟩
theorem aX8_told_123 : At cX8_told 123 (.iload_n 1) 1 124 := ⟨by decide +kernel, rfl⟩
theorem aX8_told_124 : At cX8_told 124 (.iconst 3) 1 125 := ⟨by decide +kernel, rfl⟩
theorem aX8_told_125 : At cX8_told 125 (.if_icmp .ne 10) 3 128 := ⟨by decide +kernel, rfl⟩
theorem aX8_told_128 : At cX8_told 128 (.aload_n 0) 1 129 := ⟨by decide +kernel, rfl⟩
theorem aX8_told_129 : At cX8_told 129 (.getfield 168) 3 132 := ⟨by decide +kernel, rfl⟩
theorem aX8_told_132 : At cX8_told 132 (.goto 5) 3 135 := ⟨by decide +kernel, rfl⟩
theorem aX8_told_135 : At cX8_told 135 (.bipush (-2)) 2 137 := ⟨by decide +kernel, rfl⟩
theorem aX8_told_137 : At cX8_told 137 .ireturn 1 138 := ⟨by decide +kernel, rfl⟩
theorem aX8_told_138 : At cX8_told 138 (.aload_n 0) 1 139 := ⟨by decide +kernel, rfl⟩
theorem aX8_told_139 : At cX8_told 139 (.getfield 32) 3 142 := ⟨by decide +kernel, rfl⟩
theorem aX8_told_142 : At cX8_told 142 (.iload_n 2) 1 143 := ⟨by decide +kernel, rfl⟩
theorem aX8_told_143 : At cX8_told 143 .iaload 1 144 := ⟨by decide +kernel, rfl⟩
theorem aX8_told_144 : At cX8_told 144 .ireturn 1 145 := ⟨by decide +kernel, rfl⟩
theorem aX8_told_145 : At cX8_told 145 (.aload_n 0) 1 146 := ⟨by decide +kernel, rfl⟩
theorem aX8_told_146 : At cX8_told 146 (.getfield 20) 3 149 := ⟨by decide +kernel, rfl⟩
theorem aX8_told_149 : At cX8_told 149 (.iload_n 2) 1 150 := ⟨by decide +kernel, rfl⟩
theorem aX8_told_150 : At cX8_told 150 .iaload 1 151 := ⟨by decide +kernel, rfl⟩
theorem aX8_told_151 : At cX8_told 151 .ireturn 1 152 := ⟨by decide +kernel, rfl⟩
theorem aX8_told_152 : At cX8_told 152 (.aload_n 0) 1 153 := ⟨by decide +kernel, rfl⟩
theorem aX8_told_153 : At cX8_told 153 (.getfield 26) 3 156 := ⟨by decide +kernel, rfl⟩
theorem aX8_told_156 : At cX8_told 156 (.iload_n 2) 1 157 := ⟨by decide +kernel, rfl⟩
theorem aX8_told_157 : At cX8_told 157 .iaload 1 158 := ⟨by decide +kernel, rfl⟩
theorem aX8_told_158 : At cX8_told 158 .ireturn 1 159 := ⟨by decide +kernel, rfl⟩
theorem aX8_told_159 : At cX8_told 159 (.aload_n 0) 1 160 := ⟨by decide +kernel, rfl⟩
theorem aX8_told_160 : At cX8_told 160 (.getfield 29) 3 163 := ⟨by decide +kernel, rfl⟩
theorem aX8_told_163 : At cX8_told 163 (.iload_n 2) 1 164 := ⟨by decide +kernel, rfl⟩
theorem aX8_told_164 : At cX8_told 164 .iaload 1 165 := ⟨by decide +kernel, rfl⟩
theorem aX8_told_165 : At cX8_told 165 .ireturn 1 166 := ⟨by decide +kernel, rfl⟩
theorem aX8_told_166 : At cX8_told 166 (.bipush (-2)) 2 168 := ⟨by decide +kernel, rfl⟩
theorem aX8_told_168 : At cX8_told 168 .ireturn 1 169 := ⟨by decide +kernel, rfl⟩
theorem aX8_toll_0 : At cX8_toll 0 (.iload_n 1) 1 1 := ⟨by decide +kernel, rfl⟩
theorem aX8_toll_1 : At cX8_toll 1 (.iconst 0) 1 2 := ⟨by decide +kernel, rfl⟩
theorem aX8_toll_2 : At cX8_toll 2 (.iconst 5) 1 3 := ⟨by decide +kernel, rfl⟩
theorem aX8_toll_3 : At cX8_toll 3 (.invokestatic 79) 3 6 := ⟨by decide +kernel, rfl⟩
theorem aX8_toll_6 : At cX8_toll 6 (.ifCond .eq 13) 3 9 := ⟨by decide +kernel, rfl⟩
theorem aX8_toll_9 : At cX8_toll 9 (.iload_n 2) 1 10 := ⟨by decide +kernel, rfl⟩
theorem aX8_toll_10 : At cX8_toll 10 (.iconst 0) 1 11 := ⟨by decide +kernel, rfl⟩
theorem aX8_toll_11 : At cX8_toll 11 (.bipush 99) 2 13 := ⟨by decide +kernel, rfl⟩
theorem aX8_toll_13 : At cX8_toll 13 (.invokestatic 79) 3 16 := ⟨by decide +kernel, rfl⟩
theorem aX8_toll_16 : At cX8_toll 16 (.ifCond .ne 6) 3 19 := ⟨by decide +kernel, rfl⟩
theorem aX8_toll_19 : At cX8_toll 19 (.bipush (-2)) 2 21 := ⟨by decide +kernel, rfl⟩
theorem aX8_toll_21 : At cX8_toll 21 .ireturn 1 22 := ⟨by decide +kernel, rfl⟩
theorem aX8_toll_22 : At cX8_toll 22 (.aload_n 0) 1 23 := ⟨by decide +kernel, rfl⟩
theorem aX8_toll_23 : At cX8_toll 23 (.getfield 23) 3 26 := ⟨by decide +kernel, rfl⟩
theorem aX8_toll_26 : At cX8_toll 26 (.iload_n 1) 1 27 := ⟨by decide +kernel, rfl⟩
theorem aX8_toll_27 : At cX8_toll 27 .iaload 1 28 := ⟨by decide +kernel, rfl⟩
theorem aX8_toll_28 : At cX8_toll 28 (.istore_n 3) 1 29 := ⟨by decide +kernel, rfl⟩
theorem aX8_toll_29 : At cX8_toll 29 (.aload_n 0) 1 30 := ⟨by decide +kernel, rfl⟩
theorem aX8_toll_30 : At cX8_toll 30 (.getfield 23) 3 33 := ⟨by decide +kernel, rfl⟩
theorem aX8_toll_33 : At cX8_toll 33 (.iload_n 1) 1 34 := ⟨by decide +kernel, rfl⟩
theorem aX8_toll_34 : At cX8_toll 34 (.iload_n 2) 1 35 := ⟨by decide +kernel, rfl⟩
theorem aX8_toll_35 : At cX8_toll 35 .iastore 1 36 := ⟨by decide +kernel, rfl⟩
theorem aX8_toll_36 : At cX8_toll 36 (.iload_n 3) 1 37 := ⟨by decide +kernel, rfl⟩
theorem aX8_toll_37 : At cX8_toll 37 .ireturn 1 38 := ⟨by decide +kernel, rfl⟩
theorem aX8_weight_0 : At cX8_weight 0 (.aload_n 0) 1 1 := ⟨by decide +kernel, rfl⟩
theorem aX8_weight_1 : At cX8_weight 1 (.iload_n 1) 1 2 := ⟨by decide +kernel, rfl⟩
theorem aX8_weight_2 : At cX8_weight 2 (.invokevirtual 89) 3 5 := ⟨by decide +kernel, rfl⟩
theorem aX8_weight_5 : At cX8_weight 5 (.ifCond .ne 5) 3 8 := ⟨by decide +kernel, rfl⟩
theorem aX8_weight_8 : At cX8_weight 8 (.iconst (-1)) 1 9 := ⟨by decide +kernel, rfl⟩
theorem aX8_weight_9 : At cX8_weight 9 .ireturn 1 10 := ⟨by decide +kernel, rfl⟩
theorem aX8_weight_10 : At cX8_weight 10 (.iload_n 2) 1 11 := ⟨by decide +kernel, rfl⟩
theorem aX8_weight_11 : At cX8_weight 11 (.iconst 0) 1 12 := ⟨by decide +kernel, rfl⟩
theorem aX8_weight_12 : At cX8_weight 12 (.bipush 99) 2 14 := ⟨by decide +kernel, rfl⟩
theorem aX8_weight_14 : At cX8_weight 14 (.invokestatic 79) 3 17 := ⟨by decide +kernel, rfl⟩
theorem aX8_weight_17 : At cX8_weight 17 (.ifCond .ne 6) 3 20 := ⟨by decide +kernel, rfl⟩
theorem aX8_weight_20 : At cX8_weight 20 (.bipush (-2)) 2 22 := ⟨by decide +kernel, rfl⟩
theorem aX8_weight_22 : At cX8_weight 22 .ireturn 1 23 := ⟨by decide +kernel, rfl⟩
theorem aX8_weight_23 : At cX8_weight 23 (.aload_n 0) 1 24 := ⟨by decide +kernel, rfl⟩
theorem aX8_weight_24 : At cX8_weight 24 (.getfield 32) 3 27 := ⟨by decide +kernel, rfl⟩
theorem aX8_weight_27 : At cX8_weight 27 (.iload_n 1) 1 28 := ⟨by decide +kernel, rfl⟩
theorem aX8_weight_28 : At cX8_weight 28 .iaload 1 29 := ⟨by decide +kernel, rfl⟩
theorem aX8_weight_29 : At cX8_weight 29 (.istore_n 3) 1 30 := ⟨by decide +kernel, rfl⟩
theorem aX8_weight_30 : At cX8_weight 30 (.aload_n 0) 1 31 := ⟨by decide +kernel, rfl⟩
theorem aX8_weight_31 : At cX8_weight 31 (.getfield 32) 3 34 := ⟨by decide +kernel, rfl⟩
theorem aX8_weight_34 : At cX8_weight 34 (.iload_n 1) 1 35 := ⟨by decide +kernel, rfl⟩
theorem aX8_weight_35 : At cX8_weight 35 (.iload_n 2) 1 36 := ⟨by decide +kernel, rfl⟩
theorem aX8_weight_36 : At cX8_weight 36 .iastore 1 37 := ⟨by decide +kernel, rfl⟩
theorem aX8_weight_37 : At cX8_weight 37 (.iload_n 3) 1 38 := ⟨by decide +kernel, rfl⟩
theorem aX8_weight_38 : At cX8_weight 38 .ireturn 1 39 := ⟨by decide +kernel, rfl⟩
theorem aX8_wipe_0 : At cX8_wipe 0 (.aload_n 0) 1 1 := ⟨by decide +kernel, rfl⟩
theorem aX8_wipe_1 : At cX8_wipe 1 (.getfield 86) 3 4 := ⟨by decide +kernel, rfl⟩
theorem aX8_wipe_4 : At cX8_wipe 4 (.istore_n 1) 1 5 := ⟨by decide +kernel, rfl⟩
theorem aX8_wipe_5 : At cX8_wipe 5 (.aload_n 0) 1 6 := ⟨by decide +kernel, rfl⟩
theorem aX8_wipe_6 : At cX8_wipe 6 (.iconst 0) 1 7 := ⟨by decide +kernel, rfl⟩
theorem aX8_wipe_7 : At cX8_wipe 7 (.putfield 86) 3 10 := ⟨by decide +kernel, rfl⟩
theorem aX8_wipe_10 : At cX8_wipe 10 (.iload_n 1) 1 11 := ⟨by decide +kernel, rfl⟩
theorem aX8_wipe_11 : At cX8_wipe 11 .ireturn 1 12 := ⟨by decide +kernel, rfl⟩
theorem aX8_with_0 : At cX8_with 0 (.iload_n 1) 1 1 := ⟨by decide +kernel, rfl⟩
theorem aX8_with_1 : At cX8_with 1 (.istore 4) 2 3 := ⟨by decide +kernel, rfl⟩
theorem aX8_with_3 : At cX8_with 3 (.iconst 0) 1 4 := ⟨by decide +kernel, rfl⟩
theorem aX8_with_4 : At cX8_with 4 (.istore 5) 2 6 := ⟨by decide +kernel, rfl⟩
theorem aX8_with_6 : At cX8_with 6 (.iload 5) 2 8 := ⟨by decide +kernel, rfl⟩
theorem aX8_with_8 : At cX8_with 8 (.aload_n 0) 1 9 := ⟨by decide +kernel, rfl⟩
theorem aX8_with_9 : At cX8_with 9 (.getfield 118) 3 12 := ⟨by decide +kernel, rfl⟩
theorem aX8_with_12 : At cX8_with 12 (.if_icmp .ge 101) 3 15 := ⟨by decide +kernel, rfl⟩
theorem aX8_with_15 : At cX8_with 15 (.iconst 0) 1 16 := ⟨by decide +kernel, rfl⟩
theorem aX8_with_16 : At cX8_with 16 (.istore 6) 2 18 := ⟨by decide +kernel, rfl⟩
theorem aX8_with_18 : At cX8_with 18 (.iload 6) 2 20 := ⟨by decide +kernel, rfl⟩
theorem aX8_with_20 : At cX8_with 20 (.aload_n 0) 1 21 := ⟨by decide +kernel, rfl⟩
theorem aX8_with_21 : At cX8_with 21 (.getfield 118) 3 24 := ⟨by decide +kernel, rfl⟩
theorem aX8_with_24 : At cX8_with 24 (.if_icmp .ge 83) 3 27 := ⟨by decide +kernel, rfl⟩
theorem aX8_with_27 : At cX8_with 27 (.iload 5) 2 29 := ⟨by decide +kernel, rfl⟩
theorem aX8_with_29 : At cX8_with 29 (.iload_n 2) 1 30 := ⟨by decide +kernel, rfl⟩
theorem aX8_with_30 : At cX8_with 30 (.if_icmp .eq 13) 3 33 := ⟨by decide +kernel, rfl⟩
theorem aX8_with_33 : At cX8_with 33 (.iload_n 1) 1 34 := ⟨by decide +kernel, rfl⟩
theorem aX8_with_34 : At cX8_with 34 (.iload 5) 2 36 := ⟨by decide +kernel, rfl⟩
theorem aX8_with_36 : At cX8_with 36 (.iload_n 2) 1 37 := ⟨by decide +kernel, rfl⟩
theorem aX8_with_37 : At cX8_with 37 (.invokestatic 142) 3 40 := ⟨by decide +kernel, rfl⟩
theorem aX8_with_40 : At cX8_with 40 (.ifCond .eq 7) 3 43 := ⟨by decide +kernel, rfl⟩
theorem aX8_with_43 : At cX8_with 43 (.iconst 1) 1 44 := ⟨by decide +kernel, rfl⟩
theorem aX8_with_44 : At cX8_with 44 (.goto 4) 3 47 := ⟨by decide +kernel, rfl⟩
theorem aX8_with_47 : At cX8_with 47 (.iconst 0) 1 48 := ⟨by decide +kernel, rfl⟩
theorem aX8_with_48 : At cX8_with 48 (.istore 7) 2 50 := ⟨by decide +kernel, rfl⟩
theorem aX8_with_50 : At cX8_with 50 (.iload 6) 2 52 := ⟨by decide +kernel, rfl⟩
theorem aX8_with_52 : At cX8_with 52 (.iload_n 3) 1 53 := ⟨by decide +kernel, rfl⟩
theorem aX8_with_53 : At cX8_with 53 (.if_icmp .eq 13) 3 56 := ⟨by decide +kernel, rfl⟩
theorem aX8_with_56 : At cX8_with 56 (.iload_n 1) 1 57 := ⟨by decide +kernel, rfl⟩
theorem aX8_with_57 : At cX8_with 57 (.iload_n 3) 1 58 := ⟨by decide +kernel, rfl⟩
theorem aX8_with_58 : At cX8_with 58 (.iload 6) 2 60 := ⟨by decide +kernel, rfl⟩
theorem aX8_with_60 : At cX8_with 60 (.invokestatic 142) 3 63 := ⟨by decide +kernel, rfl⟩
theorem aX8_with_63 : At cX8_with 63 (.ifCond .eq 7) 3 66 := ⟨by decide +kernel, rfl⟩
theorem aX8_with_66 : At cX8_with 66 (.iconst 1) 1 67 := ⟨by decide +kernel, rfl⟩
theorem aX8_with_67 : At cX8_with 67 (.goto 4) 3 70 := ⟨by decide +kernel, rfl⟩
theorem aX8_with_70 : At cX8_with 70 (.iconst 0) 1 71 := ⟨by decide +kernel, rfl⟩
theorem aX8_with_71 : At cX8_with 71 (.istore 8) 2 73 := ⟨by decide +kernel, rfl⟩
theorem aX8_with_73 : At cX8_with 73 (.iload 4) 2 75 := ⟨by decide +kernel, rfl⟩
theorem aX8_with_75 : At cX8_with 75 (.iload 7) 2 77 := ⟨by decide +kernel, rfl⟩
theorem aX8_with_77 : At cX8_with 77 (.ifCond .eq 20) 3 80 := ⟨by decide +kernel, rfl⟩
theorem aX8_with_80 : At cX8_with 80 (.iload 8) 2 82 := ⟨by decide +kernel, rfl⟩
theorem aX8_with_82 : At cX8_with 82 (.ifCond .eq 15) 3 85 := ⟨by decide +kernel, rfl⟩
theorem aX8_with_85 : At cX8_with 85 (.iconst 1) 1 86 := ⟨by decide +kernel, rfl⟩
theorem aX8_with_86 : At cX8_with 86 (.iconst 5) 1 87 := ⟨by decide +kernel, rfl⟩
theorem aX8_with_87 : At cX8_with 87 (.iload 5) 2 89 := ⟨by decide +kernel, rfl⟩
theorem aX8_with_89 : At cX8_with 89 .imul 1 90 := ⟨by decide +kernel, rfl⟩
theorem aX8_with_90 : At cX8_with 90 (.iload 6) 2 92 := ⟨by decide +kernel, rfl⟩
theorem aX8_with_92 : At cX8_with 92 .iadd 1 93 := ⟨by decide +kernel, rfl⟩
theorem aX8_with_93 : At cX8_with 93 .ishl 1 94 := ⟨by decide +kernel, rfl⟩
theorem aX8_with_94 : At cX8_with 94 (.goto 4) 3 97 := ⟨by decide +kernel, rfl⟩
theorem aX8_with_97 : At cX8_with 97 (.iconst 0) 1 98 := ⟨by decide +kernel, rfl⟩
theorem aX8_with_98 : At cX8_with 98 .ior 1 99 := ⟨by decide +kernel, rfl⟩
theorem aX8_with_99 : At cX8_with 99 (.istore 4) 2 101 := ⟨by decide +kernel, rfl⟩
theorem aX8_with_101 : At cX8_with 101 (.iinc 6 1) 3 104 := ⟨by decide +kernel, rfl⟩
theorem aX8_with_104 : At cX8_with 104 (.goto (-86)) 3 107 := ⟨by decide +kernel, rfl⟩
theorem aX8_with_107 : At cX8_with 107 (.iinc 5 1) 3 110 := ⟨by decide +kernel, rfl⟩
theorem aX8_with_110 : At cX8_with 110 (.goto (-104)) 3 113 := ⟨by decide +kernel, rfl⟩
theorem aX8_with_113 : At cX8_with 113 (.iload 4) 2 115 := ⟨by decide +kernel, rfl⟩
theorem aX8_with_115 : At cX8_with 115 .ireturn 1 116 := ⟨by decide +kernel, rfl⟩
end
section
/-! The kit of whole numbers: the machine's world as shapes of cells and integers in them; one judgement V for 'from here this method goes on and ends so' -/
def vi (z : Int) : Value := .int (Int32.ofInt z)
abbrev Shp : Type := Nat × Nat × (Nat → Option (Option Nat))
abbrev Sh : Type := Nat × (Nat → Option Shp)
abbrev Mu : Type := Nat → Int → Int
def cvl (rf : Nat → Option (Option Nat)) (g : Int → Int) : Nat → Value := fun j => match rf j with
  | none => vi (g (j : Int))
  | some r => va_rf r
theorem cvl_i {rf : Nat → Option (Option Nat)} {g : Int → Int} {j : Nat} (h : rf j = none) : cvl rf g j = vi (g j) := by simp [cvl, h]
theorem cvl_r {rf : Nat → Option (Option Nat)} {g : Int → Int} {j : Nat} {r : Option Nat} (h : rf j = some r) : cvl rf g j = va_rf r := by simp [cvl, h]
/-- the classes of the world (numbers), those of its arrays (by kind), where its cells begin, the array CODES -/
abbrev Glb : Type := va_G × (Nat → ClassId) × Nat × Nat
def kTy (k : Nat) : Option FieldType :=
  if k = 100 then some .int else if k = 101 then some .boolean else if k = 102 then some (.array .int) else if k = 103 then some (.object "LastScale$Book") else if k = 104 then some (.object "LastScale$Planner") else none
theorem kTy_ge {k : Nat} {ty : FieldType} (h : kTy k = some ty) : 100 ≤ k := by
  unfold kTy at h
  repeat' split at h
  all_goals first | omega | cases h
theorem vwCl_lt {k : Nat} {r : vw_C} (h : vwCl[k]? = some r) : k < 9 := (List.getElem?_eq_some_iff.mp h).1
def celA (G : Glb) (q : Nat) (sh : Shp) (g : Int → Int) (H : Heap) : Prop :=
  (∃ r : vw_C, vwCl[sh.1]? = some r ∧ t_OB q (G.1.1 sh.1) r.2.2 (G.1.2 sh.1) H (cvl sh.2.2 g)) ∨ ((∃ ty, kTy sh.1 = some ty) ∧ H[q]? = some (arrV (G.2.1 sh.1) sh.2.1 (cvl sh.2.2 g)))
theorem celA.lt {G : Glb} {q : Nat} {sh : Shp} {g : Int → Int} {H : Heap} (h : celA G q sh g H) : q < H.size := by
  rcases h with ⟨r, -, cell, h1, -⟩ | ⟨-, h1⟩
  · exact (Array.getElem?_eq_some_iff.mp h1).1
  · exact (Array.getElem?_eq_some_iff.mp h1).1
theorem celA.kept {G : Glb} {q : Nat} {sh : Shp} {g : Int → Int} {H H1 : Heap} (h : celA G q sh g H) (e : H1[q]? = H[q]?) : celA G q sh g H1 := by
  rcases h with ⟨r, h1, h2⟩ | ⟨h1, h2⟩
  · exact Or.inl ⟨r, h1, h2.kept e⟩
  · exact Or.inr ⟨h1, e.trans h2⟩
theorem celA.obj {G : Glb} {q : Nat} {sh : Shp} {g : Int → Int} {H : Heap} (h : celA G q sh g H) {ci : Nat} {r : vw_C} (e : sh.1 = ci) (hr : vwCl[ci]? = some r) : t_OB q (G.1.1 ci) r.2.2 (G.1.2 ci) H (cvl sh.2.2 g) := by
  subst e
  rcases h with ⟨r', h1, h2⟩ | ⟨⟨ty, h1⟩, -⟩
  · rw [Option.some.inj (hr.symm.trans h1)]; exact h2
  · have := kTy_ge h1
    have := vwCl_lt hr
    omega
theorem celA.arr {G : Glb} {q : Nat} {sh : Shp} {g : Int → Int} {H : Heap} (h : celA G q sh g H) {k : Nat} {ty : FieldType} (e : sh.1 = k) (hr : kTy k = some ty) : H[q]? = some (arrV (G.2.1 k) sh.2.1 (cvl sh.2.2 g)) := by
  subst e
  rcases h with ⟨r', h1, h2⟩ | ⟨-, h2⟩
  · have := kTy_ge hr
    have := vwCl_lt h1
    omega
  · exact h2
def Rep (G : Glb) (S : Sh) (μ : Mu) (H : Heap) : Prop := H.size = S.1 ∧ G.2.2.1 ≤ S.1 ∧ ∀ q sh, S.2 q = some sh → G.2.2.1 ≤ q ∧ celA G q sh (μ q) H
def upd2 (μ : Mu) (a : Nat) (z x : Int) : Mu := fun q i => if q = a ∧ i = z then x else μ q i
def row (μ : Mu) (a : Nat) (g : Int → Int) : Mu := fun q => if q = a then g else μ q
def sput (S : Sh) (a : Nat) (sh : Shp) : Sh := (S.1, fun q => if q = a then some sh else S.2 q)
def rput (sh : Shp) (k : Nat) (r : Option Nat) : Shp := (sh.1, sh.2.1, fun j => if j = k then some r else sh.2.2 j)
def snew (S : Sh) (sh : Shp) : Sh := (S.1 + 1, fun q => if q = S.1 then some sh else S.2 q)
def mnew (S : Sh) (μ : Mu) : Mu := fun q => if q = S.1 then fun _ => 0 else μ q
/-- what is known of the machine's tables -/
def Kn (G : Glb) (U : State) : Prop :=
  (∀ (c : Nat) (q : vw_C), vwCl[c]? = some q → u_Kn U q.1 q.2.1 q.2.2 (G.1.1 c) (G.1.2 c)) ∧
  (∀ (k : Nat) (ty : FieldType), kTy k = some ty → ArrOfT U (G.2.1 k) ty ∧ va_RA U (G.2.1 k) ty) ∧ (∀ w ∈ NST, va_Nw w U)
theorem nst_moved {w : Cond} (hw : w ∈ NST) {s U : State} (hW : s.WarmedH U.vm) (h : va_Nw w s) : va_Nw w U := by
  have hn : isNest w = true := (List.mem_filter.mp hw).2
  unfold isNest at hn
  split at hn
  · exact va_Nw.warmF hW h
  · exact va_Nw.warmM hW h
  · exact va_AO.moved hW.alike h
  · exact over_moved hW.alike h
  · cases hn
theorem Kn.moved {G : Glb} {s U : State} (hW : s.WarmedH U.vm) (h : Kn G s) : Kn G U :=
  ⟨fun c q hq => u_Kn_moved hW.alike (h.1 c q hq), fun k ty hk => ⟨arrOfT_moved hW.alike (h.2.1 k ty hk).1, (h.2.1 k ty hk).2.moved hW.alike⟩, fun w hw => nst_moved hw hW (h.2.2 w hw)⟩
theorem nst_calling {w : Cond} (hw : w ∈ NST) {U : State} {g : JFrame} {mk : MethodId} {a : Array Value} (h : va_Nw w U) : va_Nw w (U.calling g mk a) := by
  have hn : isNest w = true := (List.mem_filter.mp hw).2
  unfold isNest at hn
  split at hn
  · exact va_Nw.same rfl (u := U) rfl h
  · exact va_Nw.same rfl (u := U) rfl h
  · exact va_AO.moved (u := U) (Vm.Alike.refl U.vm) h
  · exact over_moved (u := U) (Vm.Alike.refl U.vm) h
  · cases hn
theorem Kn.calling {G : Glb} {U : State} {g : JFrame} {mk : MethodId} {a : Array Value} (h : Kn G U) : Kn G (U.calling g mk a) :=
  ⟨fun c q hq => u_Kn_moved (u := U) (Vm.Alike.refl U.vm) (h.1 c q hq), fun k ty hk => ⟨arrOfT_moved (u := U) (Vm.Alike.refl U.vm) (h.2.1 k ty hk).1, va_RA.moved (u := U) (Vm.Alike.refl U.vm) (h.2.1 k ty hk).2⟩, fun w hw => nst_calling hw (h.2.2 w hw)⟩
def codesV (j : Nat) : Value := vi (if j = 0 then 1 else if j = 1 then 1 else if j = 2 then 3 else if j = 3 then 27 else if j = 4 then 729 else 59049)
def StO (G : Glb) (U : State) (H : Heap) : Prop := va_Z "LastScale$Planner" "CODES" "[I" (.ref G.2.2.2) (fun q => G.2.2.1 ≤ q) U H ∧ va_T .int G.2.2.2 6 codesV (fun q => G.2.2.1 ≤ q) U H
theorem StO.moved {G : Glb} {s U : State} {H : Heap} (hvm : s.vm.Alike U.vm) (h : StO G s H) : StO G U H := ⟨h.1.moved hvm, h.2.moved hvm⟩
theorem StO.kept {G : Glb} {U : State} {H H1 : Heap} (h : StO G U H) (hq : ∀ a : Nat, a < G.2.2.1 → H1[a]? = H[a]?) : StO G U H1 := ⟨h.1.kept fun a _ ha => hq a (Nat.not_le.mp ha), h.2.kept fun a _ ha => hq a (Nat.not_le.mp ha)⟩
/-- how a method ends: its answer, the shapes, the numbers -/
abbrev Pst : Type := Option Value → Sh → Mu → Prop
def VQ (G : Glb) (P : Pst) : Array Value → State → Outcome → State → Prop := fun _ st o t => ∃ r S μ, o = .returned r ∧ P r S μ ∧ Rep G S μ t.heap ∧ ∀ q : Nat, q < G.2.2.1 → t.heap[q]? = st.heap[q]?
/-- a method: name, locals, return type, depth of its calls, cells and slots that it may make -/
abbrev Frm : Type := MethodName × Nat × Option FieldType × Nat × Nat × Nat
def rmo (d mc ms : Nat) : Room := { frames := d, cells := mc, slots := ms, locals := 60 * d }
def Cx (G : Glb) (cc : ByteArray) (F : Frm) (p : Program) (s : State) (m : MethodId) (args : Array Value) (meth : Method) (c : Code) : Prop :=
  p.tables.exec = Jvm.exec ∧ c.code = cc ∧ c.maxLocals = F.2.1 ∧ meth.sig.returnType = F.2.2.1 ∧ s.vm.findClass F.1.cls = some m.cls ∧ meth.locks = false ∧ meth.name = F.1.name ∧ (∀ w ∈ TBL, w.before args s = true) ∧ Kn G s ∧ StO G s s.heap ∧ G.2.2.1 ≤ s.heap.size
def nu : Nat → List Value → List (Nat × Value)
  | _, [] => []
  | j, v :: t => (j, v) :: nu (j + 1) t
def lget : List Value → Nat → Option Value
  | [], _ => none
  | v :: _, 0 => some v
  | _ :: t, i + 1 => lget t i
def lset : List Value → Nat → Value → List Value
  | [], 0, v => [v]
  | [], _ + 1, _ => []
  | _ :: t, 0, v => v :: t
  | a :: t, i + 1, v => a :: lset t i v
theorem nu_get : ∀ {L : List Value} {j i : Nat} {v : Value}, lget L i = some v → (j + i, v) ∈ nu j L
  | [], _, _, _, h => by simp [lget] at h
  | a :: t, j, 0, v, h => by simp only [lget, Option.some.injEq] at h; subst h; simp [nu]
  | a :: t, j, i + 1, v, h => by
    have := nu_get (j := j + 1) (show lget t i = some v from h)
    rw [show j + 1 + i = j + (i + 1) by omega] at this
    exact List.mem_cons_of_mem _ this
theorem nu_ge : ∀ {L : List Value} {j : Nat} {q : Nat × Value}, q ∈ nu j L → j ≤ q.1
  | [], _, _, h => by simp [nu] at h
  | a :: t, j, q, h => by
    rcases List.mem_cons.mp h with rfl | h
    · exact Nat.le_refl _
    · have := nu_ge h; omega
theorem nu_set : ∀ {L : List Value} {j i : Nat} {v : Value} {q : Nat × Value}, q ∈ nu j (lset L i v) → q = (j + i, v) ∨ (q ∈ nu j L ∧ q.1 ≠ j + i)
  | [], j, 0, v, q, h => by simp [lset, nu] at h; exact Or.inl h
  | [], j, i + 1, v, q, h => by simp [lset, nu] at h
  | a :: t, j, 0, v, q, h => by
    rcases List.mem_cons.mp (show q ∈ (j, v) :: nu (j + 1) t from h) with rfl | h
    · exact Or.inl rfl
    · refine Or.inr ⟨List.mem_cons_of_mem _ h, ?_⟩
      have := nu_ge h; omega
  | a :: t, j, i + 1, v, q, h => by
    rcases List.mem_cons.mp (show q ∈ (j, a) :: nu (j + 1) (lset t i v) from h) with rfl | h
    · exact Or.inr ⟨List.mem_cons_self, by show j ≠ _; omega⟩
    · rcases nu_set h with h | ⟨h, h2⟩
      · exact Or.inl (by rw [h, show j + 1 + i = j + (i + 1) by omega])
      · exact Or.inr ⟨List.mem_cons_of_mem _ h, by omega⟩
theorem nu_mem : ∀ {L : List Value} {j : Nat} {q : Nat × Value}, q ∈ nu j L → q.2 ∈ L
  | [], _, _, h => by simp [nu] at h
  | a :: t, j, q, h => by
    rcases List.mem_cons.mp h with rfl | h
    · exact List.mem_cons_self
    · exact List.mem_cons_of_mem _ (nu_mem h)
/-- the locals that are known -/
def LV (ls : Array Slot) (n : Nat) (L : List Value) : Prop := lv_has ls n (nu 0 L) ∧ ∀ v ∈ L, v.category = 1
theorem LV.get {ls : Array Slot} {n i : Nat} {L : List Value} {v : Value} (h : LV ls n L) (e : lget L i = some v) : ls[i]? = some (.val v) := by
  have := h.1.2.2 _ (nu_get (j := 0) e)
  simpa using this
theorem LV.set {ls ls' : Array Slot} {n i : Nat} {L : List Value} {v : Value} (h : LV ls n L) (hc : v.category = 1) (h' : lv_has ls' n ((i, v) :: (nu 0 L).filter (fun q => !(q.1 == i) && !(q.1 + 1 == i && q.2.category == 2)))) : LV ls' n (lset L i v) := by
  refine ⟨⟨h'.1, h'.2.1, fun q hq => h'.2.2 q ?_⟩, fun w hw => ?_⟩
  · rcases nu_set hq with e | ⟨e, e2⟩
    · rw [e]; simp
    · refine List.mem_cons_of_mem _ (List.mem_filter.mpr ⟨e, ?_⟩)
      have h1 := h.2 _ (nu_mem e)
      simp only [Nat.zero_add] at e2
      simp [e2, h1]
  · have : ∀ (L : List Value) (i : Nat), w ∈ lset L i v → w = v ∨ w ∈ L := by
      intro L
      induction L with
      | nil => intro i h; cases i <;> simp [lset] at h; exact Or.inl h
      | cons a t ih =>
        intro i h
        cases i with
        | zero => rcases List.mem_cons.mp (show w ∈ v :: t from h) with h | h
                  · exact Or.inl h
                  · exact Or.inr (List.mem_cons_of_mem _ h)
        | succ i => rcases List.mem_cons.mp (show w ∈ a :: lset t i v from h) with h | h
                    · exact Or.inr (by rw [h]; exact List.mem_cons_self)
                    · rcases ih i h with h | h
                      · exact Or.inl h
                      · exact Or.inr (List.mem_cons_of_mem _ h)
    rcases this L i hw with rfl | h1
    · exact hc
    · exact h.2 w h1
/-- from here the method goes on, and ends so -/
def V (l : Launch) (G : Glb) (cc : ByteArray) (F : Frm) (P : Pst) (k : Nat × Nat) (S : Sh) (μ : Mu) (pc : Nat) (L st : List Value) : Prop :=
  ∀ (p : Program) (e : Env) (s : State) (m : MethodId) (args : Array Value) (below : List Frame) (meth : Method) (c : Code) (H : Heap) (locs : List Loc) (ls : Array Slot),
    Cx G cc F p s m args meth c → Rep G S μ H → (∀ q : Nat, q < G.2.2.1 → H[q]? = s.heap[q]?) → (∀ x ∈ locs, G.2.2.1 ≤ x.base) → LV ls F.2.1 L →
    W p l e (rmo F.2.2.2.1 F.2.2.2.2.1 F.2.2.2.2.2) s m args below meth c H locs k.1 k.2 (MQ below (VQ G P) args s F.2.2.2.2.1 F.2.2.2.2.2 (fun q => G.2.2.1 ≤ q)) (F0 m pc ls st)
/-- a method's contract -/
def Ct (l : Launch) (G : Glb) (cc : ByteArray) (F : Frm) (args : List Value) (S : Sh) (μ : Mu) (P : Pst) : Prop :=
  Met l F.1 (Cond.code F.1 cc F.2.1 F.2.2.1 :: TBL) (rmo F.2.2.2.1 F.2.2.2.2.1 F.2.2.2.2.2) (va_Pc args (fun U => Rep G S μ U.heap ∧ Kn G U ∧ StO G U U.heap)) (VQ G P) F.2.2.2.2.1 F.2.2.2.2.2 (fun q => G.2.2.1 ≤ q)
theorem Ct.of {l : Launch} {G : Glb} {cc : ByteArray} {F : Frm} {args : List Value} {S : Sh} {μ : Mu} {P : Pst} (hy : plainName F.1.cls = true) (ha : lv_args 0 args = nu 0 args) (hc : ∀ v ∈ args, v.category = 1) (hn : (lg_sl args).length ≤ F.2.1) (h : V l G cc F P (0, 0) S μ 0 args []) : Ct l G cc F args S μ P := by
  refine Met.ofW (cc := cc) (maxL := F.2.1) (ret := F.2.2.1) hy rfl ?_
  intro p e s m args' below meth c s₁ B hml hv
  obtain ⟨rfl, hR, hK, hZ⟩ := hv
  have hts := atoms_spec (ws := Cond.code F.1 cc F.2.1 F.2.2.1 :: TBL) B.pre
  have hl := lv_entry args (n := F.2.1) hn
  rw [lg_entry_eq]
  refine h p e s m _ below meth c s.heap [] _ ⟨B.exec, B.bytes, hml, B.returns, findClass_of_methodNamed B.named, B.notSynchronized, (name_of_methodNamed B.named B.method).1, fun w hw => hts w (List.mem_cons_of_mem _ hw), hK, hZ, by rw [hR.1]; exact hR.2.1⟩ hR (fun _ _ => rfl) (fun _ h => by cases h) ⟨by rw [← ha]; exact hl, hc⟩
theorem V.mono {l : Launch} {G : Glb} {cc : ByteArray} {F : Frm} {P P' : Pst} {k : Nat × Nat} {S : Sh} {μ : Mu} {pc : Nat} {L st : List Value} (hP : ∀ r S μ, P r S μ → P' r S μ) (h : V l G cc F P k S μ pc L st) : V l G cc F P' k S μ pc L st := by
  intro p e s m args below meth c H locs ls X R hf hlc hl T hT X1
  obtain ⟨t, h1, o, h2, h3, ⟨r, S', μ', q1, q2, q3⟩, h5⟩ := h p e s m args below meth c H locs ls X R hf hlc hl T hT X1
  exact ⟨t, h1, o, h2, h3, ⟨r, S', μ', q1, hP _ _ _ q2, q3⟩, h5⟩
end
section
def iAnd (a b : Int) : Int := (Int32.ofInt a &&& Int32.ofInt b).toInt
def iOr (a b : Int) : Int := (Int32.ofInt a ||| Int32.ofInt b).toInt
def iXor (a b : Int) : Int := (Int32.ofInt a ^^^ Int32.ofInt b).toInt
def iShl (a b : Int) : Int := (Int32.ofInt a <<< (Int32.ofInt b &&& 31)).toInt
def iShr (a b : Int) : Int := (Int32.ofInt a >>> (Int32.ofInt b &&& 31)).toInt
def iUshr (a b : Int) : Int := ((Int32.ofInt a).toUInt32 >>> ((Int32.ofInt b).toUInt32 &&& Int32.toUInt32 31)).toInt32.toInt
theorem i32_in {z : Int} (h : -2147483648 ≤ z ∧ z < 2147483648) : (Int32.ofInt z).toInt = z := Int32.toInt_ofInt_of_le (by have := h.1; omega) (by have := h.2; omega)
section R1
variable {l : Launch} {G : Glb} {cc : ByteArray} {F : Frm} {P : Pst} {k : Nat × Nat} {S : Sh} {μ : Mu} {pc n : Nat} {L st : List Value}
theorem v_iadd {a b : Int} (hd : At cc pc .iadd 1 n) (h : V l G cc F P k S μ n L (vi (a + b) :: st)) : V l G cc F P k S μ pc L (vi b :: vi a :: st) := by
  obtain ⟨hd, rfl⟩ := hd
  intro p e s m args below meth c H locs ls X R hf hlc hl
  refine lv_iadd X.1 X.2.1 hd ?_
  rw [← Int32.ofInt_add]
  exact h p e s m args below meth c H locs ls X R hf hlc hl
theorem v_isub {a b : Int} (hd : At cc pc .isub 1 n) (h : V l G cc F P k S μ n L (vi (a - b) :: st)) : V l G cc F P k S μ pc L (vi b :: vi a :: st) := by
  obtain ⟨hd, rfl⟩ := hd
  intro p e s m args below meth c H locs ls X R hf hlc hl
  refine lv_isub X.1 X.2.1 hd ?_
  rw [← Int32.ofInt_sub]
  exact h p e s m args below meth c H locs ls X R hf hlc hl
theorem v_imul {a b : Int} (hd : At cc pc .imul 1 n) (h : V l G cc F P k S μ n L (vi (a * b) :: st)) : V l G cc F P k S μ pc L (vi b :: vi a :: st) := by
  obtain ⟨hd, rfl⟩ := hd
  intro p e s m args below meth c H locs ls X R hf hlc hl
  refine lv_imul X.1 X.2.1 hd ?_
  rw [← Int32.ofInt_mul]
  exact h p e s m args below meth c H locs ls X R hf hlc hl
theorem v_iand {a b : Int} (hd : At cc pc .iand 1 n) (h : V l G cc F P k S μ n L (vi (iAnd a b) :: st)) : V l G cc F P k S μ pc L (vi b :: vi a :: st) := by
  obtain ⟨hd, rfl⟩ := hd
  intro p e s m args below meth c H locs ls X R hf hlc hl
  refine lv_iand X.1 X.2.1 hd ?_
  have h := h p e s m args below meth c H locs ls X R hf hlc hl
  unfold iAnd vi at h
  rw [Int32.ofInt_toInt] at h
  exact h
theorem v_ior {a b : Int} (hd : At cc pc .ior 1 n) (h : V l G cc F P k S μ n L (vi (iOr a b) :: st)) : V l G cc F P k S μ pc L (vi b :: vi a :: st) := by
  obtain ⟨hd, rfl⟩ := hd
  intro p e s m args below meth c H locs ls X R hf hlc hl
  refine lv_ior X.1 X.2.1 hd ?_
  have h := h p e s m args below meth c H locs ls X R hf hlc hl
  unfold iOr vi at h
  rw [Int32.ofInt_toInt] at h
  exact h
theorem v_ixor {a b : Int} (hd : At cc pc .ixor 1 n) (h : V l G cc F P k S μ n L (vi (iXor a b) :: st)) : V l G cc F P k S μ pc L (vi b :: vi a :: st) := by
  obtain ⟨hd, rfl⟩ := hd
  intro p e s m args below meth c H locs ls X R hf hlc hl
  refine lv_ixor X.1 X.2.1 hd ?_
  have h := h p e s m args below meth c H locs ls X R hf hlc hl
  unfold iXor vi at h
  rw [Int32.ofInt_toInt] at h
  exact h
theorem v_ishl {a b : Int} (hd : At cc pc .ishl 1 n) (h : V l G cc F P k S μ n L (vi (iShl a b) :: st)) : V l G cc F P k S μ pc L (vi b :: vi a :: st) := by
  obtain ⟨hd, rfl⟩ := hd
  intro p e s m args below meth c H locs ls X R hf hlc hl
  refine lv_ishl X.1 X.2.1 hd ?_
  have h := h p e s m args below meth c H locs ls X R hf hlc hl
  unfold iShl vi at h
  rw [Int32.ofInt_toInt] at h
  exact h
theorem v_ishr {a b : Int} (hd : At cc pc .ishr 1 n) (h : V l G cc F P k S μ n L (vi (iShr a b) :: st)) : V l G cc F P k S μ pc L (vi b :: vi a :: st) := by
  obtain ⟨hd, rfl⟩ := hd
  intro p e s m args below meth c H locs ls X R hf hlc hl
  refine lv_ishr X.1 X.2.1 hd ?_
  have h := h p e s m args below meth c H locs ls X R hf hlc hl
  unfold iShr vi at h
  rw [Int32.ofInt_toInt] at h
  exact h
theorem v_iushr {a b : Int} (hd : At cc pc .iushr 1 n) (h : V l G cc F P k S μ n L (vi (iUshr a b) :: st)) : V l G cc F P k S μ pc L (vi b :: vi a :: st) := by
  obtain ⟨hd, rfl⟩ := hd
  intro p e s m args below meth c H locs ls X R hf hlc hl
  refine lv_iushr X.1 X.2.1 hd rfl ?_
  have h := h p e s m args below meth c H locs ls X R hf hlc hl
  unfold iUshr vi at h
  rw [Int32.ofInt_toInt] at h
  exact h
theorem tdiv_nn {a b : Int} (ha : 0 ≤ a) (hb : 0 < b) : a.tdiv b = a / b := Int.tdiv_eq_ediv_of_nonneg ha
theorem i32_div {a b : Int} (ha : 0 ≤ a ∧ a < 2147483648) (hb : 0 < b ∧ b < 2147483648) : Int32.ofInt a / Int32.ofInt b = Int32.ofInt (a / b) := by
  rw [← tdiv_nn ha.1 hb.1]
  refine (Int32.ofInt_tdiv ?_ ?_ ?_ ?_).symm <;> simp [Int32.minValue, Int32.maxValue] <;> omega
theorem i32_nz {b : Int} (hb : 0 < b ∧ b < 2147483648) : ¬ Int32.ofInt b = 0 := fun h => by
  have h1 : (Int32.ofInt b).toInt = (0 : Int32).toInt := congrArg Int32.toInt h
  rw [i32_in (by omega)] at h1
  simp at h1
  omega
theorem v_idiv {a b : Int} (ha : 0 ≤ a ∧ a < 2147483648) (hb : 0 < b ∧ b < 2147483648) (hd : At cc pc .idiv 1 n) (h : V l G cc F P k S μ n L (vi (a / b) :: st)) : V l G cc F P k S μ pc L (vi b :: vi a :: st) := by
  obtain ⟨hd, rfl⟩ := hd
  intro p e s m args below meth c H locs ls X R hf hlc hl
  refine lv_idiv X.1 X.2.1 hd (i32_nz hb) ?_
  rw [i32_div ha hb]
  exact h p e s m args below meth c H locs ls X R hf hlc hl
theorem v_irem {a b : Int} (ha : 0 ≤ a ∧ a < 2147483648) (hb : 0 < b ∧ b < 2147483648) (hd : At cc pc .irem 1 n) (h : V l G cc F P k S μ n L (vi (a % b) :: st)) : V l G cc F P k S μ pc L (vi b :: vi a :: st) := by
  obtain ⟨hd, rfl⟩ := hd
  intro p e s m args below meth c H locs ls X R hf hlc hl
  refine lv_irem X.1 X.2.1 hd (i32_nz hb) ?_
  rw [i32_div ha hb, ← Int32.ofInt_mul, ← Int32.ofInt_sub, show a - a / b * b = a % b by rw [Int.emod_def, Int.mul_comm]]
  exact h p e s m args below meth c H locs ls X R hf hlc hl
theorem v_idivT {a b : Int} (ha : -2147483648 ≤ a ∧ a < 2147483648) (hb : 0 < b ∧ b < 2147483648) (hd : At cc pc .idiv 1 n) (h : V l G cc F P k S μ n L (vi (a.tdiv b) :: st)) : V l G cc F P k S μ pc L (vi b :: vi a :: st) := by
  obtain ⟨hd, rfl⟩ := hd
  intro p e s m args below meth c H locs ls X R hf hlc hl
  refine lv_idiv X.1 X.2.1 hd (i32_nz hb) ?_
  have e9 : Int32.ofInt a / Int32.ofInt b = Int32.ofInt (a.tdiv b) := by
    refine (Int32.ofInt_tdiv ?_ ?_ ?_ ?_).symm <;> simp [Int32.minValue, Int32.maxValue] <;> omega
  rw [e9]
  exact h p e s m args below meth c H locs ls X R hf hlc hl
theorem v_iremT {a b : Int} (ha : -2147483648 ≤ a ∧ a < 2147483648) (hb : 0 < b ∧ b < 2147483648) (hd : At cc pc .irem 1 n) (h : V l G cc F P k S μ n L (vi (a.tmod b) :: st)) : V l G cc F P k S μ pc L (vi b :: vi a :: st) := by
  obtain ⟨hd, rfl⟩ := hd
  intro p e s m args below meth c H locs ls X R hf hlc hl
  refine lv_irem X.1 X.2.1 hd (i32_nz hb) ?_
  have e9 : Int32.ofInt a / Int32.ofInt b = Int32.ofInt (a.tdiv b) := by
    refine (Int32.ofInt_tdiv ?_ ?_ ?_ ?_).symm <;> simp [Int32.minValue, Int32.maxValue] <;> omega
  rw [e9, ← Int32.ofInt_mul, ← Int32.ofInt_sub, show a - a.tdiv b * b = a.tmod b by rw [Int.tmod_def, Int.mul_comm]]
  exact h p e s m args below meth c H locs ls X R hf hlc hl
theorem v_iconst {i : Int} (hd : At cc pc (.iconst i) 1 n) (h : V l G cc F P k S μ n L (vi i :: st)) : V l G cc F P k S μ pc L (st) := by
  obtain ⟨hd, rfl⟩ := hd
  intro p e s m args below meth c H locs ls X R hf hlc hl
  exact lv_iconst X.1 X.2.1 hd rfl (h p e s m args below meth c H locs ls X R hf hlc hl)
theorem v_bipush {i : Int} (hi : (Int8.ofInt i).toInt32 = Int32.ofInt i) (hd : At cc pc (.bipush i) 2 n) (h : V l G cc F P k S μ n L (vi i :: st)) : V l G cc F P k S μ pc L (st) := by
  obtain ⟨hd, rfl⟩ := hd
  intro p e s m args below meth c H locs ls X R hf hlc hl
  exact lv_bipush X.1 X.2.1 hd hi (h p e s m args below meth c H locs ls X R hf hlc hl)
theorem v_sipush {i : Int} (hi : (Int16.ofInt i).toInt32 = Int32.ofInt i) (hd : At cc pc (.sipush i) 3 n) (h : V l G cc F P k S μ n L (vi i :: st)) : V l G cc F P k S μ pc L (st) := by
  obtain ⟨hd, rfl⟩ := hd
  intro p e s m args below meth c H locs ls X R hf hlc hl
  exact lv_sipush X.1 X.2.1 hd hi (h p e s m args below meth c H locs ls X R hf hlc hl)
theorem v_ldc {i : Int} {j : Nat} (hw : Cond.constant F.1.cls j (Int32.ofInt i) ∈ TBL) (hd : At cc pc (.ldc j) 2 n) (h : V l G cc F P k S μ n L (vi i :: st)) : V l G cc F P k S μ pc L (st) := by
  obtain ⟨hd, rfl⟩ := hd
  intro p e s m args below meth c H locs ls X R hf hlc hl
  obtain ⟨hx, hb, -, -, hown, -, -, hts, -⟩ := id X
  exact lv_ldc hx hb hown (hts _ hw) hd (h p e s m args below meth c H locs ls X R hf hlc hl)
theorem v_ldcw {i : Int} {j : Nat} (hw : Cond.constant F.1.cls j (Int32.ofInt i) ∈ TBL) (hd : At cc pc (.ldc_w j) 3 n) (h : V l G cc F P k S μ n L (vi i :: st)) : V l G cc F P k S μ pc L (st) := by
  obtain ⟨hd, rfl⟩ := hd
  intro p e s m args below meth c H locs ls X R hf hlc hl
  obtain ⟨hx, hb, -, -, hown, -, -, hts, -⟩ := id X
  exact lv_ldcw hx hb hown (hts _ hw) hd (h p e s m args below meth c H locs ls X R hf hlc hl)
theorem v_iload_n {a : Int} {q : Fin 4} (hd : At cc pc (.iload_n q) 1 n) (hv : lget L q = some (vi a)) (h : V l G cc F P k S μ n L (vi a :: st)) : V l G cc F P k S μ pc L (st) := by
  obtain ⟨hd, rfl⟩ := hd
  intro p e s m args below meth c H locs ls X R hf hlc hl
  exact lv_iload_n X.1 X.2.1 hd rfl (hl.get hv) (h p e s m args below meth c H locs ls X R hf hlc hl)
theorem v_iload {a : Int} {q : Nat} (hd : At cc pc (.iload q) 2 n) (hv : lget L q = some (vi a)) (h : V l G cc F P k S μ n L (vi a :: st)) : V l G cc F P k S μ pc L (st) := by
  obtain ⟨hd, rfl⟩ := hd
  intro p e s m args below meth c H locs ls X R hf hlc hl
  exact lv_iload X.1 X.2.1 hd (hl.get hv) (h p e s m args below meth c H locs ls X R hf hlc hl)
theorem v_aload_n {a : Nat} {q : Fin 4} (hd : At cc pc (.aload_n q) 1 n) (hv : lget L q = some (.ref a)) (h : V l G cc F P k S μ n L (.ref a :: st)) : V l G cc F P k S μ pc L (st) := by
  obtain ⟨hd, rfl⟩ := hd
  intro p e s m args below meth c H locs ls X R hf hlc hl
  exact lv_aload_n X.1 X.2.1 hd rfl (hl.get hv) (h p e s m args below meth c H locs ls X R hf hlc hl)
theorem v_aload {a : Nat} {q : Nat} (hd : At cc pc (.aload q) 2 n) (hv : lget L q = some (.ref a)) (h : V l G cc F P k S μ n L (.ref a :: st)) : V l G cc F P k S μ pc L (st) := by
  obtain ⟨hd, rfl⟩ := hd
  intro p e s m args below meth c H locs ls X R hf hlc hl
  exact lv_aload X.1 X.2.1 hd (hl.get hv) (h p e s m args below meth c H locs ls X R hf hlc hl)
theorem v_istore_n {a : Int} {q : Fin 4} {L' : List Value} (hd : At cc pc (.istore_n q) 1 n) (hq : q < F.2.1) (hL : lset L q (vi a) = L') (h : V l G cc F P k S μ n L' (st)) : V l G cc F P k S μ pc L (vi a :: st) := by
  obtain ⟨hd, rfl⟩ := hd
  subst hL
  intro p e s m args below meth c H locs ls X R hf hlc hl
  refine lv_istore_n X.1 X.2.1 hd rfl hl.1 hq rfl (fun ls' hl' => ?_)
  exact h _ _ _ _ _ _ _ _ _ _ _ X R hf hlc (hl.set rfl hl')
theorem v_istore {a : Int} {q : Nat} {L' : List Value} (hd : At cc pc (.istore q) 2 n) (hq : q < F.2.1) (hL : lset L q (vi a) = L') (h : V l G cc F P k S μ n L' (st)) : V l G cc F P k S μ pc L (vi a :: st) := by
  obtain ⟨hd, rfl⟩ := hd
  subst hL
  intro p e s m args below meth c H locs ls X R hf hlc hl
  refine lv_istore X.1 X.2.1 hd hl.1 hq rfl (fun ls' hl' => ?_)
  exact h _ _ _ _ _ _ _ _ _ _ _ X R hf hlc (hl.set rfl hl')
theorem v_astore_n {a : Nat} {q : Fin 4} {L' : List Value} (hd : At cc pc (.astore_n q) 1 n) (hq : q < F.2.1) (hL : lset L q (.ref a) = L') (h : V l G cc F P k S μ n L' (st)) : V l G cc F P k S μ pc L (.ref a :: st) := by
  obtain ⟨hd, rfl⟩ := hd
  subst hL
  intro p e s m args below meth c H locs ls X R hf hlc hl
  refine lv_astore_n X.1 X.2.1 hd rfl hl.1 hq rfl (fun ls' hl' => ?_)
  exact h _ _ _ _ _ _ _ _ _ _ _ X R hf hlc (hl.set rfl hl')
theorem v_astore {a : Nat} {q : Nat} {L' : List Value} (hd : At cc pc (.astore q) 2 n) (hq : q < F.2.1) (hL : lset L q (.ref a) = L') (h : V l G cc F P k S μ n L' (st)) : V l G cc F P k S μ pc L (.ref a :: st) := by
  obtain ⟨hd, rfl⟩ := hd
  subst hL
  intro p e s m args below meth c H locs ls X R hf hlc hl
  refine lv_astore X.1 X.2.1 hd hl.1 hq rfl (fun ls' hl' => ?_)
  exact h _ _ _ _ _ _ _ _ _ _ _ X R hf hlc (hl.set rfl hl')
theorem v_iinc {a i : Int} {q : Nat} {L' : List Value} (hd : At cc pc (.iinc q i) 3 n) (hv : lget L q = some (vi a)) (hq : q < F.2.1) (hL : lset L q (vi (a + i)) = L') (h : V l G cc F P k S μ n L' (st)) : V l G cc F P k S μ pc L (st) := by
  obtain ⟨hd, rfl⟩ := hd
  subst hL
  intro p e s m args below meth c H locs ls X R hf hlc hl
  obtain ⟨k0, hk0⟩ := List.getElem?_of_mem (nu_get (j := 0) hv)
  rw [Nat.zero_add] at hk0
  refine lv_iinc (v := Int32.ofInt (a + i)) X.1 X.2.1 hd hl.1 hk0 (Int32.ofInt_add a i).symm hq rfl (fun ls' hl' => ?_)
  exact h _ _ _ _ _ _ _ _ _ _ _ X R hf hlc (hl.set rfl hl')
theorem v_locals {L' : List Value} (hL : ∀ q ∈ nu 0 L', q ∈ nu 0 L) (h : V l G cc F P k S μ pc L' (st)) : V l G cc F P k S μ pc L (st) := by
  intro p e s m args below meth c H locs ls X R hf hlc hl
  refine h _ _ _ _ _ _ _ _ _ _ _ X R hf hlc ⟨⟨hl.1.1, hl.1.2.1, fun q hq => hl.1.2.2 q (hL q hq)⟩, fun v hv => ?_⟩
  have : ∀ (A : List Value) (j : Nat), v ∈ A → ∃ i, (i, v) ∈ nu j A := by
    intro A
    induction A with
    | nil => intro j h; cases h
    | cons a t ih =>
      intro j h
      rcases List.mem_cons.mp h with rfl | h
      · exact ⟨j, List.mem_cons_self⟩
      · obtain ⟨i, hi⟩ := ih (j + 1) h
        exact ⟨i, List.mem_cons_of_mem _ hi⟩
  obtain ⟨i, hi⟩ := this L' 0 hv
  exact hl.2 v (nu_mem (hL _ hi))
theorem nu_take : ∀ (L : List Value) (i j : Nat) (q : Nat × Value), q ∈ nu j (L.take i) → q ∈ nu j L
  | [], i, j, q, h => by simp [nu] at h
  | a :: t, 0, j, q, h => by simp [nu] at h
  | a :: t, i + 1, j, q, h => by
    rcases List.mem_cons.mp (show q ∈ (j, a) :: nu (j + 1) (t.take i) from h) with rfl | h
    · exact List.mem_cons_self
    · exact List.mem_cons_of_mem _ (nu_take t i (j + 1) q h)
/-- only the first i locals -/
theorem v_take (i : Nat) {L' : List Value} (hL : L.take i = L') (h : V l G cc F P k S μ pc L' (st)) : V l G cc F P k S μ pc L (st) := v_locals (fun q hq => nu_take L i 0 q (by rw [hL]; exact hq)) h
theorem v_dup {v : Value} (hc : v.category = 1) (hd : At cc pc .dup 1 n) (h : V l G cc F P k S μ n L (v :: v :: st)) : V l G cc F P k S μ pc L (v :: st) := by
  obtain ⟨hd, rfl⟩ := hd
  intro p e s m args below meth c H locs ls X R hf hlc hl
  exact lv_dup X.1 X.2.1 hd hc (h p e s m args below meth c H locs ls X R hf hlc hl)
theorem v_dup2 {v w : Value} (hc : v.category = 1) (hc2 : w.category = 1) (hd : At cc pc .dup2 1 n) (h : V l G cc F P k S μ n L (v :: w :: v :: w :: st)) : V l G cc F P k S μ pc L (v :: w :: st) := by
  obtain ⟨hd, rfl⟩ := hd
  intro p e s m args below meth c H locs ls X R hf hlc hl
  exact lv_dup2_11 X.1 X.2.1 hd hc hc2 (h p e s m args below meth c H locs ls X R hf hlc hl)
theorem v_goto {off : Int} (t : Nat) (ht : (pc : Int) + off = (t : Int)) (hd : At cc pc (.goto off) 3 n) (h : V l G cc F P k S μ t L (st)) : V l G cc F P k S μ pc L (st) := by
  obtain ⟨hd, rfl⟩ := hd
  intro p e s m args below meth c H locs ls X R hf hlc hl
  exact lv_goto X.1 X.2.1 hd ht (h p e s m args below meth c H locs ls X R hf hlc hl)
theorem i32_lt {a b : Int} (ha : -2147483648 ≤ a ∧ a < 2147483648) (hb : -2147483648 ≤ b ∧ b < 2147483648) : Int32.ofInt a < Int32.ofInt b ↔ a < b := by rw [Int32.lt_iff_toInt_lt, i32_in ha, i32_in hb]
theorem i32_le {a b : Int} (ha : -2147483648 ≤ a ∧ a < 2147483648) (hb : -2147483648 ≤ b ∧ b < 2147483648) : Int32.ofInt a ≤ Int32.ofInt b ↔ a ≤ b := by rw [Int32.le_iff_toInt_le, i32_in ha, i32_in hb]
theorem i32_eq {a b : Int} (ha : -2147483648 ≤ a ∧ a < 2147483648) (hb : -2147483648 ≤ b ∧ b < 2147483648) : Int32.ofInt a = Int32.ofInt b ↔ a = b := by rw [← Int32.toInt_inj, i32_in ha, i32_in hb]
theorem i32_0 {a : Int} (ha : -2147483648 ≤ a ∧ a < 2147483648) : (Int32.ofInt a < 0 ↔ a < 0) ∧ (Int32.ofInt a ≤ 0 ↔ a ≤ 0) ∧ (Int32.ofInt a = 0 ↔ a = 0) ∧ (0 < Int32.ofInt a ↔ 0 < a) ∧ (0 ≤ Int32.ofInt a ↔ 0 ≤ a) :=
  ⟨i32_lt (b := 0) ha (by decide), i32_le (b := 0) ha (by decide), i32_eq (b := 0) ha (by decide), i32_lt (a := 0) (by decide) ha, i32_le (a := 0) (by decide) ha⟩
theorem v_icmp_lt {a b : Int} {off : Int} (t : Nat) (ht : (pc : Int) + off = (t : Int)) (hd : At cc pc (.if_icmp .lt off) 3 n) (ha : -2147483648 ≤ a ∧ a < 2147483648) (hb : -2147483648 ≤ b ∧ b < 2147483648) (kt : a < b → V l G cc F P k S μ t L (st)) (kf : ¬ a < b → V l G cc F P k S μ n L (st)) : V l G cc F P k S μ pc L (vi b :: vi a :: st) := by
  obtain ⟨hd, rfl⟩ := hd
  intro p e s m args below meth c H locs ls X R hf hlc hl
  exact lv_icmp_lt X.1 X.2.1 hd ht (fun q => (kt ((i32_lt ha hb).mp q)) _ _ _ _ _ _ _ _ _ _ _ X R hf hlc hl) (fun q => (kf (fun z => q ((i32_lt ha hb).mpr z))) _ _ _ _ _ _ _ _ _ _ _ X R hf hlc hl)
theorem v_icmp_ge {a b : Int} {off : Int} (t : Nat) (ht : (pc : Int) + off = (t : Int)) (hd : At cc pc (.if_icmp .ge off) 3 n) (ha : -2147483648 ≤ a ∧ a < 2147483648) (hb : -2147483648 ≤ b ∧ b < 2147483648) (kt : b ≤ a → V l G cc F P k S μ t L (st)) (kf : ¬ b ≤ a → V l G cc F P k S μ n L (st)) : V l G cc F P k S μ pc L (vi b :: vi a :: st) := by
  obtain ⟨hd, rfl⟩ := hd
  intro p e s m args below meth c H locs ls X R hf hlc hl
  exact lv_icmp_ge X.1 X.2.1 hd ht (fun q => (kt ((i32_le hb ha).mp q)) _ _ _ _ _ _ _ _ _ _ _ X R hf hlc hl) (fun q => (kf (fun z => q ((i32_le hb ha).mpr z))) _ _ _ _ _ _ _ _ _ _ _ X R hf hlc hl)
theorem v_icmp_gt {a b : Int} {off : Int} (t : Nat) (ht : (pc : Int) + off = (t : Int)) (hd : At cc pc (.if_icmp .gt off) 3 n) (ha : -2147483648 ≤ a ∧ a < 2147483648) (hb : -2147483648 ≤ b ∧ b < 2147483648) (kt : b < a → V l G cc F P k S μ t L (st)) (kf : ¬ b < a → V l G cc F P k S μ n L (st)) : V l G cc F P k S μ pc L (vi b :: vi a :: st) := by
  obtain ⟨hd, rfl⟩ := hd
  intro p e s m args below meth c H locs ls X R hf hlc hl
  exact lv_icmp_gt X.1 X.2.1 hd ht (fun q => (kt ((i32_lt hb ha).mp q)) _ _ _ _ _ _ _ _ _ _ _ X R hf hlc hl) (fun q => (kf (fun z => q ((i32_lt hb ha).mpr z))) _ _ _ _ _ _ _ _ _ _ _ X R hf hlc hl)
theorem v_icmp_le {a b : Int} {off : Int} (t : Nat) (ht : (pc : Int) + off = (t : Int)) (hd : At cc pc (.if_icmp .le off) 3 n) (ha : -2147483648 ≤ a ∧ a < 2147483648) (hb : -2147483648 ≤ b ∧ b < 2147483648) (kt : a ≤ b → V l G cc F P k S μ t L (st)) (kf : ¬ a ≤ b → V l G cc F P k S μ n L (st)) : V l G cc F P k S μ pc L (vi b :: vi a :: st) := by
  obtain ⟨hd, rfl⟩ := hd
  intro p e s m args below meth c H locs ls X R hf hlc hl
  exact lv_icmp_le X.1 X.2.1 hd ht (fun q => (kt ((i32_le ha hb).mp q)) _ _ _ _ _ _ _ _ _ _ _ X R hf hlc hl) (fun q => (kf (fun z => q ((i32_le ha hb).mpr z))) _ _ _ _ _ _ _ _ _ _ _ X R hf hlc hl)
theorem v_icmp_eq {a b : Int} {off : Int} (t : Nat) (ht : (pc : Int) + off = (t : Int)) (hd : At cc pc (.if_icmp .eq off) 3 n) (ha : -2147483648 ≤ a ∧ a < 2147483648) (hb : -2147483648 ≤ b ∧ b < 2147483648) (kt : a = b → V l G cc F P k S μ t L (st)) (kf : ¬ a = b → V l G cc F P k S μ n L (st)) : V l G cc F P k S μ pc L (vi b :: vi a :: st) := by
  obtain ⟨hd, rfl⟩ := hd
  intro p e s m args below meth c H locs ls X R hf hlc hl
  exact lv_icmp_eq X.1 X.2.1 hd ht (fun q => (kt ((i32_eq ha hb).mp q)) _ _ _ _ _ _ _ _ _ _ _ X R hf hlc hl) (fun q => (kf (fun z => q ((i32_eq ha hb).mpr z))) _ _ _ _ _ _ _ _ _ _ _ X R hf hlc hl)
theorem v_icmp_ne {a b : Int} {off : Int} (t : Nat) (ht : (pc : Int) + off = (t : Int)) (hd : At cc pc (.if_icmp .ne off) 3 n) (ha : -2147483648 ≤ a ∧ a < 2147483648) (hb : -2147483648 ≤ b ∧ b < 2147483648) (kt : ¬ a = b → V l G cc F P k S μ t L (st)) (kf : a = b → V l G cc F P k S μ n L (st)) : V l G cc F P k S μ pc L (vi b :: vi a :: st) := by
  obtain ⟨hd, rfl⟩ := hd
  intro p e s m args below meth c H locs ls X R hf hlc hl
  exact lv_icmp_ne X.1 X.2.1 hd ht (fun q => (kt (fun z => q ((i32_eq ha hb).mpr z))) _ _ _ _ _ _ _ _ _ _ _ X R hf hlc hl) (fun q => (kf ((i32_eq ha hb).mp q)) _ _ _ _ _ _ _ _ _ _ _ X R hf hlc hl)
theorem v_if_lt {a : Int} {off : Int} (t : Nat) (ht : (pc : Int) + off = (t : Int)) (hd : At cc pc (.ifCond .lt off) 3 n) (ha : -2147483648 ≤ a ∧ a < 2147483648) (kt : a < 0 → V l G cc F P k S μ t L (st)) (kf : ¬ a < 0 → V l G cc F P k S μ n L (st)) : V l G cc F P k S μ pc L (vi a :: st) := by
  obtain ⟨hd, rfl⟩ := hd
  intro p e s m args below meth c H locs ls X R hf hlc hl
  exact lv_if_lt X.1 X.2.1 hd ht (fun q => (kt (((i32_0 ha).1).mp q)) _ _ _ _ _ _ _ _ _ _ _ X R hf hlc hl) (fun q => (kf (fun z => q (((i32_0 ha).1).mpr z))) _ _ _ _ _ _ _ _ _ _ _ X R hf hlc hl)
theorem v_if_ge {a : Int} {off : Int} (t : Nat) (ht : (pc : Int) + off = (t : Int)) (hd : At cc pc (.ifCond .ge off) 3 n) (ha : -2147483648 ≤ a ∧ a < 2147483648) (kt : 0 ≤ a → V l G cc F P k S μ t L (st)) (kf : ¬ 0 ≤ a → V l G cc F P k S μ n L (st)) : V l G cc F P k S μ pc L (vi a :: st) := by
  obtain ⟨hd, rfl⟩ := hd
  intro p e s m args below meth c H locs ls X R hf hlc hl
  exact lv_if_ge X.1 X.2.1 hd ht (fun q => (kt (((i32_0 ha).2.2.2.2).mp q)) _ _ _ _ _ _ _ _ _ _ _ X R hf hlc hl) (fun q => (kf (fun z => q (((i32_0 ha).2.2.2.2).mpr z))) _ _ _ _ _ _ _ _ _ _ _ X R hf hlc hl)
theorem v_if_gt {a : Int} {off : Int} (t : Nat) (ht : (pc : Int) + off = (t : Int)) (hd : At cc pc (.ifCond .gt off) 3 n) (ha : -2147483648 ≤ a ∧ a < 2147483648) (kt : 0 < a → V l G cc F P k S μ t L (st)) (kf : ¬ 0 < a → V l G cc F P k S μ n L (st)) : V l G cc F P k S μ pc L (vi a :: st) := by
  obtain ⟨hd, rfl⟩ := hd
  intro p e s m args below meth c H locs ls X R hf hlc hl
  exact lv_if_gt X.1 X.2.1 hd ht (fun q => (kt (((i32_0 ha).2.2.2.1).mp q)) _ _ _ _ _ _ _ _ _ _ _ X R hf hlc hl) (fun q => (kf (fun z => q (((i32_0 ha).2.2.2.1).mpr z))) _ _ _ _ _ _ _ _ _ _ _ X R hf hlc hl)
theorem v_if_le {a : Int} {off : Int} (t : Nat) (ht : (pc : Int) + off = (t : Int)) (hd : At cc pc (.ifCond .le off) 3 n) (ha : -2147483648 ≤ a ∧ a < 2147483648) (kt : a ≤ 0 → V l G cc F P k S μ t L (st)) (kf : ¬ a ≤ 0 → V l G cc F P k S μ n L (st)) : V l G cc F P k S μ pc L (vi a :: st) := by
  obtain ⟨hd, rfl⟩ := hd
  intro p e s m args below meth c H locs ls X R hf hlc hl
  exact lv_if_le X.1 X.2.1 hd ht (fun q => (kt (((i32_0 ha).2.1).mp q)) _ _ _ _ _ _ _ _ _ _ _ X R hf hlc hl) (fun q => (kf (fun z => q (((i32_0 ha).2.1).mpr z))) _ _ _ _ _ _ _ _ _ _ _ X R hf hlc hl)
theorem v_if_eq {a : Int} {off : Int} (t : Nat) (ht : (pc : Int) + off = (t : Int)) (hd : At cc pc (.ifCond .eq off) 3 n) (ha : -2147483648 ≤ a ∧ a < 2147483648) (kt : a = 0 → V l G cc F P k S μ t L (st)) (kf : ¬ a = 0 → V l G cc F P k S μ n L (st)) : V l G cc F P k S μ pc L (vi a :: st) := by
  obtain ⟨hd, rfl⟩ := hd
  intro p e s m args below meth c H locs ls X R hf hlc hl
  exact lv_if_eq X.1 X.2.1 hd ht (fun q => (kt (((i32_0 ha).2.2.1).mp q)) _ _ _ _ _ _ _ _ _ _ _ X R hf hlc hl) (fun q => (kf (fun z => q (((i32_0 ha).2.2.1).mpr z))) _ _ _ _ _ _ _ _ _ _ _ X R hf hlc hl)
theorem v_if_ne {a : Int} {off : Int} (t : Nat) (ht : (pc : Int) + off = (t : Int)) (hd : At cc pc (.ifCond .ne off) 3 n) (ha : -2147483648 ≤ a ∧ a < 2147483648) (kt : ¬ a = 0 → V l G cc F P k S μ t L (st)) (kf : a = 0 → V l G cc F P k S μ n L (st)) : V l G cc F P k S μ pc L (vi a :: st) := by
  obtain ⟨hd, rfl⟩ := hd
  intro p e s m args below meth c H locs ls X R hf hlc hl
  exact lv_if_ne X.1 X.2.1 hd ht (fun q => (kt (fun z => q (((i32_0 ha).2.2.1).mpr z))) _ _ _ _ _ _ _ _ _ _ _ X R hf hlc hl) (fun q => (kf (((i32_0 ha).2.2.1).mp q)) _ _ _ _ _ _ _ _ _ _ _ X R hf hlc hl)
theorem v_ifnonnull {a : Nat} {off : Int} (t : Nat) (ht : (pc : Int) + off = (t : Int)) (hd : At cc pc (.ifnonnull off) 3 n) (h : V l G cc F P k S μ t L (st)) : V l G cc F P k S μ pc L (.ref a :: st) := by
  obtain ⟨hd, rfl⟩ := hd
  intro p e s m args below meth c H locs ls X R hf hlc hl
  exact lv_ifnonnull X.1 X.2.1 hd ht (h p e s m args below meth c H locs ls X R hf hlc hl)
theorem v_ifnonnullN {off : Int} (hd : At cc pc (.ifnonnull off) 3 n) (h : V l G cc F P k S μ n L (st)) : V l G cc F P k S μ pc L (.null :: st) := by
  obtain ⟨hd, rfl⟩ := hd
  intro p e s m args below meth c H locs ls X R hf hlc hl
  exact lv_ifnonnullN X.1 X.2.1 hd (h p e s m args below meth c H locs ls X R hf hlc hl)
theorem v_tableIn {a d lo hi off : Int} {offs : Array Int} {len : Nat} (t : Nat) (hd : At cc pc (.tableswitch d lo hi offs) len n) (ha : -2147483648 ≤ a ∧ a < 2147483648) (h1 : lo ≤ a) (h2 : a ≤ hi) (ho : offs[(a - lo).toNat]? = some off) (ht : (pc : Int) + off = (t : Int)) (h : V l G cc F P k S μ t L (st)) : V l G cc F P k S μ pc L (vi a :: st) := by
  obtain ⟨hd, rfl⟩ := hd
  intro p e s m args below meth c H locs ls X R hf hlc hl
  exact lv_tableIn (off := off) X.1 X.2.1 hd (by rw [i32_in ha]; omega) (by rw [i32_in ha]; omega) (by rw [i32_in ha]; exact ho) ht (h p e s m args below meth c H locs ls X R hf hlc hl)
theorem v_tableOut {a d lo hi : Int} {offs : Array Int} {len : Nat} (t : Nat) (hd : At cc pc (.tableswitch d lo hi offs) len n) (ha : -2147483648 ≤ a ∧ a < 2147483648) (h1 : a < lo ∨ hi < a) (ht : (pc : Int) + d = (t : Int)) (h : V l G cc F P k S μ t L (st)) : V l G cc F P k S μ pc L (vi a :: st) := by
  obtain ⟨hd, rfl⟩ := hd
  intro p e s m args below meth c H locs ls X R hf hlc hl
  exact lv_tableOut X.1 X.2.1 hd (by rw [i32_in ha]; exact h1) ht (h p e s m args below meth c H locs ls X R hf hlc hl)
theorem v_ireturn {a : Int} (hd : At cc pc .ireturn 1 n) (hr : F.2.2.1 = some .int) (hk : k.1 ≤ F.2.2.2.2.1 ∧ k.2 ≤ F.2.2.2.2.2) (h : P (some (vi a)) S μ) : V l G cc F P k S μ pc L [vi a] := by
  intro p e s m args below meth c H locs ls X R hf hlc hl
  refine W.widen hk.1 hk.2 ?_
  exact W.iret X.1 X.2.1 (X.2.2.2.1.trans hr) (fun t ht _ => ⟨_, S, μ, rfl, h, by rw [ht]; exact R, fun q hq => by rw [ht]; exact hf q hq⟩) hlc hd.1 (hlocks := X.2.2.2.2.2.1)
theorem v_zreturn {a : Int} (hd : At cc pc .ireturn 1 n) (hr : F.2.2.1 = some .boolean) (hk : k.1 ≤ F.2.2.2.2.1 ∧ k.2 ≤ F.2.2.2.2.2) (ha : a = 0 ∨ a = 1) (h : P (some (vi a)) S μ) : V l G cc F P k S μ pc L [vi a] := by
  intro p e s m args below meth c H locs ls X R hf hlc hl
  refine W.widen hk.1 hk.2 ?_
  exact W.zret X.1 X.2.1 (X.2.2.2.1.trans hr) (by rcases ha with rfl | rfl <;> rfl) (fun t ht _ => ⟨_, S, μ, rfl, h, by rw [ht]; exact R, fun q hq => by rw [ht]; exact hf q hq⟩) hlc hd.1 (hlocks := X.2.2.2.2.2.1)
theorem v_return (hd : At cc pc .return_ 1 n) (hr : F.2.2.1 = none) (hk : k.1 ≤ F.2.2.2.2.1 ∧ k.2 ≤ F.2.2.2.2.2) (h : P none S μ) : V l G cc F P k S μ pc L [] := by
  intro p e s m args below meth c H locs ls X R hf hlc hl
  refine W.widen hk.1 hk.2 ?_
  exact W.vret X.1 X.2.1 (X.2.2.2.1.trans hr) (fun t ht _ => ⟨_, S, μ, rfl, h, by rw [ht]; exact R, fun q hq => by rw [ht]; exact hf q hq⟩) hlc hd.1 (hlocks := X.2.2.2.2.2.1)
theorem v_areturn {a : Nat} {rt : FieldType} (hd : At cc pc .areturn 1 n) (hr : F.2.2.1 = some rt) (hrt : (∃ n, rt = .object n) ∨ ∃ t, rt = .array t) (hk : k.1 ≤ F.2.2.2.2.1 ∧ k.2 ≤ F.2.2.2.2.2) (h : P (some (.ref a)) S μ) : V l G cc F P k S μ pc L [.ref a] := by
  intro p e s m args below meth c H locs ls X R hf hlc hl
  refine W.widen hk.1 hk.2 ?_
  exact W.aret X.1 X.2.1 (X.2.2.2.1.trans hr) hrt (Or.inr ⟨a, rfl⟩) (fun t ht _ => ⟨_, S, μ, rfl, h, by rw [ht]; exact R, fun q hq => by rw [ht]; exact hf q hq⟩) hlc hd.1 (hlocks := X.2.2.2.2.2.1)
end R1
end
section
/-! rows of the kit of whole numbers that read and write cells, and calls -/
theorem upd2_same {μ : Mu} {a : Nat} {z x : Int} : upd2 μ a z x a z = x := by simp [upd2]
theorem upd2_row {μ : Mu} {a q : Nat} {z x : Int} (h : q ≠ a) : upd2 μ a z x q = μ q := by funext i; simp [upd2, h]
theorem cvl_upd {rf : Nat → Option (Option Nat)} {μ : Mu} {a j : Nat} {x : Int} (hj : rf j = none) (i : Nat) : updV (cvl rf (μ a)) j (vi x) i = cvl rf (upd2 μ a (j : Int) x a) i := by
  by_cases h : i = j
  · subst h
    simp [updV, cvl, hj, upd2]
  · have h2 : ¬ (i : Int) = (j : Int) := by omega
    simp [updV, cvl, upd2, h, h2]
theorem cvl_rput {sh : Shp} {g : Int → Int} {j : Nat} {r : Option Nat} (i : Nat) : updV (cvl sh.2.2 g) j (va_rf r) i = cvl (rput sh j r).2.2 g i := by
  by_cases h : i = j
  · subst h
    simp [updV, cvl, rput]
  · simp [updV, cvl, rput, h]
theorem Rep.upd {G : Glb} {S : Sh} {μ : Mu} {H H1 : Heap} {a j : Nat} {x : Int} {sh : Shp} (h : Rep G S μ H) (ha : S.2 a = some sh) (z : H1.size = H.size) (oq : ∀ q, q ≠ a → H1[q]? = H[q]?) (hc : celA G a sh (upd2 μ a (j : Int) x a) H1) : Rep G S (upd2 μ a (j : Int) x) H1 := by
  refine ⟨by rw [z]; exact h.1, h.2.1, fun q s hq => ?_⟩
  by_cases e : q = a
  · subst e
    rw [ha] at hq
    cases hq
    exact ⟨(h.2.2 q sh ha).1, hc⟩
  · rw [upd2_row e]
    exact ⟨(h.2.2 q s hq).1, (h.2.2 q s hq).2.kept (oq q e)⟩
theorem Rep.rupd {G : Glb} {S : Sh} {μ : Mu} {H H1 : Heap} {a : Nat} {sh sh' : Shp} (h : Rep G S μ H) (ha : S.2 a = some sh) (z : H1.size = H.size) (oq : ∀ q, q ≠ a → H1[q]? = H[q]?) (hc : celA G a sh' (μ a) H1) : Rep G (sput S a sh') μ H1 := by
  refine ⟨by rw [z]; exact h.1, h.2.1, fun q s hq => ?_⟩
  by_cases e : q = a
  · subst e
    simp only [sput, if_true] at hq
    cases hq
    exact ⟨(h.2.2 q sh ha).1, hc⟩
  · simp only [sput, if_neg e] at hq
    exact ⟨(h.2.2 q s hq).1, (h.2.2 q s hq).2.kept (oq q e)⟩
theorem Rep.new {G : Glb} {S : Sh} {μ : Mu} {H H1 : Heap} {sh : Shp} (h : Rep G S μ H) (z : H1.size = S.1 + 1) (oq : ∀ q, q < S.1 → H1[q]? = H[q]?) (hc : celA G S.1 sh (fun _ => 0) H1) : Rep G (snew S sh) (mnew S μ) H1 := by
  refine ⟨z, Nat.le_succ_of_le h.2.1, fun q s hq => ?_⟩
  by_cases e : q = S.1
  · subst e
    simp only [snew, if_true] at hq
    cases hq
    simp only [mnew, if_true]
    exact ⟨h.2.1, hc⟩
  · simp only [snew, if_neg e] at hq
    have hq2 := h.2.2 q s hq
    have hlt : q < S.1 := by rw [← h.1]; exact hq2.2.lt
    simp only [mnew, if_neg e]
    exact ⟨hq2.1, hq2.2.kept (oq q hlt)⟩
/-- a field: link, class and place -/
def Fl (o : String) (idx ci k : Nat) : Prop := ∃ r : vw_C, vwCl[ci]? = some r ∧ k < r.2.2 ∧ (Cond.fieldLink o idx (r.2.1 k).1 (r.2.1 k).2.1 (r.2.1 k).2.2.1 ∈ TBL ∨ ∃ h, Cond.fieldLinkNest o idx (r.2.1 k).1 (r.2.1 k).2.1 (r.2.1 k).2.2.1 h ∈ NST)
def FlO (o : String) (idx ci k : Nat) : Prop := ∃ r : vw_C, vwCl[ci]? = some r ∧ k < r.2.2 ∧ Cond.fieldLink o idx (r.2.1 k).1 (r.2.1 k).2.1 (r.2.1 k).2.2.1 ∈ TBL
theorem FlO.fl {o : String} {idx ci k : Nat} (h : FlO o idx ci k) : Fl o idx ci k := by
  obtain ⟨r, h1, h2, h3⟩ := h
  exact ⟨r, h1, h2, Or.inl h3⟩
/-- the classes: words, types, names -/
theorem cl_ok {ci : Nat} {r : vw_C} (h : vwCl[ci]? = some r) : (∀ w ∈ u_ws r.1 r.2.1 r.2.2, w ∈ TBL) ∧ (∃ ty : Nat → FieldType, ∀ k, k < r.2.2 → parseFieldDescriptor (r.2.1 k).2.2.1 = some (ty k)) ∧ (∀ a, a < r.2.2 → ∀ b, b < r.2.2 → a ≠ b → (r.2.1 a).2.1 ≠ (r.2.1 b).2.1) := by
  have hl := vwCl_lt h
  match ci, hl, h with
  | 0, _, h => cases h; exact ⟨inX0, ⟨_, tyX0_ok⟩, nmX0⟩
  | 1, _, h => cases h; exact ⟨inX1, ⟨_, tyX1_ok⟩, nmX1⟩
  | 2, _, h => cases h; exact ⟨inX2, ⟨_, tyX2_ok⟩, nmX2⟩
  | 3, _, h => cases h; exact ⟨inX3, ⟨_, tyX3_ok⟩, nmX3⟩
  | 4, _, h => cases h; exact ⟨inX4, ⟨_, tyX4_ok⟩, nmX4⟩
  | 5, _, h => cases h; exact ⟨inX5, ⟨_, tyX5_ok⟩, nmX5⟩
  | 6, _, h => cases h; exact ⟨inX6, ⟨_, tyX6_ok⟩, nmX6⟩
  | 7, _, h => cases h; exact ⟨inX7, ⟨_, tyX7_ok⟩, nmX7⟩
  | 8, _, h => cases h; exact ⟨inX8, ⟨_, tyX8_ok⟩, nmX8⟩
  | n + 9, hl, _ => omega
/-- a cell as the kit's world of one -/
theorem one_P {G : Glb} {q : Nat} {ci : Nat} {rf : Nat → Option (Option Nat)} {g : Int → Int} {H : Heap} {r : vw_C} (hr : vwCl[ci]? = some r) (h : t_OB q (G.1.1 ci) r.2.2 (G.1.2 ci) H (cvl rf g)) : va_P G.1 vwCl [(q, .inr (ci, (List.range r.2.2).map (cvl rf g)))] H := by
  intro k x hx
  have hz : k < 1 := (List.getElem?_eq_some_iff.mp hx).1
  rw [show k = 0 by omega] at hx
  cases hx
  exact ⟨r, hr, h.to fun j hj => by simp [vp_V, hj]⟩
theorem one_v {N k : Nat} {f : Nat → Value} (h : k < N) : ((List.range N).map f)[k]? = some (f k) := by simp [h]
section R2
variable {l : Launch} {G : Glb} {cc : ByteArray} {F : Frm} {P : Pst} {k : Nat × Nat} {S : Sh} {μ : Mu} {pc n : Nat} {L st : List Value}
theorem v_get {a idx ci f : Nat} {sh : Shp} (hd : At cc pc (.getfield idx) 3 n) (hF : Fl F.1.cls idx ci f) (hS : S.2 a = some sh) (hk : sh.1 = ci) (h : V l G cc F P k S μ n L (cvl sh.2.2 (μ a) f :: st)) : V l G cc F P k S μ pc L (.ref a :: st) := by
  obtain ⟨hd, rfl⟩ := hd
  obtain ⟨r, hr, hlt, hw⟩ := hF
  intro p e s m args below meth c H locs ls X R hf hlc hl
  obtain ⟨hx, hb, -, -, hown, -, -, hts, hK, -⟩ := id X
  have ho := ((R.2.2 a sh hS).2).obj hk hr
  have hP := one_P hr ho
  have hK' : va_K G.1 vwCl [] s := ⟨hK.1, fun k q h => by simp at h⟩
  have hv := one_v (f := cvl sh.2.2 (μ a)) hlt
  rcases hw with hw | ⟨ho, hw⟩
  · exact va_get hx hb hts (cl_ok hr).1 hown hK' hP 0 rfl hr f hlt (hts _ hw) (fun _ h => h) hv hd (h _ _ _ _ _ _ _ _ _ _ _ X R hf hlc hl)
  · exact va_getN hx hb hts (cl_ok hr).1 hown hK' hP 0 rfl hr f hlt (va_Nw.use rfl (hK.2.2 _ hw)) (fun _ h => h) hv hd (h _ _ _ _ _ _ _ _ _ _ _ X R hf hlc hl)
theorem v_geti {a idx ci f : Nat} {sh : Shp} (hd : At cc pc (.getfield idx) 3 n) (hF : Fl F.1.cls idx ci f) (hS : S.2 a = some sh) (hk : sh.1 = ci) (hi : sh.2.2 f = none) (h : V l G cc F P k S μ n L (vi (μ a (f : Int)) :: st)) : V l G cc F P k S μ pc L (.ref a :: st) :=
  v_get hd hF hS hk (by rw [cvl_i hi]; exact h)
theorem v_getr {a idx ci f q : Nat} {sh : Shp} (hd : At cc pc (.getfield idx) 3 n) (hF : Fl F.1.cls idx ci f) (hS : S.2 a = some sh) (hk : sh.1 = ci) (hi : sh.2.2 f = some (some q)) (h : V l G cc F P k S μ n L (.ref q :: st)) : V l G cc F P k S μ pc L (.ref a :: st) :=
  v_get hd hF hS hk (by rw [cvl_r hi]; exact h)
/-- the value may be stored in the field -/
def Ok (ci f : Nat) (v : Value) : Prop := ∃ (r : vw_C) (ty : FieldType), vwCl[ci]? = some r ∧ parseFieldDescriptor (r.2.1 f).2.2.1 = some ty ∧ narrow ty v = v ∧ fits ty v = true
def Nf (ci f : Nat) : Prop := ∃ r : vw_C, vwCl[ci]? = some r ∧ (r.2.1 f).2.2.2 = false
def Fin (o : String) (ci f : Nat) : Prop := ∃ r : vw_C, vwCl[ci]? = some r ∧ (r.2.1 f).2.2.2 = true ∧ (r.2.1 f).1 = o
theorem v_put0 {a idx ci f : Nat} {sh : Shp} {v : Value} (hd : At cc pc (.putfield idx) 3 n) (hF : Fl F.1.cls idx ci f) (hN : Nf ci f) (hO : Ok ci f v) (hS : S.2 a = some sh) (hk : sh.1 = ci)
    {S' : Sh} {μ' : Mu} (hR : ∀ H H1 : Heap, Rep G S μ H → H1.size = H.size → (∀ q, q ≠ a → H1[q]? = H[q]?) → (∃ r : vw_C, vwCl[ci]? = some r ∧ t_OB a (G.1.1 ci) r.2.2 (G.1.2 ci) H1 (updV (cvl sh.2.2 (μ a)) f v)) → Rep G S' μ' H1) (h : V l G cc F P k S' μ' n L st) : V l G cc F P k S μ pc L (v :: .ref a :: st) := by
  obtain ⟨hd, rfl⟩ := hd
  obtain ⟨r, hr, hlt, hw⟩ := hF
  obtain ⟨r2, hr2, hfin⟩ := hN
  cases Option.some.inj (hr.symm.trans hr2)
  obtain ⟨r3, ty, hr3, hty, hn, hfit⟩ := hO
  cases Option.some.inj (hr.symm.trans hr3)
  intro p e s m args below meth c H locs ls X R hf hlc hl
  obtain ⟨hx, hb, -, -, hown, -, -, hts, hK, -⟩ := id X
  obtain ⟨hin, ⟨ty0, hty0⟩, hnm⟩ := cl_ok hr
  have hK' : va_K G.1 vwCl [] s := ⟨hK.1, fun k q h => by simp at h⟩
  have hap := va_apart (own := r.1) hts hin ty0 hty0 hnm hK' hr
  obtain ⟨cell, q1, q2, q3, q4⟩ := ((R.2.2 a sh hS).2).obj hk hr
  obtain ⟨hSl, hfc, kC, hkC, hkind⟩ := hK.1 ci _ hr
  obtain ⟨cf, kf, fi, fd, hi, hsl⟩ := hSl f hlt
  have hlay := hts _ (hin _ (u_in_lay hlt))
  unfold u_lay at hlay
  rw [if_neg (by rw [hfin]; decide)] at hlay
  have hst := (u_facts hfc hkC (u_lays hts hin hlt) hi).1
  have h6 := u_store hfc hkC hkind hlay hi hty hn hfit
  have fin : ∀ H' : Heap, H'[a]? = some (cell.setSlot fd.slot v) → H'.size = H.size → (∀ q, q ≠ a → H'[q]? = H[q]?) → W p l e (rmo F.2.2.2.1 F.2.2.2.2.1 F.2.2.2.2.2) s m args below meth c H' (locs ++ [⟨a, fd.slot⟩]) k.1 k.2 (MQ below (VQ G P) args s F.2.2.2.2.1 F.2.2.2.2.2 (fun q => G.2.2.1 ≤ q)) (F0 m (pc + 3) ls st) := by
    intro H' e1 e2 e3
    rw [hsl] at e1
    have hba := (R.2.2 a sh hS).1
    refine h _ _ _ _ _ _ _ _ H' _ _ X (hR H H' R e2 e3 ⟨r, hr, _, e1, q2, q3, t_set q4 hap hlt v⟩) (fun q hq => (e3 q (Nat.ne_of_lt (Nat.lt_of_lt_of_le hq hba))).trans (hf q hq)) (fun x hx => ?_) hl
    rcases List.mem_append.mp hx with hx | hx
    · exact hlc x hx
    · rw [List.mem_singleton.mp hx]; exact hba
  rcases hw with hw | ⟨ho, hw⟩
  · exact W.putK hx hb (f := fd) ⟨hown, hts _ hw, ⟨_, _, _, hi⟩, hst⟩ (by rw [q2]; exact h6) q1 q3 (by rw [hsl]; exact k2_hasslot (q4 f hlt)) rfl rfl hd fin
  · exact va_WputK hx hb (f := fd) hown (va_Nw.use rfl (hK.2.2 _ hw)) hi hst (by rw [q2]; exact h6) q1 q3 (by rw [hsl]; exact k2_hasslot (q4 f hlt)) rfl rfl hd fin
theorem v_putF0 {a idx ci f : Nat} {sh : Shp} {v : Value} (hd : At cc pc (.putfield idx) 3 n) (hF : FlO F.1.cls idx ci f) (hN : Fin F.1.cls ci f) (hO : Ok ci f v) (hin2 : F.1.name = "<init>") (hS : S.2 a = some sh) (hk : sh.1 = ci)
    {S' : Sh} {μ' : Mu} (hR : ∀ H H1 : Heap, Rep G S μ H → H1.size = H.size → (∀ q, q ≠ a → H1[q]? = H[q]?) → (∃ r : vw_C, vwCl[ci]? = some r ∧ t_OB a (G.1.1 ci) r.2.2 (G.1.2 ci) H1 (updV (cvl sh.2.2 (μ a)) f v)) → Rep G S' μ' H1) (h : V l G cc F P k S' μ' n L st) : V l G cc F P k S μ pc L (v :: .ref a :: st) := by
  obtain ⟨hd, rfl⟩ := hd
  obtain ⟨r, hr, hlt, hw⟩ := hF
  obtain ⟨r2, hr2, hfin, hdecl⟩ := hN
  cases Option.some.inj (hr.symm.trans hr2)
  obtain ⟨r3, ty, hr3, hty, hn, hfit⟩ := hO
  cases Option.some.inj (hr.symm.trans hr3)
  intro p e s m args below meth c H locs ls X R hf hlc hl
  obtain ⟨hx, hb, -, -, hown, -, hname, hts, hK, -⟩ := id X
  obtain ⟨hin, ⟨ty0, hty0⟩, hnm⟩ := cl_ok hr
  have hK' : va_K G.1 vwCl [] s := ⟨hK.1, fun k q h => by simp at h⟩
  have hap := va_apart (own := r.1) hts hin ty0 hty0 hnm hK' hr
  obtain ⟨cell, q1, q2, q3, q4⟩ := ((R.2.2 a sh hS).2).obj hk hr
  obtain ⟨hSl, hfc, kC, hkC, hkind⟩ := hK.1 ci _ hr
  obtain ⟨cf, kf, fi, fd, hi, hsl⟩ := hSl f hlt
  have hlay := hts _ (hin _ (u_in_lay hlt))
  unfold u_lay at hlay
  rw [if_pos hfin] at hlay
  have hst := (u_facts hfc hkC (u_lays hts hin hlt) hi).1
  have hcf : m.cls = cf := by
    obtain ⟨_, _, c', _, _, _, -, -, hf', -, -, -, hown2, -⟩ := Cond.laysFinal_spec hlay
    have e1 : c' = cf := by have := hi.symm.trans hf'; simp at this; exact this.1.symm
    rw [hdecl] at hown2
    rw [← e1]; exact Option.some.inj (hown.symm.trans hown2)
  have h6 := u_fits hfc hkC hkind (Or.inr hlay) hi hty hn hfit
  · refine W.putFinK hx hb hown (hts _ hw) hi hst hcf (hname.trans hin2) (by rw [q2]; exact h6) q1 q3 (by rw [hsl]; exact k2_hasslot (q4 f hlt)) rfl rfl hd fun H' e1 e2 e3 => ?_
    rw [hsl] at e1 ⊢
    have hba := (R.2.2 a sh hS).1
    refine h _ _ _ _ _ _ _ _ H' _ _ X (hR H H' R e2 e3 ⟨r, hr, _, e1, q2, q3, t_set q4 hap hlt v⟩) (fun q hq => (e3 q (Nat.ne_of_lt (Nat.lt_of_lt_of_le hq hba))).trans (hf q hq)) (fun x hx => ?_) hl
    rcases List.mem_append.mp hx with hx | hx
    · exact hlc x hx
    · rw [List.mem_singleton.mp hx]; exact hba
theorem rep_i {S : Sh} {μ : Mu} {a ci f : Nat} {sh : Shp} {x : Int} (hS : S.2 a = some sh) (hk : sh.1 = ci) (hi : sh.2.2 f = none) : ∀ H H1 : Heap, Rep G S μ H → H1.size = H.size → (∀ q, q ≠ a → H1[q]? = H[q]?) → (∃ r : vw_C, vwCl[ci]? = some r ∧ t_OB a (G.1.1 ci) r.2.2 (G.1.2 ci) H1 (updV (cvl sh.2.2 (μ a)) f (vi x))) → Rep G S (upd2 μ a (f : Int) x) H1 := by
  subst hk
  rintro H H1 R e2 e3 ⟨r, hr, ho⟩
  exact R.upd hS e2 e3 (Or.inl ⟨r, hr, ho.to fun j _ => cvl_upd hi j⟩)
theorem rep_r {S : Sh} {μ : Mu} {a ci f : Nat} {sh : Shp} {x : Option Nat} (hS : S.2 a = some sh) (hk : sh.1 = ci) : ∀ H H1 : Heap, Rep G S μ H → H1.size = H.size → (∀ q, q ≠ a → H1[q]? = H[q]?) → (∃ r : vw_C, vwCl[ci]? = some r ∧ t_OB a (G.1.1 ci) r.2.2 (G.1.2 ci) H1 (updV (cvl sh.2.2 (μ a)) f (va_rf x))) → Rep G (sput S a (rput sh f x)) μ H1 := by
  subst hk
  rintro H H1 R e2 e3 ⟨r, hr, ho⟩
  exact R.rupd hS e2 e3 (Or.inl ⟨r, hr, ho.to fun j _ => cvl_rput j⟩)
/-- a number into a field -/
theorem v_put {a idx ci f : Nat} {sh : Shp} {x : Int} (hd : At cc pc (.putfield idx) 3 n) (hF : Fl F.1.cls idx ci f) (hN : Nf ci f) (hO : Ok ci f (vi x)) (hS : S.2 a = some sh) (hk : sh.1 = ci) (hi : sh.2.2 f = none) (h : V l G cc F P k S (upd2 μ a (f : Int) x) n L st) : V l G cc F P k S μ pc L (vi x :: .ref a :: st) :=
  v_put0 hd hF hN hO hS hk (rep_i hS hk hi) h
theorem v_putF {a idx ci f : Nat} {sh : Shp} {x : Int} (hd : At cc pc (.putfield idx) 3 n) (hF : FlO F.1.cls idx ci f) (hN : Fin F.1.cls ci f) (hO : Ok ci f (vi x)) (hin2 : F.1.name = "<init>") (hS : S.2 a = some sh) (hk : sh.1 = ci) (hi : sh.2.2 f = none) (h : V l G cc F P k S (upd2 μ a (f : Int) x) n L st) : V l G cc F P k S μ pc L (vi x :: .ref a :: st) :=
  v_putF0 hd hF hN hO hin2 hS hk (rep_i hS hk hi) h
theorem v_putFr {a q idx ci f : Nat} {sh : Shp} (hd : At cc pc (.putfield idx) 3 n) (hF : FlO F.1.cls idx ci f) (hN : Fin F.1.cls ci f) (hO : Ok ci f (.ref q)) (hin2 : F.1.name = "<init>") (hS : S.2 a = some sh) (hk : sh.1 = ci) (h : V l G cc F P k (sput S a (rput sh f (some q))) μ n L st) : V l G cc F P k S μ pc L (.ref q :: .ref a :: st) :=
  v_putF0 hd hF hN hO hin2 hS hk (rep_r (x := some q) hS hk) h
end R2
end
section
/-! rows of the kit of whole numbers: arrays, new cells -/
def aI (N : Nat) : Shp := (100, N, fun _ => none)
def aZ (N : Nat) : Shp := (101, N, fun _ => none)
def aR (k N : Nat) (r : Nat → Option Nat) : Shp := (k, N, fun j => some (r j))
def oS (ci : Nat) (l : List (Option (Option Nat))) : Shp := (ci, l.length, fun j => l.getD j none)
theorem oS_rput {ci k : Nat} {l : List (Option (Option Nat))} {r : Option Nat} (h : k < l.length) : rput (oS ci l) k r = oS ci (l.set k (some r)) := by
  unfold rput oS
  simp only [List.length_set]
  refine congrArg (fun x => (ci, l.length, x)) (funext fun j => ?_)
  by_cases e : j = k
  · subst e
    simp [List.getD_eq_getElem?_getD, h]
  · have e2 : k ≠ j := fun q => e q.symm
    simp [List.getD_eq_getElem?_getD, e, List.getElem?_set, e2]
theorem aR_rput {k N i : Nat} {r : Nat → Option Nat} {v : Option Nat} : rput (aR k N r) i v = aR k N (fun j => if j = i then v else r j) := by
  unfold rput aR
  refine congrArg (fun x => (k, N, x)) (funext fun j => ?_)
  by_cases e : j = i <;> simp [e]
theorem clamp_in {z : Int} (h : 0 ≤ z ∧ z < 2147483648) : (Int32.ofInt z).toNatClampNeg = z.toNat := by
  show (Int32.ofInt z).toInt.toNat = z.toNat
  rw [i32_in (by omega)]
theorem in_ix {z : Int} {N : Nat} (hz : 0 ≤ z ∧ z < (N : Int)) (hN : N ≤ 65536) : ¬ (Int32.ofInt z < 0 ∨ N ≤ (Int32.ofInt z).toNatClampNeg) := by
  rw [clamp_in (by omega), (i32_0 (by omega)).1]
  omega
section R3
variable {l : Launch} {G : Glb} {cc : ByteArray} {F : Frm} {P : Pst} {k : Nat × Nat} {S : Sh} {μ : Mu} {pc n : Nat} {L st : List Value}
theorem v_iald {a N : Nat} {z : Int} (hd : At cc pc .iaload 1 n) (hS : S.2 a = some (aI N)) (hz : 0 ≤ z ∧ z < (N : Int)) (hN : N ≤ 65536) (h : V l G cc F P k S μ n L (vi (μ a z) :: st)) : V l G cc F P k S μ pc L (vi z :: .ref a :: st) := by
  obtain ⟨hd, rfl⟩ := hd
  intro p e s m args below meth c H locs ls X R hf hlc hl
  obtain ⟨hx, hb, -, -, hown, -, -, hts, hK, -⟩ := id X
  have hc := ((R.2.2 a _ hS).2).arr (k := 100) (ty := .int) rfl rfl
  refine W.iald (v := vi (μ a z)) hx hb hc ((hK.2.1 100 .int rfl).1 _ _) (fun q => by cases q) (by rw [arrV_size]; exact in_ix hz hN) ?_ rfl rfl hd (h _ _ _ _ _ _ _ _ _ _ _ X R hf hlc hl)
  rw [clamp_in (by omega)]
  exact (arrV_read _ _ (show z.toNat < N by omega)).trans (congrArg some ((cvl_i rfl).trans (by rw [show ((z.toNat : Nat) : Int) = z by omega])))
theorem v_zald {a N : Nat} {z : Int} (hd : At cc pc .baload 1 n) (hS : S.2 a = some (aZ N)) (hz : 0 ≤ z ∧ z < (N : Int)) (hN : N ≤ 65536) (h : V l G cc F P k S μ n L (vi (μ a z) :: st)) : V l G cc F P k S μ pc L (vi z :: .ref a :: st) := by
  obtain ⟨hd, rfl⟩ := hd
  intro p e s m args below meth c H locs ls X R hf hlc hl
  obtain ⟨hx, hb, -, -, hown, -, -, hts, hK, -⟩ := id X
  have hc := ((R.2.2 a _ hS).2).arr (k := 101) (ty := .boolean) rfl rfl
  refine W.zald (v := vi (μ a z)) hx hb hc ((hK.2.1 101 .boolean rfl).1 _ _) (fun q => by cases q) (by rw [arrV_size]; exact in_ix hz hN) ?_ rfl rfl hd (h _ _ _ _ _ _ _ _ _ _ _ X R hf hlc hl)
  rw [clamp_in (by omega)]
  exact (arrV_read _ _ (show z.toNat < N by omega)).trans (congrArg some ((cvl_i rfl).trans (by rw [show ((z.toNat : Nat) : Int) = z by omega])))
theorem v_aald {a kk N : Nat} {rf : Nat → Option Nat} {z : Int} {ty : FieldType} (hk : kTy kk = some ty) (hr : ty.isReference = true) (hd : At cc pc .aaload 1 n) (hS : S.2 a = some (aR kk N rf)) (hz : 0 ≤ z ∧ z < (N : Int)) (hN : N ≤ 65536) (h : V l G cc F P k S μ n L (va_rf (rf z.toNat) :: st)) : V l G cc F P k S μ pc L (vi z :: .ref a :: st) := by
  obtain ⟨hd, rfl⟩ := hd
  intro p e s m args below meth c H locs ls X R hf hlc hl
  obtain ⟨hx, hb, -, -, hown, -, -, hts, hK, -⟩ := id X
  have hc := ((R.2.2 a _ hS).2).arr rfl hk
  refine W.aald (v := va_rf (rf z.toNat)) hx hb hc ((hK.2.1 kk ty hk).1 _ _) hr (fun q => by cases q) (by rw [arrV_size]; exact in_ix hz hN) ?_ rfl rfl hd (h _ _ _ _ _ _ _ _ _ _ _ X R hf hlc hl)
  rw [clamp_in (by omega)]
  exact (arrV_read _ _ (show z.toNat < N by omega)).trans (congrArg some (cvl_r rfl))
theorem v_alen {a kk : Nat} {sh : Shp} {ty : FieldType} (hk : kTy kk = some ty) (hd : At cc pc .arraylength 1 n) (hS : S.2 a = some sh) (he : sh.1 = kk) (h : V l G cc F P k S μ n L (vi (sh.2.1 : Int) :: st)) : V l G cc F P k S μ pc L (.ref a :: st) := by
  obtain ⟨hd, rfl⟩ := hd
  intro p e s m args below meth c H locs ls X R hf hlc hl
  obtain ⟨hx, hb, -, -, hown, -, -, hts, hK, -⟩ := id X
  have hc := ((R.2.2 a _ hS).2).arr he hk
  exact W.alen (n := Int32.ofInt (sh.2.1 : Int)) hx hb hc ((hK.2.1 kk ty hk).1 _ _) (by rw [arrV_size]; rfl) rfl rfl hd (h _ _ _ _ _ _ _ _ _ _ _ X R hf hlc hl)
theorem v_st (a : Nat) {H H1 : Heap} {s : State} {G : Glb} {locs : List Loc} {j : Nat} (hba : G.2.2.1 ≤ a) (e3 : ∀ q, q ≠ a → H1[q]? = H[q]?) (hf : ∀ q : Nat, q < G.2.2.1 → H[q]? = s.heap[q]?) (hlc : ∀ x ∈ locs, G.2.2.1 ≤ x.base) : (∀ q : Nat, q < G.2.2.1 → H1[q]? = s.heap[q]?) ∧ ∀ x ∈ locs ++ [(⟨a, j⟩ : Loc)], G.2.2.1 ≤ x.base := by
  refine ⟨fun q hq => (e3 q (Nat.ne_of_lt (Nat.lt_of_lt_of_le hq hba))).trans (hf q hq), fun x hx => ?_⟩
  rcases List.mem_append.mp hx with hx | hx
  · exact hlc x hx
  · rw [List.mem_singleton.mp hx]; exact hba
theorem v_iast {a N : Nat} {z x : Int} (hd : At cc pc .iastore 1 n) (hS : S.2 a = some (aI N)) (hz : 0 ≤ z ∧ z < (N : Int)) (hN : N ≤ 65536) (h : V l G cc F P k S (upd2 μ a z x) n L st) : V l G cc F P k S μ pc L (vi x :: vi z :: .ref a :: st) := by
  obtain ⟨hd, rfl⟩ := hd
  intro p e s m args below meth c H locs ls X R hf hlc hl
  obtain ⟨hx, hb, -, -, hown, -, -, hts, hK, -⟩ := id X
  have hc := ((R.2.2 a _ hS).2).arr (k := 100) (ty := .int) rfl rfl
  refine W.iast hx hb hc ((hK.2.1 100 .int rfl).1 _ _) (fun q => by cases q) (by rw [arrV_size]; exact in_ix hz hN) rfl rfl hd fun H1 e1 e2 e3 => ?_
  have hv := v_st a (j := (Int32.ofInt z).toNatClampNeg) (R.2.2 a _ hS).1 e3 hf hlc
  refine h _ _ _ _ _ _ _ _ H1 _ _ X ?_ hv.1 hv.2 hl
  rw [clamp_in (by omega)] at e1
  have ez : ((z.toNat : Nat) : Int) = z := by omega
  rw [← ez]
  refine R.upd hS e2 e3 (Or.inr ⟨⟨.int, rfl⟩, e1.trans ?_⟩)
  show some ((arrV _ _ _).setSlot _ (vi x)) = _
  rw [arrV_store]
  exact congrArg (fun f => some (arrV (G.2.1 100) N f)) (funext fun i => cvl_upd rfl i)
theorem v_zast {a N : Nat} {z x : Int} (hd : At cc pc .bastore 1 n) (hS : S.2 a = some (aZ N)) (hz : 0 ≤ z ∧ z < (N : Int)) (hN : N ≤ 65536) (hb01 : x = 0 ∨ x = 1) (h : V l G cc F P k S (upd2 μ a z x) n L st) : V l G cc F P k S μ pc L (vi x :: vi z :: .ref a :: st) := by
  obtain ⟨hd, rfl⟩ := hd
  intro p e s m args below meth c H locs ls X R hf hlc hl
  obtain ⟨hx, hb, -, -, hown, -, -, hts, hK, -⟩ := id X
  have hc := ((R.2.2 a _ hS).2).arr (k := 101) (ty := .boolean) rfl rfl
  refine W.zast hx hb hc ((hK.2.1 101 .boolean rfl).1 _ _) (fun q => by cases q) (by rw [arrV_size]; exact in_ix hz hN) rfl rfl hd fun H1 e1 e2 e3 => ?_
  have hv := v_st a (j := (Int32.ofInt z).toNatClampNeg) (R.2.2 a _ hS).1 e3 hf hlc
  refine h _ _ _ _ _ _ _ _ H1 _ _ X ?_ hv.1 hv.2 hl
  have hnar : narrow .boolean (.int (Int32.ofInt x)) = vi x := by rcases hb01 with rfl | rfl <;> rfl
  rw [clamp_in (by omega), hnar] at e1
  have ez : ((z.toNat : Nat) : Int) = z := by omega
  rw [← ez]
  refine R.upd hS e2 e3 (Or.inr ⟨⟨.boolean, rfl⟩, e1.trans ?_⟩)
  rw [arrV_store]
  exact congrArg (fun f => some (arrV (G.2.1 101) N f)) (funext fun i => cvl_upd rfl i)
theorem v_aast {a kk N v ci : Nat} {rf : Nat → Option Nat} {z : Int} {C : String} {shv : Shp} {r : vw_C} (hk : kTy kk = some (.object C)) (hr : vwCl[ci]? = some r) (hC : r.1 = C) (hd : At cc pc .aastore 1 n) (hS : S.2 a = some (aR kk N rf)) (hv : S.2 v = some shv) (hci : shv.1 = ci) (hz : 0 ≤ z ∧ z < (N : Int)) (hN : N ≤ 65536) (h : V l G cc F P k (sput S a (aR kk N (fun j => if j = z.toNat then some v else rf j))) μ n L st) : V l G cc F P k S μ pc L (.ref v :: vi z :: .ref a :: st) := by
  obtain ⟨hd, rfl⟩ := hd
  intro p e s m args below meth c H locs ls X R hf hlc hl
  obtain ⟨hx, hb, -, -, hown, -, -, hts, hK, -⟩ := id X
  have hc := ((R.2.2 a _ hS).2).arr rfl hk
  obtain ⟨cellV, g1, g2, g3, -⟩ := ((R.2.2 v _ hv).2).obj hci hr
  have hcls := (hK.1 ci r hr).2
  subst hC
  obtain ⟨kA, comp, k1, k2, k3, -⟩ := (hK.2.1 kk _ hk).2
  have hcomp : comp = G.1.1 ci := Option.some.inj (k3.symm.trans hcls.1)
  subst hcomp
  obtain ⟨kC, hkC, -⟩ := hcls.2
  have hin := in_ix hz hN
  refine W.aast hx hb hc (fun q h => by cases h) (fun h => by cases h) k1 k2 rfl hkC ⟨fun q => hin (Or.inl q), by rw [arrV_size]; exact Nat.not_le.mp fun q => hin (Or.inr q)⟩ g1 (fun q h => by rw [g3] at h; cases h) (by rw [g2]; exact hkC) (by rw [g2]; exact va_assign hcls) rfl rfl hd fun H1 e1 e2 e3 => ?_
  have hvv := v_st a (j := (Int32.ofInt z).toNatClampNeg) (R.2.2 a _ hS).1 e3 hf hlc
  refine h _ _ _ _ _ _ _ _ H1 _ _ X ?_ hvv.1 hvv.2 hl
  rw [clamp_in (by omega)] at e1
  rw [← aR_rput]
  refine R.rupd hS e2 e3 (Or.inr ⟨⟨_, hk⟩, e1.trans ?_⟩)
  rw [arrV_store]
  exact congrArg (fun f => some (arrV (G.2.1 kk) N f)) (funext fun i => cvl_rput (sh := aR kk N rf) (r := some v) i)
theorem v_fr {H H1 : Heap} {s : State} {G : Glb} {S : Sh} {μ : Mu} (R : Rep G S μ H) (o1 : ∀ q, q < S.1 → H1[q]? = H[q]?) (hf : ∀ q : Nat, q < G.2.2.1 → H[q]? = s.heap[q]?) : ∀ q : Nat, q < G.2.2.1 → H1[q]? = s.heap[q]? := fun q hq => (o1 q (Nat.lt_of_lt_of_le hq R.2.1)).trans (hf q hq)
theorem v_newI {z : Int} (hd : At cc pc (.newarray .int) 2 n) (hz : 0 ≤ z ∧ z ≤ 65536) (hm : k.1 + 1 ≤ F.2.2.2.2.1 ∧ k.2 + z.toNat ≤ F.2.2.2.2.2) (hw : Cond.arrayClass .int ∈ TBL) (h : V l G cc F P (k.1 + 1, k.2 + z.toNat) (snew S (aI z.toNat)) (mnew S μ) n L (.ref S.1 :: st)) : V l G cc F P k S μ pc L (vi z :: st) := by
  obtain ⟨hd, rfl⟩ := hd
  intro p e s m args below meth c H locs ls X R hf hlc hl
  obtain ⟨hx, hb, -, -, hown, -, -, hts, hK, -⟩ := id X
  refine va_newaK (atype := .int) (h := S.1) hx hb (hts _ hw) rfl hd rfl (by rw [(i32_0 (by omega)).1]; omega) (clamp_in (by omega)) (by show z.toNat * 4 ≤ _; omega) hm.1 hm.2 R.1 fun H1 cA e1 z1 o1 hAr hNm => ?_
  have hcA : cA = G.2.1 100 := Option.some.inj (hNm.symm.trans (hK.2.1 100 .int rfl).2)
  subst hcA
  exact h _ _ _ _ _ _ _ _ H1 _ _ X (R.new z1 o1 (Or.inr ⟨⟨.int, rfl⟩, e1⟩)) (v_fr R o1 hf) hlc hl
theorem v_newZ {z : Int} (hd : At cc pc (.newarray .boolean) 2 n) (hz : 0 ≤ z ∧ z ≤ 65536) (hm : k.1 + 1 ≤ F.2.2.2.2.1 ∧ k.2 + z.toNat ≤ F.2.2.2.2.2) (hw : Cond.arrayClass .boolean ∈ TBL) (h : V l G cc F P (k.1 + 1, k.2 + z.toNat) (snew S (aZ z.toNat)) (mnew S μ) n L (.ref S.1 :: st)) : V l G cc F P k S μ pc L (vi z :: st) := by
  obtain ⟨hd, rfl⟩ := hd
  intro p e s m args below meth c H locs ls X R hf hlc hl
  obtain ⟨hx, hb, -, -, hown, -, -, hts, hK, -⟩ := id X
  refine va_newaK (atype := .boolean) (h := S.1) hx hb (hts _ hw) rfl hd rfl (by rw [(i32_0 (by omega)).1]; omega) (clamp_in (by omega)) (by show z.toNat * 1 ≤ _; omega) hm.1 hm.2 R.1 fun H1 cA e1 z1 o1 hAr hNm => ?_
  have hcA : cA = G.2.1 101 := Option.some.inj (hNm.symm.trans (hK.2.1 101 .boolean rfl).2)
  subst hcA
  exact h _ _ _ _ _ _ _ _ H1 _ _ X (R.new z1 o1 (Or.inr ⟨⟨.boolean, rfl⟩, e1⟩)) (v_fr R o1 hf) hlc hl
theorem v_newR {z : Int} {kk idx : Nat} {C : String} (hd : At cc pc (.anewarray idx) 3 n) (hk : kTy kk = some (.object C)) (hz : 0 ≤ z ∧ z ≤ 65536) (hm : k.1 + 1 ≤ F.2.2.2.2.1 ∧ k.2 + z.toNat ≤ F.2.2.2.2.2) (hw : Cond.classLink F.1.cls idx C ∈ TBL) (hw2 : Cond.arrayOver (.object C) ∈ NST) (h : V l G cc F P (k.1 + 1, k.2 + z.toNat) (snew S (aR kk z.toNat (fun _ => none))) (mnew S μ) n L (.ref S.1 :: st)) : V l G cc F P k S μ pc L (vi z :: st) := by
  obtain ⟨hd, rfl⟩ := hd
  intro p e s m args below meth c H locs ls X R hf hlc hl
  obtain ⟨hx, hb, -, -, hown, -, -, hts, hK, -⟩ := id X
  refine W.anew hx hb hown (hts _ hw) (hK.2.2 _ hw2) rfl hd rfl (by rw [(i32_0 (by omega)).1]; omega) (by rw [clamp_in (by omega)]; omega) hm.1 (by rw [clamp_in (by omega)]; exact hm.2) fun cA kA comp f1 f2 f3 f4 => ?_
  rw [clamp_in (by omega)]
  obtain ⟨kA', comp', g1, g2, g3, g4⟩ := (hK.2.1 kk _ hk).2
  have hcA : cA = G.2.1 kk := Option.some.inj (f1.symm.trans g4)
  subst hcA
  generalize hH1 : H.push ({ cls := G.2.1 kk, slots := Array.replicate z.toNat .null, vm := .none } : Cell) = H1
  have z1 : H1.size = S.1 + 1 := by rw [← hH1, Array.size_push, R.1]
  have e1 : H1[S.1]? = some (arrV (G.2.1 kk) z.toNat (fun _ => .null)) := by rw [← R.1, ← hH1, Array.getElem?_push_size, ← arrV_new]
  have o1 : ∀ q : Nat, q < S.1 → H1[q]? = H[q]? := fun q hq => by rw [← hH1, Array.getElem?_push, if_neg (by rw [R.1]; exact Nat.ne_of_lt hq)]
  rw [R.1]
  exact h _ _ _ _ _ _ _ _ H1 _ _ X (R.new z1 o1 (Or.inr ⟨⟨_, hk⟩, e1⟩)) (v_fr R o1 hf) hlc hl
theorem v_new {idx ci : Nat} {r : vw_C} {sl : List (Option (Option Nat))} (hd : At cc pc (.new idx) 3 n) (hr : vwCl[ci]? = some r) (hN : sl.length = r.2.2) (hdf : ∀ j, j < r.2.2 → (parseFieldDescriptor (r.2.1 j).2.2.1).map defaultValue = some (cvl (oS ci sl).2.2 (fun _ => 0) j)) (hm : k.1 + 1 ≤ F.2.2.2.2.1 ∧ k.2 + r.2.2 ≤ F.2.2.2.2.2) (hw : Cond.classLink F.1.cls idx r.1 ∈ TBL) (hw2 : Cond.instantiable r.1 r.2.2 ∈ TBL) (hw3 : Cond.initialized r.1 ∈ TBL) (h : V l G cc F P (k.1 + 1, k.2 + r.2.2) (snew S (oS ci sl)) (mnew S μ) n L (.ref S.1 :: st)) : V l G cc F P k S μ pc L st := by
  obtain ⟨hd, rfl⟩ := hd
  intro p e s m args below meth c H locs ls X R hf hlc hl
  obtain ⟨hx, hb, -, -, hown, -, -, hts, hK, -⟩ := id X
  obtain ⟨hin, ⟨ty0, hty0⟩, hnm⟩ := cl_ok hr
  have hKn := hK.1 ci _ hr
  refine W.newcK (h := S.1) hx hb hown (hts _ hw) (hts _ hw2) (hts _ hw3) rfl hd hm.1 hm.2 hKn.2.1 R.1 fun H1 kC hkC e1 z1 o1 => ?_
  refine h _ _ _ _ _ _ _ _ H1 _ _ X (R.new z1 o1 (Or.inl ⟨r, hr, (u_born ty0 hts hin hKn hkC e1 hty0).to fun j hj => ?_⟩)) (v_fr R o1 hf) hlc hl
  have := hdf j hj
  rw [hty0 j hj] at this
  exact Option.some.inj this
theorem v_objInit {a idx : Nat} (hd : At cc pc (.invokespecial idx) 3 n) (hw : Cond.methodLink F.1.cls idx objectInit ∈ TBL) (hw2 : Cond.instanceMethod objectInit ∈ TBL) (hw3 : Cond.code objectInit ⟨#[0xb1]⟩ 1 none ∈ TBL) (hfr : 1 ≤ F.2.2.2.1) (hst : (st.map fun v => v.category).sum ≤ 8) (h : V l G cc F P k S μ n L st) : V l G cc F P k S μ pc L (.ref a :: st) := by
  obtain ⟨hd, rfl⟩ := hd
  intro p e s m args below meth c H locs ls X R hf hlc hl
  obtain ⟨hx, hb, hml, -, hown, -, -, hts, hK, -⟩ := id X
  exact W.objInit hx hb hown (hts _ hw) (hts _ hw2) (hts _ hw3) rfl (by rw [hml]; exact hl.1.1) rfl hd hfr (by show 2 * 0 + _ + 12 ≤ 60 * _; omega) (h _ _ _ _ _ _ _ _ _ _ _ X R hf hlc hl)
end R3
end
section
/-! rows of the kit of whole numbers: calls, the copy of arrays, the rows of rows, CODES -/
def Mt (y : MethodName) (cc : ByteArray) (mL : Nat) (rt : Option FieldType) (np : Nat) : Prop := Cond.code y cc mL rt ∈ TBL ∧ Cond.initialized y.cls ∈ TBL ∧ (y.cls ≠ "java/lang/invoke/MethodHandle" ∧ y.cls ≠ "java/lang/invoke/VarHandle") ∧ mL ≤ 20 ∧ (parseMethodDescriptor y.desc).map (fun d => d.parameters.length) = some np
def Mv (y : MethodName) : Prop := Cond.instanceMethod y ∈ TBL ∧ Cond.selects y.cls y y ∈ TBL
def Ln (o : String) (idx : Nat) (y : MethodName) : Prop := Cond.methodLink o idx y ∈ TBL ∨ ∃ h, Cond.methodLinkNest o idx y h ∈ NST
section R4
variable {l : Launch} {G : Glb} {cc : ByteArray} {F : Frm} {P : Pst} {k : Nat × Nat} {S : Sh} {μ : Mu} {pc n : Nat} {L st : List Value}
theorem pre_blind {args : List Value} : FrameBlind (va_Pc args (fun U => Rep G S μ U.heap ∧ Kn G U ∧ StO G U U.heap)) := fun a U g mk q => by
  obtain ⟨q0, q1, q2, q3⟩ := q
  exact ⟨q0, q1, Kn.calling q2, StO.moved (s := U) (U := U.calling g mk a) (Vm.Alike.refl U.vm) q3⟩
theorem pre_at {args : List Value} {s : State} {H : Heap} (R : Rep G S μ H) (hK : Kn G s) (hZ : StO G s s.heap) (hf : ∀ q : Nat, q < G.2.2.1 → H[q]? = s.heap[q]?) : ∀ U : State, U.heap = H → s.WarmedH U.vm → va_Pc args (fun U => Rep G S μ U.heap ∧ Kn G U ∧ StO G U U.heap) args.toArray U := fun U hU hW => ⟨rfl, by rw [hU]; exact R, Kn.moved hW hK, by rw [hU]; exact (StO.moved hW.alike hZ).kept hf⟩
variable {y : MethodName} {cc' : ByteArray} {mL : Nat} {rt : Option FieldType} {d mc ms np : Nat} {As : List Value} {P' : Pst} {idx : Nat} {stk : List Value}
theorem callB_my {s : State} {args : Array Value} {o : String} {R : Room} (hts : ∀ w ∈ TBL, w.before args s = true) (hM : Mt y cc' mL rt np) (hl : (Cond.methodLink o idx y).before args s = true) (hR : d + 1 ≤ R.frames ∧ 60 * (d + 1) ≤ R.locals) : CallB R s args o idx y cc' mL rt (Cond.code y cc' mL rt :: TBL) (rmo d mc ms) mc ms np :=
  callB_of np hts (tb_code hM.1) rfl rfl rfl (hts _ hM.2.1) hl ⟨hM.2.2.1.1, hM.2.2.1.2, hM.2.2.2.2⟩ ⟨hR.1, by have := hM.2.2.2.1; have := hR.2; show 8 + (mL + 11) + 60 * d ≤ _; omega⟩
theorem callN_my {s : State} {args : Array Value} {o host : String} {R : Room} (hts : ∀ w ∈ TBL, w.before args s = true) (hM : Mt y cc' mL rt np) (hl : va_Nw (.methodLinkNest o idx y host) s) (hR : d + 1 ≤ R.frames ∧ 60 * (d + 1) ≤ R.locals) : va_CN R s args o idx y host cc' mL rt (Cond.code y cc' mL rt :: TBL) (rmo d mc ms) mc ms np :=
  va_cnB np hts (tb_code hM.1) rfl rfl rfl hl (hts _ hM.2.1) ⟨hM.2.2.1.1, hM.2.2.1.2, hM.2.2.2.2⟩ ⟨hR.1, by have := hM.2.2.2.1; have := hR.2; show 8 + (mL + 11) + 60 * d ≤ _; omega⟩
/-- behind a call -/
theorem v_behind {p : Program} {e : Env} {s : State} {m : MethodId} {args : Array Value} {below : List Frame} {meth : Method} {c : Code} {H : Heap} {locs : List Loc} {ls : Array Slot} {a : Array Value} (X : Cx G cc F p s m args meth c) (hf : ∀ q : Nat, q < G.2.2.1 → H[q]? = s.heap[q]?) (hlc : ∀ x ∈ locs, G.2.2.1 ≤ x.base) (hl : LV ls F.2.1 L)
    (hrun : va_Run p l e (rmo F.2.2.2.1 F.2.2.2.2.1 F.2.2.2.2.2) s m args below meth c H locs k.1 k.2 mc ms (F0 m pc ls stk) st (VQ G P' a) (fun q => G.2.2.1 ≤ q))
    (K : ∀ r S' μ', P' r S' μ' → V l G cc F P (k.1 + mc, k.2 + ms) S' μ' (pc + 3) L (r.toList ++ st)) :
    W p l e (rmo F.2.2.2.1 F.2.2.2.2.1 F.2.2.2.2.2) s m args below meth c H locs k.1 k.2 (MQ below (VQ G P) args s F.2.2.2.2.1 F.2.2.2.2.2 (fun q => G.2.2.1 ≤ q)) (F0 m pc ls stk) := by
  intro T hT X1
  obtain ⟨v, st0, t, T', Lc, h0, X', hL, e1, e2, ⟨r, S', μ', hv, hp, hR, hfr⟩, stp⟩ := hrun T hT X1
  cases hv
  obtain ⟨t2, a1, b1⟩ := K _ S' μ' hp p e s m args below meth c T'.heap (locs ++ Lc) ls X (by rw [e1]; exact hR) (fun q hq => by rw [e1, hfr q hq, h0]; exact hf q hq) (fun x hx => (List.mem_append.mp hx).elim (hlc x) (hL x)) hl T' rfl X'
  exact ⟨t2, stp t2 a1, b1⟩
theorem v_callV {b ci : Nat} {sh : Shp} {r : vw_C} (As : List Value) (hC : Ct l G cc' (y, mL, rt, d, mc, ms) (.ref b :: As) S μ P') (hd : At cc pc (.invokevirtual idx) 3 n) (hM : Mt y cc' mL rt np) (hI : Mv y) (hL : Ln F.1.cls idx y) (hS : S.2 b = some sh) (hk : sh.1 = ci) (hr : vwCl[ci]? = some r) (hrc : r.1 = y.cls) (hn : As.length = np) (hst : stk = As.reverse ++ .ref b :: st) (hfr : d + 1 ≤ F.2.2.2.1) (hmm : k.1 + mc ≤ F.2.2.2.2.1 ∧ k.2 + ms ≤ F.2.2.2.2.2) (hrs : (st.map fun v => v.category).sum ≤ 8)
    (K : ∀ r S' μ', P' r S' μ' → V l G cc F P (k.1 + mc, k.2 + ms) S' μ' n L (r.toList ++ st)) : V l G cc F P k S μ pc L stk := by
  obtain ⟨hd, rfl⟩ := hd
  intro p e s m args below meth c H locs ls X R hf hlc hl
  obtain ⟨hx, hb, hml, -, hown, -, -, hts, hK, hZ, -⟩ := id X
  have hroom : d + 1 ≤ (rmo F.2.2.2.1 F.2.2.2.2.1 F.2.2.2.2.2).frames ∧ 60 * (d + 1) ≤ (rmo F.2.2.2.1 F.2.2.2.2.1 F.2.2.2.2.2).locals := ⟨hfr, by show _ ≤ 60 * F.2.2.2.1; omega⟩
  obtain ⟨cell, g1, g2, g3, -⟩ := ((R.2.2 b sh hS).2).obj hk hr
  have hp : PreV s H y.cls b (va_Pc (.ref b :: As) (fun U => Rep G S μ U.heap ∧ Kn G U ∧ StO G U U.heap)) As := ⟨pre_blind, ⟨cell, g1, by rw [g3]; rfl, by rw [g2, ← hrc]; exact (hK.1 ci r hr).2.1⟩, pre_at R hK hZ hf⟩
  refine v_behind (stk := stk) (st := st) (a := (Value.ref b :: As).toArray) X hf hlc hl ?_ K
  rcases hL with hL | ⟨ho, hL⟩
  · exact va_runV (nL := F.2.1) (As := As) ⟨hx, hb, hml, hown, hts⟩ hC ⟨callB_my hts hM (hts _ hL) hroom, hts _ hI.1, hts _ hI.2⟩ hp rfl hn hl.1.1 hst (lv_room hrs) hd hmm
  · exact va_runVN (nL := F.2.1) (As := As) ⟨hx, hb, hml, hown, hts⟩ hC ⟨callN_my hts hM (hK.2.2 _ hL) hroom, hts _ hI.1, hts _ hI.2⟩ hp rfl hn hl.1.1 hst (lv_room hrs) hd hmm
theorem v_callS (As : List Value) (hC : Ct l G cc' (y, mL, rt, d, mc, ms) As S μ P') (hd : At cc pc (.invokestatic idx) 3 n) (hM : Mt y cc' mL rt np) (hI : Cond.static y ∈ TBL) (hL : Ln F.1.cls idx y) (hn : As.length = np) (hst : stk = As.reverse ++ st) (hfr : d + 1 ≤ F.2.2.2.1) (hmm : k.1 + mc ≤ F.2.2.2.2.1 ∧ k.2 + ms ≤ F.2.2.2.2.2) (hrs : (st.map fun v => v.category).sum ≤ 8)
    (K : ∀ r S' μ', P' r S' μ' → V l G cc F P (k.1 + mc, k.2 + ms) S' μ' n L (r.toList ++ st)) : V l G cc F P k S μ pc L stk := by
  obtain ⟨hd, rfl⟩ := hd
  intro p e s m args below meth c H locs ls X R hf hlc hl
  obtain ⟨hx, hb, hml, -, hown, -, -, hts, hK, hZ, -⟩ := id X
  have hroom : d + 1 ≤ (rmo F.2.2.2.1 F.2.2.2.2.1 F.2.2.2.2.2).frames ∧ 60 * (d + 1) ≤ (rmo F.2.2.2.1 F.2.2.2.2.1 F.2.2.2.2.2).locals := ⟨hfr, by show _ ≤ 60 * F.2.2.2.1; omega⟩
  have hp : PreS s H (va_Pc As (fun U => Rep G S μ U.heap ∧ Kn G U ∧ StO G U U.heap)) As := ⟨pre_blind, pre_at R hK hZ hf⟩
  refine v_behind (stk := stk) (st := st) (a := As.toArray) X hf hlc hl ?_ K
  rcases hL with hL | ⟨ho, hL⟩
  · exact va_runS (nL := F.2.1) (As := As) ⟨hx, hb, hml, hown, hts⟩ hC ⟨callB_my hts hM (hts _ hL) hroom, hts _ hI⟩ hp rfl hn hl.1.1 hst (lv_room hrs) hd hmm
  · exact va_runSN (nL := F.2.1) (As := As) ⟨hx, hb, hml, hown, hts⟩ hC ⟨callN_my hts hM (hK.2.2 _ hL) hroom, hts _ hI, trivial⟩ hp rfl hn hl.1.1 hst (lv_room hrs) hd hmm
theorem v_callI {b : Nat} (As : List Value) (hC : Ct l G cc' (y, mL, none, d, mc, ms) (.ref b :: As) S μ P') (hd : At cc pc (.invokespecial idx) 3 n) (hM : Mt y cc' mL none np) (hI : Cond.instanceMethod y ∈ TBL) (hy1 : y.name = "<init>") (hL : Ln F.1.cls idx y) (hn : As.length = np) (hst : stk = As.reverse ++ .ref b :: st) (hfr : d + 1 ≤ F.2.2.2.1) (hmm : k.1 + mc ≤ F.2.2.2.2.1 ∧ k.2 + ms ≤ F.2.2.2.2.2) (hrs : (st.map fun v => v.category).sum ≤ 8)
    (K : ∀ r S' μ', P' r S' μ' → V l G cc F P (k.1 + mc, k.2 + ms) S' μ' n L (r.toList ++ st)) : V l G cc F P k S μ pc L stk := by
  obtain ⟨hd, rfl⟩ := hd
  intro p e s m args below meth c H locs ls X R hf hlc hl
  obtain ⟨hx, hb, hml, -, hown, -, -, hts, hK, hZ, -⟩ := id X
  have hroom : d + 1 ≤ (rmo F.2.2.2.1 F.2.2.2.2.1 F.2.2.2.2.2).frames ∧ 60 * (d + 1) ≤ (rmo F.2.2.2.1 F.2.2.2.2.1 F.2.2.2.2.2).locals := ⟨hfr, by show _ ≤ 60 * F.2.2.2.1; omega⟩
  have hp : PreS s H (va_Pc (.ref b :: As) (fun U => Rep G S μ U.heap ∧ Kn G U ∧ StO G U U.heap)) (.ref b :: As) := ⟨pre_blind, pre_at R hK hZ hf⟩
  refine v_behind (stk := stk) (st := st) (a := (Value.ref b :: As).toArray) X hf hlc hl ?_ K
  rcases hL with hL | ⟨ho, hL⟩
  · exact va_runI (nL := F.2.1) (As := As) ⟨hx, hb, hml, hown, hts⟩ hC ⟨callB_my hts hM (hts _ hL) hroom, hy1, hts _ hI⟩ hp rfl hn hl.1.1 hst (lv_room hrs) hd hmm
  · exact va_runIN (nL := F.2.1) (As := As) ⟨hx, hb, hml, hown, hts⟩ hC ⟨callN_my hts hM (hK.2.2 _ hL) hroom, hy1, hts _ hI⟩ hp rfl hn hl.1.1 hst (lv_room hrs) hd hmm
/-- a copy of numbers from one array to another, from place sp to place dp -/
def icp (f g : Int → Int) (sp dp n : Int) : Int → Int := fun i => if dp ≤ i ∧ i < dp + n then f (sp + (i - dp)) else g i
theorem v_copy {a0 a N0 N1 : Nat} {sp dp z : Int} (hd : At cc pc (.invokestatic idx) 3 n) (hw1 : Cond.methodLink F.1.cls idx arraycopyName ∈ TBL) (hw2 : Cond.native arraycopyName ∈ TBL) (hw3 : Cond.static arraycopyName ∈ TBL) (hw4 : Cond.initialized "java/lang/System" ∈ TBL) (hS0 : S.2 a0 = some (aI N0)) (hS1 : S.2 a = some (aI N1)) (hne : a0 ≠ a) (hsp : 0 ≤ sp) (hdp : 0 ≤ dp) (hz : 0 ≤ z) (h4 : sp + z ≤ (N0 : Int)) (h5 : dp + z ≤ (N1 : Int)) (hN0 : N0 ≤ 65536) (hN1 : N1 ≤ 65536) (hfr : 1 ≤ F.2.2.2.1) (hrs : (st.map fun v => v.category).sum ≤ 8)
    (h : V l G cc F P k S (row μ a (icp (μ a0) (μ a) sp dp z)) n L st) : V l G cc F P k S μ pc L (vi z :: vi dp :: .ref a :: vi sp :: .ref a0 :: st) := by
  obtain ⟨hd, rfl⟩ := hd
  intro p e s m args below meth c H locs ls X R hf hlc hl
  obtain ⟨hx, hb, hml, -, hown, -, -, hts, hK, hZ, -⟩ := id X
  have hc0 := ((R.2.2 a0 _ hS0).2).arr (k := 100) (ty := .int) rfl rfl
  have hc1 := ((R.2.2 a _ hS1).2).arr (k := 100) (ty := .int) rfl rfl
  have e0 : ∀ (g : Int → Int) (N : Nat), arrV (G.2.1 100) (aI N).2.1 (cvl (aI N).2.2 g) = vp_cell (G.2.1 100) (N, .inl (fun j => Int32.ofInt (g (j : Int)))) := fun g N => by rw [vp_cell_i]; rfl
  rw [e0] at hc0 hc1
  have hA := (hK.2.1 100 .int rfl).1
  have hba := (R.2.2 a _ hS1).1
  have hP : va_P G.1 vwCl [(a0, .inl (G.2.1 100, (N0, .inl (fun j => Int32.ofInt (μ a0 (j : Int)))))), (a, .inl (G.2.1 100, (N1, .inl (fun j => Int32.ofInt (μ a (j : Int))))))] H := by
    intro i x hx
    match i, hx with
    | 0, hx => cases hx; exact hc0
    | 1, hx => cases hx; exact hc1
    | i + 2, hx => simp at hx
  have q1 := clamp_in (z := sp) (by omega)
  have q2 := clamp_in (z := dp) (by omega)
  have q3 := clamp_in (z := z) (by omega)
  have nn : ∀ x : Int, 0 ≤ x → x < 2147483648 → ¬ Int32.ofInt x < 0 := fun x h1 h2 => by rw [(i32_0 (by omega)).1]; omega
  intro T hT X1
  obtain ⟨-, k0, hk0, cm0, hkk0⟩ := hA N0 (fun j => .int ((fun j => Int32.ofInt (μ a0 (j : Int))) j))
  obtain ⟨vm', X', step⟩ := X1.arraycopy hx hown (hts _ hw1) (hts _ hw2) (hts _ hw3) (hts _ hw4) (src := a0) (dst := a) (cs := vp_cell (G.2.1 100) (N0, .inl (fun j => Int32.ofInt (μ a0 (j : Int))))) (cd := vp_cell (G.2.1 100) (N1, .inl (fun j => Int32.ofInt (μ a (j : Int))))) (srcPos := Int32.ofInt sp) (destPos := Int32.ofInt dp) (n := Int32.ofInt z) (by rw [hT]; exact hc0) (by rw [hT]; exact hc1)
    (fun _ h => by cases h) (fun _ h => by cases h) (fun h => by cases h) (fun h => by cases h) hk0 hk0 hkk0 hkk0 (by simp [show refKind .int = false from rfl]) (nn _ hsp (by omega)) (nn _ hdp (by omega)) (nn _ hz (by omega))
    (by rw [i32_in (by omega), i32_in (by omega)]; show ¬ _ > ((arrV (G.2.1 100) N0 _).slots.size : Int); rw [arrV_size]; omega)
    (by rw [i32_in (by omega), i32_in (by omega)]; show ¬ _ > ((arrV (G.2.1 100) N1 _).slots.size : Int); rw [arrV_size]; omega)
    (fun vm₁ _ i hi => by
      rw [q3] at hi
      rw [q1]
      have e : (vp_cell (G.2.1 100) (N0, .inl (fun j => Int32.ofInt (μ a0 (j : Int))))).slots.getD (sp.toNat + i) .null = .int (Int32.ofInt (μ a0 ((sp.toNat + i : Nat) : Int))) := by
        show (arrV (G.2.1 100) N0 (fun j => .int (Int32.ofInt (μ a0 (j : Int))))).slots.getD _ _ = _
        rw [Array.getD_eq_getD_getElem?, arrV_read _ _ (by omega)]
        rfl
      refine ⟨?_, ?_⟩
      · rw [e]; rfl
      · rw [e]; exact trivial)
    (g := F0 m pc ls (vi z :: vi dp :: .ref a :: vi sp :: .ref a0 :: st)) rfl (by rw [hml]; exact hl.1.1) (rest := st) rfl (by rw [hb]; exact hd) hfr (by
      show 2 * 0 + _ + (nativeFrameWords "java/lang/System" "arraycopy" 5 + 11) ≤ 60 * F.2.2.2.1
      have : nativeFrameWords "java/lang/System" "arraycopy" 5 ≤ 30 := by decide
      omega)
  have e1 : copied (vp_cell (G.2.1 100) (N0, .inl (fun j => Int32.ofInt (μ a0 (j : Int))))) (vp_cell (G.2.1 100) (N1, .inl (fun j => Int32.ofInt (μ a (j : Int))))) (Int32.ofInt sp) (Int32.ofInt dp) (Int32.ofInt z) = vp_cell (G.2.1 100) (N1, .inl (va_cpy (fun j => Int32.ofInt (μ a0 (j : Int))) (fun j => Int32.ofInt (μ a (j : Int))) sp.toNat dp.toNat z.toNat)) := by
    have h9 := va_copied (fun z => .int z) (G.2.1 100) (G.2.1 100) (n1 := N1) (dp := (Int32.ofInt dp).toNatClampNeg) (fun j : Nat => Int32.ofInt (μ a0 (j : Int))) (fun j : Nat => Int32.ofInt (μ a (j : Int))) (show (Int32.ofInt sp).toNatClampNeg + (Int32.ofInt z).toNatClampNeg ≤ N0 by rw [q1, q3]; omega)
    rw [q1, q2, q3] at h9
    refine Eq.trans ?_ h9
    rw [← q1, ← q2, ← q3]
    rfl
  rw [e1] at X' step
  have hlt : a < H.size := (Array.getElem?_eq_some_iff.mp hc1).1
  have e2 : vp_cell (G.2.1 100) (N1, .inl (va_cpy (fun j => Int32.ofInt (μ a0 (j : Int))) (fun j => Int32.ofInt (μ a (j : Int))) sp.toNat dp.toNat z.toNat)) = arrV (G.2.1 100) N1 (cvl (fun _ => none) (icp (μ a0) (μ a) sp dp z)) := by
    rw [vp_cell_i]
    refine congrArg (arrV (G.2.1 100) N1) (funext fun j => ?_)
    show Value.int _ = vi _
    unfold va_cpy icp vi
    by_cases hj : dp.toNat ≤ j ∧ j < dp.toNat + z.toNat
    · rw [if_pos hj, if_pos (by omega)]
      show Value.int (Int32.ofInt (μ a0 ((sp.toNat + (j - dp.toNat) : Nat) : Int))) = _
      rw [show ((sp.toNat + (j - dp.toNat) : Nat) : Int) = sp + ((j : Int) - dp) by omega]
    · rw [if_neg hj, if_neg (by omega)]
  rw [e2] at X' step
  generalize hcell : arrV (G.2.1 100) N1 (cvl (fun _ => none) (icp (μ a0) (μ a) sp dp z)) = cN at X' step
  have hheap : ((T.setVm vm').setCell a cN).heap = H.setIfInBounds a cN := by rw [← hT]; rfl
  have oq : ∀ q : Nat, q ≠ a → (H.setIfInBounds a cN)[q]? = H[q]? := fun q hq => by simp [Array.getElem?_setIfInBounds, Ne.symm hq]
  have hcell' : (H.setIfInBounds a cN)[a]? = some cN := by simp [Array.getElem?_setIfInBounds, hlt]
  have hR' : Rep G S (row μ a (icp (μ a0) (μ a) sp dp z)) (H.setIfInBounds a cN) := by
    refine ⟨by rw [← R.1]; simp, R.2.1, fun q sh hq => ?_⟩
    by_cases eq : q = a
    · subst eq
      rw [hS1] at hq
      cases hq
      refine ⟨hba, Or.inr ⟨⟨.int, rfl⟩, ?_⟩⟩
      rw [hcell', ← hcell]
      simp only [row, if_true]
      rfl
    · simp only [row, if_neg eq]
      exact ⟨(R.2.2 q sh hq).1, (R.2.2 q sh hq).2.kept (oq q eq)⟩
  obtain ⟨t, a1, b1⟩ := h p e s m args below meth c (H.setIfInBounds a cN) _ ls X hR' (fun q hq => (oq q (Nat.ne_of_lt (Nat.lt_of_lt_of_le hq hba))).trans (hf q hq)) (fun x hx => by
      rcases List.mem_append.mp hx with h | h
      · exact hlc x h
      · obtain ⟨z, -, hz⟩ := List.mem_map.mp h
        rw [← hz]
        exact hba) hl _ hheap X'
  exact ⟨t, step t a1, b1⟩
/-- CODES -/
theorem v_codes (hd : At cc pc (.getstatic idx) 3 n) (hw : Cond.fieldLink F.1.cls idx "LastScale$Planner" "CODES" "[I" ∈ TBL) (h : V l G cc F P k S μ n L (.ref G.2.2.2 :: st)) : V l G cc F P k S μ pc L st := by
  obtain ⟨hd, rfl⟩ := hd
  intro p e s m args below meth c H locs ls X R hf hlc hl
  obtain ⟨hx, hb, hml, -, hown, -, -, hts, hK, hZ, hsz⟩ := id X
  obtain ⟨cf, kf, fi, f, a, cell, h1, h2, h3, h4, h5, h6, h7, h8⟩ := hZ.1
  exact W.gets hx hb hown (hts _ hw) h1 h2 h3 h4 (by rw [hf a (Nat.not_le.mp h8)]; exact h5) (fun e => by rw [e] at h6; cases h6) h7 rfl hd (h _ _ _ _ _ _ _ _ _ _ _ X R hf hlc hl)
theorem v_codesld {z : Int} (hd : At cc pc .iaload 1 n) (hz : 0 ≤ z ∧ z < 6) (h : V l G cc F P k S μ n L (codesV z.toNat :: st)) : V l G cc F P k S μ pc L (vi z :: .ref G.2.2.2 :: st) := by
  obtain ⟨hd, rfl⟩ := hd
  intro p e s m args below meth c H locs ls X R hf hlc hl
  obtain ⟨hx, hb, hml, -, hown, -, -, hts, hK, hZ, hsz⟩ := id X
  obtain ⟨cell, h1, h2, h3, h4, h5, h6, h7⟩ := hZ.2
  refine W.iald (v := codesV z.toNat) hx hb (by rw [hf _ (Nat.not_le.mp h7)]; exact h1) h2 h3 ?_ ?_ rfl rfl hd (h _ _ _ _ _ _ _ _ _ _ _ X R hf hlc hl)
  · rw [clamp_in (by omega), (i32_0 (by omega)).1]
    omega
  · rw [clamp_in (by omega)]
    exact h6 _ (by omega)
/-- new int[N][M] -/
def snewM (S : Sh) (N M : Nat) : Sh := (S.1 + 1 + N, fun q => if q = S.1 then some (aR 102 N (fun i => if i < N then some (S.1 + 1 + i) else none)) else if S.1 < q ∧ q < S.1 + 1 + N then some (aI M) else S.2 q)
def mnewM (S : Sh) (μ : Mu) : Mu := fun q => if S.1 ≤ q then fun _ => 0 else μ q
theorem outer_my (c : ClassId) (N h0 : Nat) : ∀ i : Nat, Jvm.Free.Multi.outerC c N h0 i = arrV c N (fun j => va_rf (if j < i then some (h0 + 1 + j) else none))
  | 0 => by
    show ({ cls := c, slots := Array.replicate N .null, vm := .none } : Cell) = _
    rw [arrV_new]
    exact congrArg (arrV c N) (funext fun j => by simp [va_rf])
  | i + 1 => by
    show (Jvm.Free.Multi.outerC c N h0 i).setSlot i (.ref (h0 + 1 + i)) = _
    rw [outer_my c N h0 i, arrV_store]
    refine congrArg (arrV c N) (funext fun j => ?_)
    by_cases e : j = i
    · subst e
      simp [updV, va_rf]
    · by_cases h : j < i
      · simp [updV, e, h, Nat.lt_succ_of_lt h]
      · simp [updV, e, h, show ¬ j < i + 1 by omega]
theorem v_newM {z w : Int} (hd : At cc pc (.multianewarray idx 2) 4 n) (hz : 0 ≤ z ∧ z ≤ 65536) (hwz : 0 ≤ w ∧ w ≤ 65536) (hm : k.1 + (1 + z.toNat) ≤ F.2.2.2.2.1 ∧ k.2 + (z.toNat + z.toNat * w.toNat) ≤ F.2.2.2.2.2) (hw : Cond.classLink F.1.cls idx "[[I" ∈ TBL) (hw2 : Cond.arrayOver (.array .int) ∈ NST) (hw3 : Cond.arrayClass .int ∈ TBL) (h : V l G cc F P (k.1 + 1 + z.toNat, k.2 + z.toNat + z.toNat * w.toNat) (snewM S z.toNat w.toNat) (mnewM S μ) n L (.ref S.1 :: st)) : V l G cc F P k S μ pc L (vi w :: vi z :: st) := by
  obtain ⟨hd, rfl⟩ := hd
  intro p e s m args below meth c H locs ls X R hf hlc hl
  obtain ⟨hx, hb, hml, -, hown, -, -, hts, hK, hZ, hsz⟩ := id X
  have q1 := clamp_in (z := z) (by omega)
  have q2 := clamp_in (z := w) (by omega)
  intro T hT X1
  obtain ⟨vm₁, cA, comp, -, fA, fC, hO, hI, X', step⟩ := X1.multianewarray2F hx (ty := .int) (n := Int32.ofInt z) (k := Int32.ofInt w) (rest := st) hown (hts _ hw) (hK.2.2 _ hw2) (hts _ hw3) (g := F0 m pc ls (vi w :: vi z :: st)) rfl (by rw [hb]; exact hd) rfl (by rw [(i32_0 (by omega)).1]; omega) (by rw [(i32_0 (by omega)).1]; omega) (by rw [q1]; omega) (by rw [q2]; show w.toNat * 4 ≤ _; omega) (by rw [q2]; omega) rfl rfl (by rw [q1]; exact hm.1) (by rw [q1, q2]; exact hm.2)
  have ec : comp = G.2.1 100 := Option.some.inj (fC.symm.trans (hK.2.1 100 .int rfl).2)
  have eA : cA = G.2.1 102 := Option.some.inj (fA.symm.trans (hK.2.1 102 (.array .int) rfl).2)
  subst ec
  subst eA
  rw [q1, q2] at X' step
  generalize hF : Jvm.Free.Multi.fill (T.setVm vm₁) (G.2.1 102) (G.2.1 100) z.toNat w.toNat (defaultValue .int) z.toNat = T2 at X' step
  have hTh : (T.setVm vm₁).heap = H := hT
  obtain ⟨f1, f2, -, -⟩ := Jvm.Free.Multi.fill_facts (T.setVm vm₁) (G.2.1 102) (G.2.1 100) z.toNat w.toNat (defaultValue .int) z.toNat
  rw [hF, hTh] at f1 f2
  have hold : ∀ x : Nat, x < S.1 → T2.heap[x]? = H[x]? := fun x hx => by
    have := Jvm.Free.Multi.fill_old (T.setVm vm₁) (G.2.1 102) (G.2.1 100) z.toNat w.toNat (defaultValue .int) (a := x) (by rw [hTh, R.1]; exact hx) z.toNat
    rw [hF, hTh] at this
    exact this
  have hrow : ∀ j : Nat, j < z.toNat → T2.heap[S.1 + 1 + j]? = some (arrV (G.2.1 100) w.toNat (fun _ => .int 0)) := fun j hj => by
    have := Jvm.Free.Multi.fill_inner (T.setVm vm₁) (G.2.1 102) (G.2.1 100) z.toNat w.toNat (defaultValue .int) z.toNat j hj
    rw [hF, hTh, R.1] at this
    rw [this]
    show some ({ cls := _, slots := Array.replicate _ _, vm := .none } : Cell) = _
    rw [arrV_new]
    rfl
  rw [outer_my, R.1] at f2
  rw [R.1] at f1
  have hR' : Rep G (snewM S z.toNat w.toNat) (mnewM S μ) T2.heap := by
    refine ⟨f1, by show _ ≤ S.1 + 1 + z.toNat; have := R.2.1; omega, fun q sh hq => ?_⟩
    by_cases e1 : q = S.1
    · subst e1
      simp only [snewM, if_true] at hq
      cases hq
      exact ⟨R.2.1, Or.inr ⟨⟨_, rfl⟩, f2⟩⟩
    · by_cases e2 : S.1 < q ∧ q < S.1 + 1 + z.toNat
      · simp only [snewM, if_neg e1, if_pos e2] at hq
        cases hq
        refine ⟨Nat.le_trans R.2.1 (Nat.le_of_lt e2.1), Or.inr ⟨⟨.int, rfl⟩, ?_⟩⟩
        have h9 := hrow (q - (S.1 + 1)) (by omega)
        rw [show S.1 + 1 + (q - (S.1 + 1)) = q by omega] at h9
        rw [h9]
        simp only [mnewM, if_pos (Nat.le_of_lt e2.1)]
        rfl
      · simp only [snewM, if_neg e1, if_neg e2] at hq
        have hq2 := R.2.2 q sh hq
        have hlt : q < S.1 := by rw [← R.1]; exact hq2.2.lt
        simp only [mnewM, if_neg (Nat.not_le.mpr hlt)]
        exact ⟨hq2.1, hq2.2.kept (hold q hlt)⟩
  rw [hTh.symm.trans (show (T.setVm vm₁).heap = T.heap from rfl)] at R
  have hs1 : T.heap.size = S.1 := R.1
  obtain ⟨t, a1, b1⟩ := h p e s m args below meth c T2.heap locs ls X hR' (fun q hq => (hold q (Nat.lt_of_lt_of_le hq R.2.1)).trans (hf q hq)) hlc hl T2 rfl X'
  refine ⟨t, step t ?_, b1⟩
  rw [hs1]
  exact a1
end R4
end
section
theorem foX7_10 : FlO RX7 10 7 0 := ⟨_, rfl, by decide, tb_w 259 (by decide +kernel) (by decide +kernel)⟩
theorem fX7_10 : Fl RX7 10 7 0 := foX7_10.fl
theorem foX7_19 : FlO RX7 19 7 1 := ⟨_, rfl, by decide, tb_w 260 (by decide +kernel) (by decide +kernel)⟩
theorem fX7_19 : Fl RX7 19 7 1 := foX7_19.fl
theorem foX7_23 : FlO RX7 23 7 2 := ⟨_, rfl, by decide, tb_w 261 (by decide +kernel) (by decide +kernel)⟩
theorem fX7_23 : Fl RX7 23 7 2 := foX7_23.fl
theorem foX7_30 : FlO RX7 30 7 3 := ⟨_, rfl, by decide, tb_w 262 (by decide +kernel) (by decide +kernel)⟩
theorem fX7_30 : Fl RX7 30 7 3 := foX7_30.fl
theorem foX7_37 : FlO RX7 37 7 4 := ⟨_, rfl, by decide, tb_w 263 (by decide +kernel) (by decide +kernel)⟩
theorem fX7_37 : Fl RX7 37 7 4 := foX7_37.fl
theorem foX7_44 : FlO RX7 44 7 5 := ⟨_, rfl, by decide, tb_w 264 (by decide +kernel) (by decide +kernel)⟩
theorem fX7_44 : Fl RX7 44 7 5 := foX7_44.fl
theorem foX7_51 : FlO RX7 51 7 6 := ⟨_, rfl, by decide, tb_w 265 (by decide +kernel) (by decide +kernel)⟩
theorem fX7_51 : Fl RX7 51 7 6 := foX7_51.fl
theorem foX7_57 : FlO RX7 57 7 7 := ⟨_, rfl, by decide, tb_w 266 (by decide +kernel) (by decide +kernel)⟩
theorem fX7_57 : Fl RX7 57 7 7 := foX7_57.fl
theorem fX7_61 : Fl RX7 61 0 6 := ⟨_, rfl, by decide, Or.inr ⟨"LastScale", tb_n 148 (by decide +kernel) (by decide +kernel)⟩⟩
theorem fX7_69 : Fl RX7 69 2 1 := ⟨_, rfl, by decide, Or.inr ⟨"LastScale", tb_n 110 (by decide +kernel) (by decide +kernel)⟩⟩
theorem fX7_82 : Fl RX7 82 0 7 := ⟨_, rfl, by decide, Or.inr ⟨"LastScale", tb_n 154 (by decide +kernel) (by decide +kernel)⟩⟩
theorem fX7_89 : Fl RX7 89 0 0 := ⟨_, rfl, by decide, Or.inr ⟨"LastScale", tb_n 133 (by decide +kernel) (by decide +kernel)⟩⟩
theorem fX7_124 : Fl RX7 124 0 4 := ⟨_, rfl, by decide, Or.inr ⟨"LastScale", tb_n 143 (by decide +kernel) (by decide +kernel)⟩⟩
theorem fX7_146 : Fl RX7 146 4 3 := ⟨_, rfl, by decide, Or.inr ⟨"LastScale", tb_n 189 (by decide +kernel) (by decide +kernel)⟩⟩
theorem fX7_179 : Fl RX7 179 0 2 := ⟨_, rfl, by decide, Or.inr ⟨"LastScale", tb_n 138 (by decide +kernel) (by decide +kernel)⟩⟩
theorem fX7_182 : Fl RX7 182 0 3 := ⟨_, rfl, by decide, Or.inr ⟨"LastScale", tb_n 141 (by decide +kernel) (by decide +kernel)⟩⟩
theorem fX7_185 : Fl RX7 185 0 8 := ⟨_, rfl, by decide, Or.inr ⟨"LastScale", tb_n 157 (by decide +kernel) (by decide +kernel)⟩⟩
theorem fX7_192 : Fl RX7 192 5 0 := ⟨_, rfl, by decide, Or.inr ⟨"LastScale", tb_n 206 (by decide +kernel) (by decide +kernel)⟩⟩
theorem fX7_195 : Fl RX7 195 5 1 := ⟨_, rfl, by decide, Or.inr ⟨"LastScale", tb_n 208 (by decide +kernel) (by decide +kernel)⟩⟩
theorem fX7_202 : Fl RX7 202 1 0 := ⟨_, rfl, by decide, Or.inr ⟨"LastScale", tb_n 224 (by decide +kernel) (by decide +kernel)⟩⟩
theorem fX7_205 : Fl RX7 205 1 1 := ⟨_, rfl, by decide, Or.inr ⟨"LastScale", tb_n 226 (by decide +kernel) (by decide +kernel)⟩⟩
theorem fX7_208 : Fl RX7 208 1 2 := ⟨_, rfl, by decide, Or.inr ⟨"LastScale", tb_n 228 (by decide +kernel) (by decide +kernel)⟩⟩
theorem fX7_211 : Fl RX7 211 0 5 := ⟨_, rfl, by decide, Or.inr ⟨"LastScale", tb_n 145 (by decide +kernel) (by decide +kernel)⟩⟩
theorem fX7_225 : Fl RX7 225 6 2 := ⟨_, rfl, by decide, Or.inr ⟨"LastScale", tb_n 245 (by decide +kernel) (by decide +kernel)⟩⟩
theorem fX7_228 : Fl RX7 228 6 3 := ⟨_, rfl, by decide, Or.inr ⟨"LastScale", tb_n 247 (by decide +kernel) (by decide +kernel)⟩⟩
theorem fX7_238 : Fl RX7 238 0 1 := ⟨_, rfl, by decide, Or.inr ⟨"LastScale", tb_n 135 (by decide +kernel) (by decide +kernel)⟩⟩
theorem foX0_11 : FlO RX0 11 0 0 := ⟨_, rfl, by decide, tb_w 130 (by decide +kernel) (by decide +kernel)⟩
theorem fX0_11 : Fl RX0 11 0 0 := foX0_11.fl
theorem foX0_16 : FlO RX0 16 0 1 := ⟨_, rfl, by decide, tb_w 134 (by decide +kernel) (by decide +kernel)⟩
theorem fX0_16 : Fl RX0 16 0 1 := foX0_16.fl
theorem foX0_20 : FlO RX0 20 0 2 := ⟨_, rfl, by decide, tb_w 136 (by decide +kernel) (by decide +kernel)⟩
theorem fX0_20 : Fl RX0 20 0 2 := foX0_20.fl
theorem foX0_23 : FlO RX0 23 0 3 := ⟨_, rfl, by decide, tb_w 139 (by decide +kernel) (by decide +kernel)⟩
theorem fX0_23 : Fl RX0 23 0 3 := foX0_23.fl
theorem foX0_26 : FlO RX0 26 0 4 := ⟨_, rfl, by decide, tb_w 142 (by decide +kernel) (by decide +kernel)⟩
theorem fX0_26 : Fl RX0 26 0 4 := foX0_26.fl
theorem foX0_29 : FlO RX0 29 0 5 := ⟨_, rfl, by decide, tb_w 144 (by decide +kernel) (by decide +kernel)⟩
theorem fX0_29 : Fl RX0 29 0 5 := foX0_29.fl
theorem foX0_36 : FlO RX0 36 0 6 := ⟨_, rfl, by decide, tb_w 146 (by decide +kernel) (by decide +kernel)⟩
theorem fX0_36 : Fl RX0 36 0 6 := foX0_36.fl
theorem foX0_40 : FlO RX0 40 0 7 := ⟨_, rfl, by decide, tb_w 150 (by decide +kernel) (by decide +kernel)⟩
theorem fX0_40 : Fl RX0 40 0 7 := foX0_40.fl
theorem fX0_43 : Fl RX0 43 2 1 := ⟨_, rfl, by decide, Or.inr ⟨"LastScale", tb_n 111 (by decide +kernel) (by decide +kernel)⟩⟩
theorem foX0_65 : FlO RX0 65 0 8 := ⟨_, rfl, by decide, tb_w 156 (by decide +kernel) (by decide +kernel)⟩
theorem fX0_65 : Fl RX0 65 0 8 := foX0_65.fl
theorem foX1_9 : FlO RX1 9 1 0 := ⟨_, rfl, by decide, tb_w 223 (by decide +kernel) (by decide +kernel)⟩
theorem fX1_9 : Fl RX1 9 1 0 := foX1_9.fl
theorem foX1_15 : FlO RX1 15 1 1 := ⟨_, rfl, by decide, tb_w 225 (by decide +kernel) (by decide +kernel)⟩
theorem fX1_15 : Fl RX1 15 1 1 := foX1_15.fl
theorem foX1_18 : FlO RX1 18 1 2 := ⟨_, rfl, by decide, tb_w 227 (by decide +kernel) (by decide +kernel)⟩
theorem fX1_18 : Fl RX1 18 1 2 := foX1_18.fl
theorem fX1_21 : Fl RX1 21 0 7 := ⟨_, rfl, by decide, Or.inr ⟨"LastScale", tb_n 151 (by decide +kernel) (by decide +kernel)⟩⟩
theorem fX1_38 : Fl RX1 38 4 3 := ⟨_, rfl, by decide, Or.inr ⟨"LastScale", tb_n 187 (by decide +kernel) (by decide +kernel)⟩⟩
theorem foX2_9 : FlO RX2 9 2 0 := ⟨_, rfl, by decide, tb_w 108 (by decide +kernel) (by decide +kernel)⟩
theorem fX2_9 : Fl RX2 9 2 0 := foX2_9.fl
theorem foX2_15 : FlO RX2 15 2 1 := ⟨_, rfl, by decide, tb_w 109 (by decide +kernel) (by decide +kernel)⟩
theorem fX2_15 : Fl RX2 15 2 1 := foX2_15.fl
theorem foX3_18 : FlO RX3 18 3 0 := ⟨_, rfl, by decide, tb_w 487 (by decide +kernel) (by decide +kernel)⟩
theorem fX3_18 : Fl RX3 18 3 0 := foX3_18.fl
theorem foX3_24 : FlO RX3 24 3 1 := ⟨_, rfl, by decide, tb_w 488 (by decide +kernel) (by decide +kernel)⟩
theorem fX3_24 : Fl RX3 24 3 1 := foX3_24.fl
theorem foX3_31 : FlO RX3 31 3 2 := ⟨_, rfl, by decide, tb_w 489 (by decide +kernel) (by decide +kernel)⟩
theorem fX3_31 : Fl RX3 31 3 2 := foX3_31.fl
theorem foX4_9 : FlO RX4 9 4 0 := ⟨_, rfl, by decide, tb_w 184 (by decide +kernel) (by decide +kernel)⟩
theorem fX4_9 : Fl RX4 9 4 0 := foX4_9.fl
theorem foX4_15 : FlO RX4 15 4 1 := ⟨_, rfl, by decide, tb_w 185 (by decide +kernel) (by decide +kernel)⟩
theorem fX4_15 : Fl RX4 15 4 1 := foX4_15.fl
theorem fX4_18 : Fl RX4 18 0 6 := ⟨_, rfl, by decide, Or.inr ⟨"LastScale", tb_n 147 (by decide +kernel) (by decide +kernel)⟩⟩
theorem foX4_24 : FlO RX4 24 4 2 := ⟨_, rfl, by decide, tb_w 186 (by decide +kernel) (by decide +kernel)⟩
theorem fX4_24 : Fl RX4 24 4 2 := foX4_24.fl
theorem fX4_25 : Fl RX4 25 0 7 := ⟨_, rfl, by decide, Or.inr ⟨"LastScale", tb_n 152 (by decide +kernel) (by decide +kernel)⟩⟩
theorem fX4_28 : Fl RX4 28 0 0 := ⟨_, rfl, by decide, Or.inr ⟨"LastScale", tb_n 131 (by decide +kernel) (by decide +kernel)⟩⟩
theorem foX4_39 : FlO RX4 39 4 3 := ⟨_, rfl, by decide, tb_w 188 (by decide +kernel) (by decide +kernel)⟩
theorem fX4_39 : Fl RX4 39 4 3 := foX4_39.fl
theorem foX5_9 : FlO RX5 9 5 0 := ⟨_, rfl, by decide, tb_w 205 (by decide +kernel) (by decide +kernel)⟩
theorem fX5_9 : Fl RX5 9 5 0 := foX5_9.fl
theorem foX5_15 : FlO RX5 15 5 1 := ⟨_, rfl, by decide, tb_w 207 (by decide +kernel) (by decide +kernel)⟩
theorem fX5_15 : Fl RX5 15 5 1 := foX5_15.fl
theorem fX5_18 : Fl RX5 18 0 2 := ⟨_, rfl, by decide, Or.inr ⟨"LastScale", tb_n 137 (by decide +kernel) (by decide +kernel)⟩⟩
theorem fX5_29 : Fl RX5 29 0 3 := ⟨_, rfl, by decide, Or.inr ⟨"LastScale", tb_n 140 (by decide +kernel) (by decide +kernel)⟩⟩
theorem foX5_32 : FlO RX5 32 5 2 := ⟨_, rfl, by decide, tb_w 209 (by decide +kernel) (by decide +kernel)⟩
theorem fX5_32 : Fl RX5 32 5 2 := foX5_32.fl
theorem fX5_36 : Fl RX5 36 0 7 := ⟨_, rfl, by decide, Or.inr ⟨"LastScale", tb_n 153 (by decide +kernel) (by decide +kernel)⟩⟩
theorem fX5_40 : Fl RX5 40 0 0 := ⟨_, rfl, by decide, Or.inr ⟨"LastScale", tb_n 132 (by decide +kernel) (by decide +kernel)⟩⟩
theorem fX5_44 : Fl RX5 44 0 8 := ⟨_, rfl, by decide, Or.inr ⟨"LastScale", tb_n 155 (by decide +kernel) (by decide +kernel)⟩⟩
theorem fX5_51 : Fl RX5 51 0 6 := ⟨_, rfl, by decide, Or.inr ⟨"LastScale", tb_n 149 (by decide +kernel) (by decide +kernel)⟩⟩
theorem foX6_9 : FlO RX6 9 6 0 := ⟨_, rfl, by decide, tb_w 242 (by decide +kernel) (by decide +kernel)⟩
theorem fX6_9 : Fl RX6 9 6 0 := foX6_9.fl
theorem foX6_15 : FlO RX6 15 6 1 := ⟨_, rfl, by decide, tb_w 243 (by decide +kernel) (by decide +kernel)⟩
theorem fX6_15 : Fl RX6 15 6 1 := foX6_15.fl
theorem foX6_29 : FlO RX6 29 6 2 := ⟨_, rfl, by decide, tb_w 244 (by decide +kernel) (by decide +kernel)⟩
theorem fX6_29 : Fl RX6 29 6 2 := foX6_29.fl
theorem foX6_36 : FlO RX6 36 6 3 := ⟨_, rfl, by decide, tb_w 246 (by decide +kernel) (by decide +kernel)⟩
theorem fX6_36 : Fl RX6 36 6 3 := foX6_36.fl
theorem foX8_7 : FlO RX8 7 8 0 := ⟨_, rfl, by decide, tb_w 676 (by decide +kernel) (by decide +kernel)⟩
theorem fX8_7 : Fl RX8 7 8 0 := foX8_7.fl
theorem foX8_13 : FlO RX8 13 8 2 := ⟨_, rfl, by decide, tb_w 678 (by decide +kernel) (by decide +kernel)⟩
theorem fX8_13 : Fl RX8 13 8 2 := foX8_13.fl
theorem foX8_17 : FlO RX8 17 8 4 := ⟨_, rfl, by decide, tb_w 680 (by decide +kernel) (by decide +kernel)⟩
theorem fX8_17 : Fl RX8 17 8 4 := foX8_17.fl
theorem foX8_20 : FlO RX8 20 8 5 := ⟨_, rfl, by decide, tb_w 681 (by decide +kernel) (by decide +kernel)⟩
theorem fX8_20 : Fl RX8 20 8 5 := foX8_20.fl
theorem foX8_23 : FlO RX8 23 8 6 := ⟨_, rfl, by decide, tb_w 682 (by decide +kernel) (by decide +kernel)⟩
theorem fX8_23 : Fl RX8 23 8 6 := foX8_23.fl
theorem foX8_26 : FlO RX8 26 8 7 := ⟨_, rfl, by decide, tb_w 683 (by decide +kernel) (by decide +kernel)⟩
theorem fX8_26 : Fl RX8 26 8 7 := foX8_26.fl
theorem foX8_29 : FlO RX8 29 8 8 := ⟨_, rfl, by decide, tb_w 684 (by decide +kernel) (by decide +kernel)⟩
theorem fX8_29 : Fl RX8 29 8 8 := foX8_29.fl
theorem foX8_32 : FlO RX8 32 8 10 := ⟨_, rfl, by decide, tb_w 686 (by decide +kernel) (by decide +kernel)⟩
theorem fX8_32 : Fl RX8 32 8 10 := foX8_32.fl
theorem foX8_35 : FlO RX8 35 8 11 := ⟨_, rfl, by decide, tb_w 687 (by decide +kernel) (by decide +kernel)⟩
theorem fX8_35 : Fl RX8 35 8 11 := foX8_35.fl
theorem foX8_39 : FlO RX8 39 8 12 := ⟨_, rfl, by decide, tb_w 688 (by decide +kernel) (by decide +kernel)⟩
theorem fX8_39 : Fl RX8 39 8 12 := foX8_39.fl
theorem foX8_42 : FlO RX8 42 8 14 := ⟨_, rfl, by decide, tb_w 690 (by decide +kernel) (by decide +kernel)⟩
theorem fX8_42 : Fl RX8 42 8 14 := foX8_42.fl
theorem foX8_45 : FlO RX8 45 8 15 := ⟨_, rfl, by decide, tb_w 691 (by decide +kernel) (by decide +kernel)⟩
theorem fX8_45 : Fl RX8 45 8 15 := foX8_45.fl
theorem foX8_48 : FlO RX8 48 8 16 := ⟨_, rfl, by decide, tb_w 692 (by decide +kernel) (by decide +kernel)⟩
theorem fX8_48 : Fl RX8 48 8 16 := foX8_48.fl
theorem foX8_51 : FlO RX8 51 8 18 := ⟨_, rfl, by decide, tb_w 694 (by decide +kernel) (by decide +kernel)⟩
theorem fX8_51 : Fl RX8 51 8 18 := foX8_51.fl
theorem foX8_54 : FlO RX8 54 8 19 := ⟨_, rfl, by decide, tb_w 695 (by decide +kernel) (by decide +kernel)⟩
theorem fX8_54 : Fl RX8 54 8 19 := foX8_54.fl
theorem foX8_57 : FlO RX8 57 8 20 := ⟨_, rfl, by decide, tb_w 696 (by decide +kernel) (by decide +kernel)⟩
theorem fX8_57 : Fl RX8 57 8 20 := foX8_57.fl
theorem foX8_61 : FlO RX8 61 8 21 := ⟨_, rfl, by decide, tb_w 697 (by decide +kernel) (by decide +kernel)⟩
theorem fX8_61 : Fl RX8 61 8 21 := foX8_61.fl
theorem foX8_64 : FlO RX8 64 8 22 := ⟨_, rfl, by decide, tb_w 698 (by decide +kernel) (by decide +kernel)⟩
theorem fX8_64 : Fl RX8 64 8 22 := foX8_64.fl
theorem foX8_67 : FlO RX8 67 8 23 := ⟨_, rfl, by decide, tb_w 699 (by decide +kernel) (by decide +kernel)⟩
theorem fX8_67 : Fl RX8 67 8 23 := foX8_67.fl
theorem foX8_70 : FlO RX8 70 8 24 := ⟨_, rfl, by decide, tb_w 700 (by decide +kernel) (by decide +kernel)⟩
theorem fX8_70 : Fl RX8 70 8 24 := foX8_70.fl
theorem foX8_73 : FlO RX8 73 8 25 := ⟨_, rfl, by decide, tb_w 701 (by decide +kernel) (by decide +kernel)⟩
theorem fX8_73 : Fl RX8 73 8 25 := foX8_73.fl
theorem foX8_76 : FlO RX8 76 8 26 := ⟨_, rfl, by decide, tb_w 702 (by decide +kernel) (by decide +kernel)⟩
theorem fX8_76 : Fl RX8 76 8 26 := foX8_76.fl
theorem foX8_83 : FlO RX8 83 8 3 := ⟨_, rfl, by decide, tb_w 679 (by decide +kernel) (by decide +kernel)⟩
theorem fX8_83 : Fl RX8 83 8 3 := foX8_83.fl
theorem foX8_86 : FlO RX8 86 8 1 := ⟨_, rfl, by decide, tb_w 677 (by decide +kernel) (by decide +kernel)⟩
theorem fX8_86 : Fl RX8 86 8 1 := foX8_86.fl
theorem foX8_118 : FlO RX8 118 8 13 := ⟨_, rfl, by decide, tb_w 689 (by decide +kernel) (by decide +kernel)⟩
theorem fX8_118 : Fl RX8 118 8 13 := foX8_118.fl
theorem foX8_139 : FlO RX8 139 8 17 := ⟨_, rfl, by decide, tb_w 693 (by decide +kernel) (by decide +kernel)⟩
theorem fX8_139 : Fl RX8 139 8 17 := foX8_139.fl
theorem foX8_168 : FlO RX8 168 8 9 := ⟨_, rfl, by decide, tb_w 685 (by decide +kernel) (by decide +kernel)⟩
theorem fX8_168 : Fl RX8 168 8 9 := foX8_168.fl
theorem fi0_0 : Fin RX0 0 0 := ⟨_, rfl, rfl, rfl⟩
theorem ok0_0 {q : Nat} : Ok 0 0 (.ref q) := ⟨_, _, rfl, tyX0_ok 0 (by decide), rfl, rfl⟩
theorem fi0_1 : Fin RX0 0 1 := ⟨_, rfl, rfl, rfl⟩
theorem ok0_1 {q : Nat} : Ok 0 1 (.ref q) := ⟨_, _, rfl, tyX0_ok 1 (by decide), rfl, rfl⟩
theorem fi0_2 : Fin RX0 0 2 := ⟨_, rfl, rfl, rfl⟩
theorem ok0_2 {q : Nat} : Ok 0 2 (.ref q) := ⟨_, _, rfl, tyX0_ok 2 (by decide), rfl, rfl⟩
theorem fi0_3 : Fin RX0 0 3 := ⟨_, rfl, rfl, rfl⟩
theorem ok0_3 {q : Nat} : Ok 0 3 (.ref q) := ⟨_, _, rfl, tyX0_ok 3 (by decide), rfl, rfl⟩
theorem fi0_4 : Fin RX0 0 4 := ⟨_, rfl, rfl, rfl⟩
theorem ok0_4 {q : Nat} : Ok 0 4 (.ref q) := ⟨_, _, rfl, tyX0_ok 4 (by decide), rfl, rfl⟩
theorem fi0_5 : Fin RX0 0 5 := ⟨_, rfl, rfl, rfl⟩
theorem ok0_5 {q : Nat} : Ok 0 5 (.ref q) := ⟨_, _, rfl, tyX0_ok 5 (by decide), rfl, rfl⟩
theorem nf0_6 : Nf 0 6 := ⟨_, rfl, rfl⟩
theorem ok0_6 {x : Int} : Ok 0 6 (vi x) := ⟨_, .int, rfl, tyX0_ok 6 (by decide), rfl, rfl⟩
theorem nf0_7 : Nf 0 7 := ⟨_, rfl, rfl⟩
theorem ok0_7 {x : Int} : Ok 0 7 (vi x) := ⟨_, .int, rfl, tyX0_ok 7 (by decide), rfl, rfl⟩
theorem nf0_8 : Nf 0 8 := ⟨_, rfl, rfl⟩
theorem ok0_8 {x : Int} : Ok 0 8 (vi x) := ⟨_, .int, rfl, tyX0_ok 8 (by decide), rfl, rfl⟩
theorem nf1_0 : Nf 1 0 := ⟨_, rfl, rfl⟩
theorem ok1_0 {x : Int} : Ok 1 0 (vi x) := ⟨_, .int, rfl, tyX1_ok 0 (by decide), rfl, rfl⟩
theorem nf1_1 : Nf 1 1 := ⟨_, rfl, rfl⟩
theorem ok1_1 {x : Int} : Ok 1 1 (vi x) := ⟨_, .int, rfl, tyX1_ok 1 (by decide), rfl, rfl⟩
theorem nf1_2 : Nf 1 2 := ⟨_, rfl, rfl⟩
theorem ok1_2 {x : Int} : Ok 1 2 (vi x) := ⟨_, .int, rfl, tyX1_ok 2 (by decide), rfl, rfl⟩
theorem fi2_0 : Fin RX2 2 0 := ⟨_, rfl, rfl, rfl⟩
theorem ok2_0 {q : Nat} : Ok 2 0 (.ref q) := ⟨_, _, rfl, tyX2_ok 0 (by decide), rfl, rfl⟩
theorem nf2_1 : Nf 2 1 := ⟨_, rfl, rfl⟩
theorem ok2_1 {x : Int} : Ok 2 1 (vi x) := ⟨_, .int, rfl, tyX2_ok 1 (by decide), rfl, rfl⟩
theorem fi3_0 : Fin RX3 3 0 := ⟨_, rfl, rfl, rfl⟩
theorem ok3_0 {x : Int} : Ok 3 0 (vi x) := ⟨_, .int, rfl, tyX3_ok 0 (by decide), rfl, rfl⟩
theorem fi3_1 : Fin RX3 3 1 := ⟨_, rfl, rfl, rfl⟩
theorem ok3_1 {x : Int} : Ok 3 1 (vi x) := ⟨_, .int, rfl, tyX3_ok 1 (by decide), rfl, rfl⟩
theorem fi3_2 : Fin RX3 3 2 := ⟨_, rfl, rfl, rfl⟩
theorem ok3_2 {q : Nat} : Ok 3 2 (.ref q) := ⟨_, _, rfl, tyX3_ok 2 (by decide), rfl, rfl⟩
theorem fi4_0 : Fin RX4 4 0 := ⟨_, rfl, rfl, rfl⟩
theorem ok4_0 {q : Nat} : Ok 4 0 (.ref q) := ⟨_, _, rfl, tyX4_ok 0 (by decide), rfl, rfl⟩
theorem fi4_1 : Fin RX4 4 1 := ⟨_, rfl, rfl, rfl⟩
theorem ok4_1 {q : Nat} : Ok 4 1 (.ref q) := ⟨_, _, rfl, tyX4_ok 1 (by decide), rfl, rfl⟩
theorem nf4_2 : Nf 4 2 := ⟨_, rfl, rfl⟩
theorem ok4_2 {x : Int} : Ok 4 2 (vi x) := ⟨_, .int, rfl, tyX4_ok 2 (by decide), rfl, rfl⟩
theorem nf4_3 : Nf 4 3 := ⟨_, rfl, rfl⟩
theorem ok4_3 {x : Int} (h : x = 0 ∨ x = 1) : Ok 4 3 (vi x) := ⟨_, .boolean, rfl, tyX4_ok 3 (by decide), by rcases h with rfl | rfl <;> rfl, by rcases h with rfl | rfl <;> rfl⟩
theorem fi5_0 : Fin RX5 5 0 := ⟨_, rfl, rfl, rfl⟩
theorem ok5_0 {q : Nat} : Ok 5 0 (.ref q) := ⟨_, _, rfl, tyX5_ok 0 (by decide), rfl, rfl⟩
theorem fi5_1 : Fin RX5 5 1 := ⟨_, rfl, rfl, rfl⟩
theorem ok5_1 {q : Nat} : Ok 5 1 (.ref q) := ⟨_, _, rfl, tyX5_ok 1 (by decide), rfl, rfl⟩
theorem nf5_2 : Nf 5 2 := ⟨_, rfl, rfl⟩
theorem ok5_2 {x : Int} (h : x = 0 ∨ x = 1) : Ok 5 2 (vi x) := ⟨_, .boolean, rfl, tyX5_ok 2 (by decide), by rcases h with rfl | rfl <;> rfl, by rcases h with rfl | rfl <;> rfl⟩
theorem fi6_0 : Fin RX6 6 0 := ⟨_, rfl, rfl, rfl⟩
theorem ok6_0 {q : Nat} : Ok 6 0 (.ref q) := ⟨_, _, rfl, tyX6_ok 0 (by decide), rfl, rfl⟩
theorem nf6_1 : Nf 6 1 := ⟨_, rfl, rfl⟩
theorem ok6_1 {x : Int} : Ok 6 1 (vi x) := ⟨_, .int, rfl, tyX6_ok 1 (by decide), rfl, rfl⟩
theorem nf6_2 : Nf 6 2 := ⟨_, rfl, rfl⟩
theorem ok6_2 {x : Int} : Ok 6 2 (vi x) := ⟨_, .int, rfl, tyX6_ok 2 (by decide), rfl, rfl⟩
theorem nf6_3 : Nf 6 3 := ⟨_, rfl, rfl⟩
theorem ok6_3 {x : Int} : Ok 6 3 (vi x) := ⟨_, .int, rfl, tyX6_ok 3 (by decide), rfl, rfl⟩
theorem fi7_0 : Fin RX7 7 0 := ⟨_, rfl, rfl, rfl⟩
theorem ok7_0 {q : Nat} : Ok 7 0 (.ref q) := ⟨_, _, rfl, tyX7_ok 0 (by decide), rfl, rfl⟩
theorem fi7_1 : Fin RX7 7 1 := ⟨_, rfl, rfl, rfl⟩
theorem ok7_1 {q : Nat} : Ok 7 1 (.ref q) := ⟨_, _, rfl, tyX7_ok 1 (by decide), rfl, rfl⟩
theorem fi7_2 : Fin RX7 7 2 := ⟨_, rfl, rfl, rfl⟩
theorem ok7_2 {q : Nat} : Ok 7 2 (.ref q) := ⟨_, _, rfl, tyX7_ok 2 (by decide), rfl, rfl⟩
theorem fi7_3 : Fin RX7 7 3 := ⟨_, rfl, rfl, rfl⟩
theorem ok7_3 {q : Nat} : Ok 7 3 (.ref q) := ⟨_, _, rfl, tyX7_ok 3 (by decide), rfl, rfl⟩
theorem fi7_4 : Fin RX7 7 4 := ⟨_, rfl, rfl, rfl⟩
theorem ok7_4 {q : Nat} : Ok 7 4 (.ref q) := ⟨_, _, rfl, tyX7_ok 4 (by decide), rfl, rfl⟩
theorem fi7_5 : Fin RX7 7 5 := ⟨_, rfl, rfl, rfl⟩
theorem ok7_5 {q : Nat} : Ok 7 5 (.ref q) := ⟨_, _, rfl, tyX7_ok 5 (by decide), rfl, rfl⟩
theorem fi7_6 : Fin RX7 7 6 := ⟨_, rfl, rfl, rfl⟩
theorem ok7_6 {q : Nat} : Ok 7 6 (.ref q) := ⟨_, _, rfl, tyX7_ok 6 (by decide), rfl, rfl⟩
theorem fi7_7 : Fin RX7 7 7 := ⟨_, rfl, rfl, rfl⟩
theorem ok7_7 {q : Nat} : Ok 7 7 (.ref q) := ⟨_, _, rfl, tyX7_ok 7 (by decide), rfl, rfl⟩
theorem nf8_0 : Nf 8 0 := ⟨_, rfl, rfl⟩
theorem ok8_0 {x : Int} : Ok 8 0 (vi x) := ⟨_, .int, rfl, tyX8_ok 0 (by decide), rfl, rfl⟩
theorem nf8_1 : Nf 8 1 := ⟨_, rfl, rfl⟩
theorem ok8_1 {x : Int} : Ok 8 1 (vi x) := ⟨_, .int, rfl, tyX8_ok 1 (by decide), rfl, rfl⟩
theorem fi8_2 : Fin RX8 8 2 := ⟨_, rfl, rfl, rfl⟩
theorem ok8_2 {q : Nat} : Ok 8 2 (.ref q) := ⟨_, _, rfl, tyX8_ok 2 (by decide), rfl, rfl⟩
theorem nf8_3 : Nf 8 3 := ⟨_, rfl, rfl⟩
theorem ok8_3 {x : Int} : Ok 8 3 (vi x) := ⟨_, .int, rfl, tyX8_ok 3 (by decide), rfl, rfl⟩
theorem fi8_4 : Fin RX8 8 4 := ⟨_, rfl, rfl, rfl⟩
theorem ok8_4 {q : Nat} : Ok 8 4 (.ref q) := ⟨_, _, rfl, tyX8_ok 4 (by decide), rfl, rfl⟩
theorem fi8_5 : Fin RX8 8 5 := ⟨_, rfl, rfl, rfl⟩
theorem ok8_5 {q : Nat} : Ok 8 5 (.ref q) := ⟨_, _, rfl, tyX8_ok 5 (by decide), rfl, rfl⟩
theorem fi8_6 : Fin RX8 8 6 := ⟨_, rfl, rfl, rfl⟩
theorem ok8_6 {q : Nat} : Ok 8 6 (.ref q) := ⟨_, _, rfl, tyX8_ok 6 (by decide), rfl, rfl⟩
theorem fi8_7 : Fin RX8 8 7 := ⟨_, rfl, rfl, rfl⟩
theorem ok8_7 {q : Nat} : Ok 8 7 (.ref q) := ⟨_, _, rfl, tyX8_ok 7 (by decide), rfl, rfl⟩
theorem fi8_8 : Fin RX8 8 8 := ⟨_, rfl, rfl, rfl⟩
theorem ok8_8 {q : Nat} : Ok 8 8 (.ref q) := ⟨_, _, rfl, tyX8_ok 8 (by decide), rfl, rfl⟩
theorem nf8_9 : Nf 8 9 := ⟨_, rfl, rfl⟩
theorem ok8_9 {x : Int} : Ok 8 9 (vi x) := ⟨_, .int, rfl, tyX8_ok 9 (by decide), rfl, rfl⟩
theorem fi8_10 : Fin RX8 8 10 := ⟨_, rfl, rfl, rfl⟩
theorem ok8_10 {q : Nat} : Ok 8 10 (.ref q) := ⟨_, _, rfl, tyX8_ok 10 (by decide), rfl, rfl⟩
theorem fi8_11 : Fin RX8 8 11 := ⟨_, rfl, rfl, rfl⟩
theorem ok8_11 {q : Nat} : Ok 8 11 (.ref q) := ⟨_, _, rfl, tyX8_ok 11 (by decide), rfl, rfl⟩
theorem fi8_12 : Fin RX8 8 12 := ⟨_, rfl, rfl, rfl⟩
theorem ok8_12 {q : Nat} : Ok 8 12 (.ref q) := ⟨_, _, rfl, tyX8_ok 12 (by decide), rfl, rfl⟩
theorem nf8_13 : Nf 8 13 := ⟨_, rfl, rfl⟩
theorem ok8_13 {x : Int} : Ok 8 13 (vi x) := ⟨_, .int, rfl, tyX8_ok 13 (by decide), rfl, rfl⟩
theorem fi8_14 : Fin RX8 8 14 := ⟨_, rfl, rfl, rfl⟩
theorem ok8_14 {q : Nat} : Ok 8 14 (.ref q) := ⟨_, _, rfl, tyX8_ok 14 (by decide), rfl, rfl⟩
theorem fi8_15 : Fin RX8 8 15 := ⟨_, rfl, rfl, rfl⟩
theorem ok8_15 {q : Nat} : Ok 8 15 (.ref q) := ⟨_, _, rfl, tyX8_ok 15 (by decide), rfl, rfl⟩
theorem fi8_16 : Fin RX8 8 16 := ⟨_, rfl, rfl, rfl⟩
theorem ok8_16 {q : Nat} : Ok 8 16 (.ref q) := ⟨_, _, rfl, tyX8_ok 16 (by decide), rfl, rfl⟩
theorem nf8_17 : Nf 8 17 := ⟨_, rfl, rfl⟩
theorem ok8_17 {x : Int} : Ok 8 17 (vi x) := ⟨_, .int, rfl, tyX8_ok 17 (by decide), rfl, rfl⟩
theorem fi8_18 : Fin RX8 8 18 := ⟨_, rfl, rfl, rfl⟩
theorem ok8_18 {q : Nat} : Ok 8 18 (.ref q) := ⟨_, _, rfl, tyX8_ok 18 (by decide), rfl, rfl⟩
theorem fi8_19 : Fin RX8 8 19 := ⟨_, rfl, rfl, rfl⟩
theorem ok8_19 {q : Nat} : Ok 8 19 (.ref q) := ⟨_, _, rfl, tyX8_ok 19 (by decide), rfl, rfl⟩
theorem fi8_20 : Fin RX8 8 20 := ⟨_, rfl, rfl, rfl⟩
theorem ok8_20 {q : Nat} : Ok 8 20 (.ref q) := ⟨_, _, rfl, tyX8_ok 20 (by decide), rfl, rfl⟩
theorem fi8_21 : Fin RX8 8 21 := ⟨_, rfl, rfl, rfl⟩
theorem ok8_21 {q : Nat} : Ok 8 21 (.ref q) := ⟨_, _, rfl, tyX8_ok 21 (by decide), rfl, rfl⟩
theorem fi8_22 : Fin RX8 8 22 := ⟨_, rfl, rfl, rfl⟩
theorem ok8_22 {q : Nat} : Ok 8 22 (.ref q) := ⟨_, _, rfl, tyX8_ok 22 (by decide), rfl, rfl⟩
theorem fi8_23 : Fin RX8 8 23 := ⟨_, rfl, rfl, rfl⟩
theorem ok8_23 {q : Nat} : Ok 8 23 (.ref q) := ⟨_, _, rfl, tyX8_ok 23 (by decide), rfl, rfl⟩
theorem fi8_24 : Fin RX8 8 24 := ⟨_, rfl, rfl, rfl⟩
theorem ok8_24 {q : Nat} : Ok 8 24 (.ref q) := ⟨_, _, rfl, tyX8_ok 24 (by decide), rfl, rfl⟩
theorem fi8_25 : Fin RX8 8 25 := ⟨_, rfl, rfl, rfl⟩
theorem ok8_25 {q : Nat} : Ok 8 25 (.ref q) := ⟨_, _, rfl, tyX8_ok 25 (by decide), rfl, rfl⟩
theorem fi8_26 : Fin RX8 8 26 := ⟨_, rfl, rfl, rfl⟩
theorem ok8_26 {q : Nat} : Ok 8 26 (.ref q) := ⟨_, _, rfl, tyX8_ok 26 (by decide), rfl, rfl⟩
def allCodes : List Cond := [
  Cond.code yJ6_bitCount_0f7a4 cJ6_bitCount_0f7a4 1 (some FieldType.int),
  Cond.code yJ6_compare_7cf53 cJ6_compare_7cf53 2 (some FieldType.int),
  Cond.code yJ9_max_7cf53 cJ9_max_7cf53 2 (some FieldType.int),
  Cond.code yJ9_min_7cf53 cJ9_min_7cf53 2 (some FieldType.int),
  Cond.code yX0_addSaying cX0_addSaying 5 none,
  Cond.code yX0_beginWith cX0_beginWith 3 none,
  Cond.code yX0_copyFrom cX0_copyFrom 3 none,
  Cond.code yX0_has cX0_has 2 (some FieldType.boolean),
  Cond.code yX0_init cX0_init 2 none,
  Cond.code yX0_write cX0_write 4 none,
  Cond.code yX1_find cX1_find 5 none,
  Cond.code yX1_init cX1_init 1 none,
  Cond.code yX1_take cX1_take 3 none,
  Cond.code yX2_clear cX2_clear 1 none,
  Cond.code yX2_firstFault cX2_firstFault 3 (some FieldType.int),
  Cond.code yX2_howAt cX2_howAt 3 (some FieldType.int),
  Cond.code yX2_init cX2_init 1 none,
  Cond.code yX2_mayStand cX2_mayStand 4 (some FieldType.boolean),
  Cond.code yX2_put cX2_put 2 none,
  Cond.code yX2_sackAt cX2_sackAt 2 (some FieldType.int),
  Cond.code yX3_codeOf cX3_codeOf 5 (some FieldType.int),
  Cond.code yX3_costOfLaying cX3_costOfLaying 6 (some FieldType.int),
  Cond.code yX3_costWith cX3_costWith 2 (some FieldType.int),
  Cond.code yX3_costs cX3_costs 4 (some FieldType.int),
  Cond.code yX3_fewestLifts cX3_fewestLifts 5 (some FieldType.int),
  Cond.code yX3_findCosts cX3_findCosts 8 (some FieldType.int),
  Cond.code yX3_firstOf cX3_firstOf 5 (some FieldType.int),
  Cond.code yX3_init cX3_init 2 none,
  Cond.code yX3_isOpen cX3_isOpen 3 (some FieldType.boolean),
  Cond.code yX3_isWhole cX3_isWhole 2 (some FieldType.boolean),
  Cond.code yX3_joined cX3_joined 7 (some FieldType.int),
  Cond.code yX3_pair cX3_pair 2 (some FieldType.int),
  Cond.code yX3_withDetours cX3_withDetours 8 (some FieldType.int),
  Cond.code yX3_withLess cX3_withLess 4 (some FieldType.int),
  Cond.code yX3_worse cX3_worse 3 (some FieldType.int),
  Cond.code yX4_against cX4_against 3 (some FieldType.int),
  Cond.code yX4_believe cX4_believe 4 none,
  Cond.code yX4_close cX4_close 3 none,
  Cond.code yX4_contradicts cX4_contradicts 2 (some FieldType.boolean),
  Cond.code yX4_greatestRank cX4_greatestRank 4 (some FieldType.int),
  Cond.code yX4_groupCount cX4_groupCount 1 (some FieldType.int),
  Cond.code yX4_groupOf cX4_groupOf 4 (some FieldType.int),
  Cond.code yX4_heavierLeaders cX4_heavierLeaders 4 (some FieldType.int),
  Cond.code yX4_init cX4_init 1 none,
  Cond.code yX4_isAlike cX4_isAlike 3 (some FieldType.boolean),
  Cond.code yX4_isHeavier cX4_isHeavier 3 (some FieldType.boolean),
  Cond.code yX4_isLeader cX4_isLeader 3 (some FieldType.boolean),
  Cond.code yX4_isNoLess cX4_isNoLess 3 (some FieldType.boolean),
  Cond.code yX4_leaderOf cX4_leaderOf 4 (some FieldType.int),
  Cond.code yX4_leaders cX4_leaders 3 (some FieldType.int),
  Cond.code yX4_leastRank cX4_leastRank 2 (some FieldType.int),
  Cond.code yX4_openPairs cX4_openPairs 4 (some FieldType.int),
  Cond.code yX4_orderCount cX4_orderCount 3 (some FieldType.int),
  Cond.code yX4_read cX4_read 4 none,
  Cond.code yX4_waysToBegin cX4_waysToBegin 5 (some FieldType.int),
  Cond.code yX5_allFit cX5_allFit 3 (some FieldType.boolean),
  Cond.code yX5_hear cX5_hear 6 none,
  Cond.code yX5_init cX5_init 1 none,
  Cond.code yX5_keepAbove cX5_keepAbove 4 none,
  Cond.code yX5_settle cX5_settle 4 (some FieldType.boolean),
  Cond.code yX6_advance cX6_advance 5 (some FieldType.boolean),
  Cond.code yX6_findExtreme cX6_findExtreme 6 none,
  Cond.code yX6_init cX6_init 1 none,
  Cond.code yX6_number cX6_number 3 (some FieldType.int),
  Cond.code yX6_pairsLeftOpen cX6_pairsLeftOpen 7 (some FieldType.int),
  Cond.code yX6_readNumber cX6_readNumber 7 (some FieldType.boolean),
  Cond.code yX6_swap cX6_swap 4 none,
  Cond.code yX7_fault cX7_fault 1 (some FieldType.int),
  Cond.code yX7_follows cX7_follows 3 (some FieldType.int),
  Cond.code yX7_groupOrder cX7_groupOrder 5 (some FieldType.int),
  Cond.code yX7_image cX7_image 3 (some FieldType.int),
  Cond.code yX7_init cX7_init 1 none,
  Cond.code yX7_isEnd cX7_isEnd 1 (some FieldType.boolean),
  Cond.code yX7_known cX7_known 4 (some FieldType.int),
  Cond.code yX7_leaves cX7_leaves 2 (some FieldType.int),
  Cond.code yX7_lies cX7_lies 2 (some FieldType.int),
  Cond.code yX7_line cX7_line 1 (some FieldType.int),
  Cond.code yX7_lineBy cX7_lineBy 3 (some FieldType.int),
  Cond.code yX7_loss cX7_loss 3 (some FieldType.int),
  Cond.code yX7_more cX7_more 9 (some FieldType.int),
  Cond.code yX7_open cX7_open 3 (some FieldType.int),
  Cond.code yX7_orders cX7_orders 1 (some FieldType.int),
  Cond.code yX7_paymentOf cX7_paymentOf 7 (some FieldType.int),
  Cond.code yX7_paymentOfAll cX7_paymentOfAll 4 (some FieldType.int),
  Cond.code yX7_pays cX7_pays 3 (some FieldType.int),
  Cond.code yX7_plannerFor cX7_plannerFor 3 (some (FieldType.object "LastScale$Planner")),
  Cond.code yX7_rank cX7_rank 3 (some FieldType.int),
  Cond.code yX7_readBook cX7_readBook 1 (some FieldType.boolean),
  Cond.code yX7_restore cX7_restore 3 (some FieldType.int),
  Cond.code yX7_sacks cX7_sacks 3 (some FieldType.int),
  Cond.code yX7_say cX7_say 2 (some FieldType.int),
  Cond.code yX7_saying cX7_saying 3 (some FieldType.int),
  Cond.code yX7_span cX7_span 3 (some FieldType.int),
  Cond.code yX7_strike cX7_strike 1 (some FieldType.int),
  Cond.code yX7_told cX7_told 2 (some FieldType.int),
  Cond.code yX7_toldOfRow cX7_toldOfRow 4 (some FieldType.int),
  Cond.code yX7_toll cX7_toll 4 (some FieldType.int),
  Cond.code yX7_weight cX7_weight 4 (some FieldType.int),
  Cond.code yX7_wipe cX7_wipe 2 (some FieldType.int),
  Cond.code yX8_bits cX8_bits 3 (some FieldType.int),
  Cond.code yX8_canSpan cX8_canSpan 3 (some FieldType.boolean),
  Cond.code yX8_clear cX8_clear 2 none,
  Cond.code yX8_close cX8_close 4 (some FieldType.boolean),
  Cond.code yX8_does cX8_does 6 (some FieldType.boolean),
  Cond.code yX8_fault cX8_fault 1 (some FieldType.int),
  Cond.code yX8_faultOf cX8_faultOf 5 (some FieldType.int),
  Cond.code yX8_follow cX8_follow 3 (some FieldType.boolean),
  Cond.code yX8_followAll cX8_followAll 1 (some FieldType.boolean),
  Cond.code yX8_follows cX8_follows 3 (some FieldType.int),
  Cond.code yX8_image cX8_image 4 (some FieldType.int),
  Cond.code yX8_in cX8_in 3 (some FieldType.boolean),
  Cond.code yX8_init cX8_init 2 none,
  Cond.code yX8_isOpen cX8_isOpen 3 (some FieldType.boolean),
  Cond.code yX8_isOver cX8_isOver 3 (some FieldType.boolean),
  Cond.code yX8_isSack cX8_isSack 2 (some FieldType.boolean),
  Cond.code yX8_isWhole cX8_isWhole 5 (some FieldType.boolean),
  Cond.code yX8_known cX8_known 4 (some FieldType.int),
  Cond.code yX8_laid cX8_laid 6 (some FieldType.int),
  Cond.code yX8_layGroups cX8_layGroups 4 none,
  Cond.code yX8_layOrder cX8_layOrder 6 (some FieldType.boolean),
  Cond.code yX8_laySpans cX8_laySpans 10 (some FieldType.boolean),
  Cond.code yX8_layStands cX8_layStands 9 none,
  Cond.code yX8_layValues cX8_layValues 5 none,
  Cond.code yX8_leaves cX8_leaves 2 (some FieldType.int),
  Cond.code yX8_leftOpen cX8_leftOpen 4 (some FieldType.int),
  Cond.code yX8_lies cX8_lies 8 (some FieldType.int),
  Cond.code yX8_line cX8_line 4 (some FieldType.int),
  Cond.code yX8_lineBy cX8_lineBy 9 (some FieldType.int),
  Cond.code yX8_loss cX8_loss 3 (some FieldType.int),
  Cond.code yX8_more cX8_more 6 (some FieldType.int),
  Cond.code yX8_open cX8_open 3 (some FieldType.int),
  Cond.code yX8_openPairs cX8_openPairs 4 (some FieldType.int),
  Cond.code yX8_orders cX8_orders 5 (some FieldType.int),
  Cond.code yX8_pays cX8_pays 5 (some FieldType.int),
  Cond.code yX8_paysOf cX8_paysOf 6 (some FieldType.int),
  Cond.code yX8_press cX8_press 5 (some FieldType.boolean),
  Cond.code yX8_put cX8_put 4 none,
  Cond.code yX8_rank cX8_rank 3 (some FieldType.int),
  Cond.code yX8_rankOf cX8_rankOf 6 (some FieldType.int),
  Cond.code yX8_restore cX8_restore 4 (some FieldType.int),
  Cond.code yX8_sacks cX8_sacks 4 (some FieldType.int),
  Cond.code yX8_say cX8_say 2 (some FieldType.int),
  Cond.code yX8_saying cX8_saying 3 (some FieldType.int),
  Cond.code yX8_slot cX8_slot 3 (some FieldType.int),
  Cond.code yX8_span cX8_span 3 (some FieldType.int),
  Cond.code yX8_stand cX8_stand 4 (some FieldType.int),
  Cond.code yX8_strike cX8_strike 1 (some FieldType.int),
  Cond.code yX8_told cX8_told 3 (some FieldType.int),
  Cond.code yX8_toll cX8_toll 4 (some FieldType.int),
  Cond.code yX8_weight cX8_weight 4 (some FieldType.int),
  Cond.code yX8_wipe cX8_wipe 2 (some FieldType.int),
  Cond.code yX8_with cX8_with 9 (some FieldType.int)
  ]
set_option maxRecDepth 100000 in
set_option maxHeartbeats 4000000 in
theorem tb_codes : ∀ w ∈ allCodes, w ∈ lw_tbl := fun w h => (goodIn_p allCodes [408, 626, 469, 466, 336, 129, 655, 352, 122, 324, 601, 221, 607, 304, 312, 332, 106, 316, 296, 328, 529, 558, 547, 525, 516, 534, 562, 481, 537, 520, 541, 512, 554, 550, 544, 380, 364, 368, 376, 434, 397, 500, 426, 182, 384, 430, 405, 372, 508, 401, 422, 392, 443, 360, 447, 593, 585, 203, 589, 578, 643, 634, 240, 638, 623, 619, 647, 308, 348, 504, 651, 98, 418, 566, 615, 597, 320, 630, 570, 473, 388, 439, 463, 459, 455, 477, 415, 356, 660, 287, 292, 344, 574, 340, 664, 668, 451, 611, 300, 932, 921, 813, 821, 901, 777, 781, 809, 805, 801, 956, 765, 673, 837, 885, 785, 882, 905, 889, 829, 944, 917, 869, 897, 940, 948, 929, 789, 952, 909, 865, 825, 833, 849, 857, 861, 925, 817, 841, 845, 960, 762, 769, 797, 876, 913, 873, 793, 964, 853, 936, 773, 893] rfl (by decide +kernel) w h).1
theorem tb_c {w : Cond} (i : Nat) (h : allCodes[i]? = some w) (g : goodWord w = true) : w ∈ TBL := List.mem_filter.mpr ⟨tb_codes w (List.mem_of_getElem? h), g⟩
theorem mJ6_bitCount_0f7a4 : Mt yJ6_bitCount_0f7a4 cJ6_bitCount_0f7a4 1 (some FieldType.int) 1 := ⟨tb_c 0 rfl rfl, tb_w 90 (by decide +kernel) (by decide +kernel), ⟨by decide, by decide⟩, by decide, by decide +kernel⟩
theorem sJ6_bitCount_0f7a4 : Cond.static yJ6_bitCount_0f7a4 ∈ TBL := tb_w 407 (by decide +kernel) (by decide +kernel)
theorem mJ6_compare_7cf53 : Mt yJ6_compare_7cf53 cJ6_compare_7cf53 2 (some FieldType.int) 2 := ⟨tb_c 1 rfl rfl, tb_w 90 (by decide +kernel) (by decide +kernel), ⟨by decide, by decide⟩, by decide, by decide +kernel⟩
theorem sJ6_compare_7cf53 : Cond.static yJ6_compare_7cf53 ∈ TBL := tb_w 625 (by decide +kernel) (by decide +kernel)
theorem mJ9_max_7cf53 : Mt yJ9_max_7cf53 cJ9_max_7cf53 2 (some FieldType.int) 2 := ⟨tb_c 2 rfl rfl, tb_w 91 (by decide +kernel) (by decide +kernel), ⟨by decide, by decide⟩, by decide, by decide +kernel⟩
theorem sJ9_max_7cf53 : Cond.static yJ9_max_7cf53 ∈ TBL := tb_w 468 (by decide +kernel) (by decide +kernel)
theorem mJ9_min_7cf53 : Mt yJ9_min_7cf53 cJ9_min_7cf53 2 (some FieldType.int) 2 := ⟨tb_c 3 rfl rfl, tb_w 91 (by decide +kernel) (by decide +kernel), ⟨by decide, by decide⟩, by decide, by decide +kernel⟩
theorem sJ9_min_7cf53 : Cond.static yJ9_min_7cf53 ∈ TBL := tb_w 465 (by decide +kernel) (by decide +kernel)
theorem mX0_addSaying : Mt yX0_addSaying cX0_addSaying 5 none 3 := ⟨tb_c 4 rfl rfl, tb_w 84 (by decide +kernel) (by decide +kernel), ⟨by decide, by decide⟩, by decide, by decide +kernel⟩
theorem vX0_addSaying : Mv yX0_addSaying := ⟨tb_w 335 (by decide +kernel) (by decide +kernel), tb_w 8 (by decide +kernel) (by decide +kernel)⟩
theorem mX0_beginWith : Mt yX0_beginWith cX0_beginWith 3 none 1 := ⟨tb_c 5 rfl rfl, tb_w 84 (by decide +kernel) (by decide +kernel), ⟨by decide, by decide⟩, by decide, by decide +kernel⟩
theorem vX0_beginWith : Mv yX0_beginWith := ⟨tb_w 128 (by decide +kernel) (by decide +kernel), tb_w 0 (by decide +kernel) (by decide +kernel)⟩
theorem mX0_copyFrom : Mt yX0_copyFrom cX0_copyFrom 3 none 1 := ⟨tb_c 6 rfl rfl, tb_w 84 (by decide +kernel) (by decide +kernel), ⟨by decide, by decide⟩, by decide, by decide +kernel⟩
theorem vX0_copyFrom : Mv yX0_copyFrom := ⟨tb_w 654 (by decide +kernel) (by decide +kernel), tb_w 55 (by decide +kernel) (by decide +kernel)⟩
theorem mX0_has : Mt yX0_has cX0_has 2 (some FieldType.boolean) 1 := ⟨tb_c 7 rfl rfl, tb_w 84 (by decide +kernel) (by decide +kernel), ⟨by decide, by decide⟩, by decide, by decide +kernel⟩
theorem vX0_has : Mv yX0_has := ⟨tb_w 351 (by decide +kernel) (by decide +kernel), tb_w 9 (by decide +kernel) (by decide +kernel)⟩
theorem mX0_init : Mt yX0_init cX0_init 2 none 0 := ⟨tb_c 8 rfl rfl, tb_w 84 (by decide +kernel) (by decide +kernel), ⟨by decide, by decide⟩, by decide, by decide +kernel⟩
theorem viX0_init : Cond.instanceMethod yX0_init ∈ TBL := tb_w 121 (by decide +kernel) (by decide +kernel)
theorem mX0_write : Mt yX0_write cX0_write 4 none 1 := ⟨tb_c 9 rfl rfl, tb_w 84 (by decide +kernel) (by decide +kernel), ⟨by decide, by decide⟩, by decide, by decide +kernel⟩
theorem vX0_write : Mv yX0_write := ⟨tb_w 323 (by decide +kernel) (by decide +kernel), tb_w 5 (by decide +kernel) (by decide +kernel)⟩
theorem mX1_find : Mt yX1_find cX1_find 5 none 2 := ⟨tb_c 10 rfl rfl, tb_w 87 (by decide +kernel) (by decide +kernel), ⟨by decide, by decide⟩, by decide, by decide +kernel⟩
theorem vX1_find : Mv yX1_find := ⟨tb_w 600 (by decide +kernel) (by decide +kernel), tb_w 47 (by decide +kernel) (by decide +kernel)⟩
theorem mX1_init : Mt yX1_init cX1_init 1 none 0 := ⟨tb_c 11 rfl rfl, tb_w 87 (by decide +kernel) (by decide +kernel), ⟨by decide, by decide⟩, by decide, by decide +kernel⟩
theorem viX1_init : Cond.instanceMethod yX1_init ∈ TBL := tb_w 220 (by decide +kernel) (by decide +kernel)
theorem mX1_take : Mt yX1_take cX1_take 3 none 2 := ⟨tb_c 12 rfl rfl, tb_w 87 (by decide +kernel) (by decide +kernel), ⟨by decide, by decide⟩, by decide, by decide +kernel⟩
theorem vX1_take : Mv yX1_take := ⟨tb_w 606 (by decide +kernel) (by decide +kernel), tb_w 48 (by decide +kernel) (by decide +kernel)⟩
theorem mX2_clear : Mt yX2_clear cX2_clear 1 none 0 := ⟨tb_c 13 rfl rfl, tb_w 83 (by decide +kernel) (by decide +kernel), ⟨by decide, by decide⟩, by decide, by decide +kernel⟩
theorem vX2_clear : Mv yX2_clear := ⟨tb_w 303 (by decide +kernel) (by decide +kernel), tb_w 2 (by decide +kernel) (by decide +kernel)⟩
theorem mX2_firstFault : Mt yX2_firstFault cX2_firstFault 3 (some FieldType.int) 1 := ⟨tb_c 14 rfl rfl, tb_w 83 (by decide +kernel) (by decide +kernel), ⟨by decide, by decide⟩, by decide, by decide +kernel⟩
theorem vX2_firstFault : Mv yX2_firstFault := ⟨tb_w 311 (by decide +kernel) (by decide +kernel), tb_w 3 (by decide +kernel) (by decide +kernel)⟩
theorem mX2_howAt : Mt yX2_howAt cX2_howAt 3 (some FieldType.int) 1 := ⟨tb_c 15 rfl rfl, tb_w 83 (by decide +kernel) (by decide +kernel), ⟨by decide, by decide⟩, by decide, by decide +kernel⟩
theorem vX2_howAt : Mv yX2_howAt := ⟨tb_w 331 (by decide +kernel) (by decide +kernel), tb_w 7 (by decide +kernel) (by decide +kernel)⟩
theorem mX2_init : Mt yX2_init cX2_init 1 none 0 := ⟨tb_c 16 rfl rfl, tb_w 83 (by decide +kernel) (by decide +kernel), ⟨by decide, by decide⟩, by decide, by decide +kernel⟩
theorem viX2_init : Cond.instanceMethod yX2_init ∈ TBL := tb_w 105 (by decide +kernel) (by decide +kernel)
theorem mX2_mayStand : Mt yX2_mayStand cX2_mayStand 4 (some FieldType.boolean) 2 := ⟨tb_c 17 rfl rfl, tb_w 83 (by decide +kernel) (by decide +kernel), ⟨by decide, by decide⟩, by decide, by decide +kernel⟩
theorem vX2_mayStand : Mv yX2_mayStand := ⟨tb_w 315 (by decide +kernel) (by decide +kernel), tb_w 4 (by decide +kernel) (by decide +kernel)⟩
theorem mX2_put : Mt yX2_put cX2_put 2 none 1 := ⟨tb_c 18 rfl rfl, tb_w 83 (by decide +kernel) (by decide +kernel), ⟨by decide, by decide⟩, by decide, by decide +kernel⟩
theorem vX2_put : Mv yX2_put := ⟨tb_w 295 (by decide +kernel) (by decide +kernel), tb_w 1 (by decide +kernel) (by decide +kernel)⟩
theorem mX2_sackAt : Mt yX2_sackAt cX2_sackAt 2 (some FieldType.int) 1 := ⟨tb_c 19 rfl rfl, tb_w 83 (by decide +kernel) (by decide +kernel), ⟨by decide, by decide⟩, by decide, by decide +kernel⟩
theorem vX2_sackAt : Mv yX2_sackAt := ⟨tb_w 327 (by decide +kernel) (by decide +kernel), tb_w 6 (by decide +kernel) (by decide +kernel)⟩
theorem mX3_codeOf : Mt yX3_codeOf cX3_codeOf 5 (some FieldType.int) 1 := ⟨tb_c 20 rfl rfl, tb_w 92 (by decide +kernel) (by decide +kernel), ⟨by decide, by decide⟩, by decide, by decide +kernel⟩
theorem vX3_codeOf : Mv yX3_codeOf := ⟨tb_w 528 (by decide +kernel) (by decide +kernel), tb_w 37 (by decide +kernel) (by decide +kernel)⟩
theorem mX3_costOfLaying : Mt yX3_costOfLaying cX3_costOfLaying 6 (some FieldType.int) 3 := ⟨tb_c 21 rfl rfl, tb_w 92 (by decide +kernel) (by decide +kernel), ⟨by decide, by decide⟩, by decide, by decide +kernel⟩
theorem vX3_costOfLaying : Mv yX3_costOfLaying := ⟨tb_w 557 (by decide +kernel) (by decide +kernel), tb_w 41 (by decide +kernel) (by decide +kernel)⟩
theorem mX3_costWith : Mt yX3_costWith cX3_costWith 2 (some FieldType.int) 2 := ⟨tb_c 22 rfl rfl, tb_w 92 (by decide +kernel) (by decide +kernel), ⟨by decide, by decide⟩, by decide, by decide +kernel⟩
theorem sX3_costWith : Cond.static yX3_costWith ∈ TBL := tb_w 546 (by decide +kernel) (by decide +kernel)
theorem mX3_costs : Mt yX3_costs cX3_costs 4 (some FieldType.int) 2 := ⟨tb_c 23 rfl rfl, tb_w 92 (by decide +kernel) (by decide +kernel), ⟨by decide, by decide⟩, by decide, by decide +kernel⟩
theorem vX3_costs : Mv yX3_costs := ⟨tb_w 524 (by decide +kernel) (by decide +kernel), tb_w 36 (by decide +kernel) (by decide +kernel)⟩
theorem mX3_fewestLifts : Mt yX3_fewestLifts cX3_fewestLifts 5 (some FieldType.int) 2 := ⟨tb_c 24 rfl rfl, tb_w 92 (by decide +kernel) (by decide +kernel), ⟨by decide, by decide⟩, by decide, by decide +kernel⟩
theorem vX3_fewestLifts : Mv yX3_fewestLifts := ⟨tb_w 515 (by decide +kernel) (by decide +kernel), tb_w 34 (by decide +kernel) (by decide +kernel)⟩
theorem mX3_findCosts : Mt yX3_findCosts cX3_findCosts 8 (some FieldType.int) 2 := ⟨tb_c 25 rfl rfl, tb_w 92 (by decide +kernel) (by decide +kernel), ⟨by decide, by decide⟩, by decide, by decide +kernel⟩
theorem vX3_findCosts : Mv yX3_findCosts := ⟨tb_w 533 (by decide +kernel) (by decide +kernel), tb_w 38 (by decide +kernel) (by decide +kernel)⟩
theorem mX3_firstOf : Mt yX3_firstOf cX3_firstOf 5 (some FieldType.int) 3 := ⟨tb_c 26 rfl rfl, tb_w 92 (by decide +kernel) (by decide +kernel), ⟨by decide, by decide⟩, by decide, by decide +kernel⟩
theorem vX3_firstOf : Mv yX3_firstOf := ⟨tb_w 561 (by decide +kernel) (by decide +kernel), tb_w 42 (by decide +kernel) (by decide +kernel)⟩
theorem mX3_init : Mt yX3_init cX3_init 2 none 1 := ⟨tb_c 27 rfl rfl, tb_w 92 (by decide +kernel) (by decide +kernel), ⟨by decide, by decide⟩, by decide, by decide +kernel⟩
theorem viX3_init : Cond.instanceMethod yX3_init ∈ TBL := tb_w 480 (by decide +kernel) (by decide +kernel)
theorem mX3_isOpen : Mt yX3_isOpen cX3_isOpen 3 (some FieldType.boolean) 3 := ⟨tb_c 28 rfl rfl, tb_w 92 (by decide +kernel) (by decide +kernel), ⟨by decide, by decide⟩, by decide, by decide +kernel⟩
theorem sX3_isOpen : Cond.static yX3_isOpen ∈ TBL := tb_w 536 (by decide +kernel) (by decide +kernel)
theorem mX3_isWhole : Mt yX3_isWhole cX3_isWhole 2 (some FieldType.boolean) 1 := ⟨tb_c 29 rfl rfl, tb_w 92 (by decide +kernel) (by decide +kernel), ⟨by decide, by decide⟩, by decide, by decide +kernel⟩
theorem vX3_isWhole : Mv yX3_isWhole := ⟨tb_w 519 (by decide +kernel) (by decide +kernel), tb_w 35 (by decide +kernel) (by decide +kernel)⟩
theorem mX3_joined : Mt yX3_joined cX3_joined 7 (some FieldType.int) 3 := ⟨tb_c 30 rfl rfl, tb_w 92 (by decide +kernel) (by decide +kernel), ⟨by decide, by decide⟩, by decide, by decide +kernel⟩
theorem vX3_joined : Mv yX3_joined := ⟨tb_w 540 (by decide +kernel) (by decide +kernel), tb_w 39 (by decide +kernel) (by decide +kernel)⟩
theorem mX3_pair : Mt yX3_pair cX3_pair 2 (some FieldType.int) 2 := ⟨tb_c 31 rfl rfl, tb_w 92 (by decide +kernel) (by decide +kernel), ⟨by decide, by decide⟩, by decide, by decide +kernel⟩
theorem sX3_pair : Cond.static yX3_pair ∈ TBL := tb_w 511 (by decide +kernel) (by decide +kernel)
theorem mX3_withDetours : Mt yX3_withDetours cX3_withDetours 8 (some FieldType.int) 2 := ⟨tb_c 32 rfl rfl, tb_w 92 (by decide +kernel) (by decide +kernel), ⟨by decide, by decide⟩, by decide, by decide +kernel⟩
theorem vX3_withDetours : Mv yX3_withDetours := ⟨tb_w 553 (by decide +kernel) (by decide +kernel), tb_w 40 (by decide +kernel) (by decide +kernel)⟩
theorem mX3_withLess : Mt yX3_withLess cX3_withLess 4 (some FieldType.int) 3 := ⟨tb_c 33 rfl rfl, tb_w 92 (by decide +kernel) (by decide +kernel), ⟨by decide, by decide⟩, by decide, by decide +kernel⟩
theorem sX3_withLess : Cond.static yX3_withLess ∈ TBL := tb_w 549 (by decide +kernel) (by decide +kernel)
theorem mX3_worse : Mt yX3_worse cX3_worse 3 (some FieldType.int) 3 := ⟨tb_c 34 rfl rfl, tb_w 92 (by decide +kernel) (by decide +kernel), ⟨by decide, by decide⟩, by decide, by decide +kernel⟩
theorem sX3_worse : Cond.static yX3_worse ∈ TBL := tb_w 543 (by decide +kernel) (by decide +kernel)
theorem mX4_against : Mt yX4_against cX4_against 3 (some FieldType.int) 2 := ⟨tb_c 35 rfl rfl, tb_w 85 (by decide +kernel) (by decide +kernel), ⟨by decide, by decide⟩, by decide, by decide +kernel⟩
theorem vX4_against : Mv yX4_against := ⟨tb_w 379 (by decide +kernel) (by decide +kernel), tb_w 16 (by decide +kernel) (by decide +kernel)⟩
theorem mX4_believe : Mt yX4_believe cX4_believe 4 none 1 := ⟨tb_c 36 rfl rfl, tb_w 85 (by decide +kernel) (by decide +kernel), ⟨by decide, by decide⟩, by decide, by decide +kernel⟩
theorem vX4_believe : Mv yX4_believe := ⟨tb_w 363 (by decide +kernel) (by decide +kernel), tb_w 12 (by decide +kernel) (by decide +kernel)⟩
theorem mX4_close : Mt yX4_close cX4_close 3 none 0 := ⟨tb_c 37 rfl rfl, tb_w 85 (by decide +kernel) (by decide +kernel), ⟨by decide, by decide⟩, by decide, by decide +kernel⟩
theorem vX4_close : Mv yX4_close := ⟨tb_w 367 (by decide +kernel) (by decide +kernel), tb_w 13 (by decide +kernel) (by decide +kernel)⟩
theorem mX4_contradicts : Mt yX4_contradicts cX4_contradicts 2 (some FieldType.boolean) 1 := ⟨tb_c 38 rfl rfl, tb_w 85 (by decide +kernel) (by decide +kernel), ⟨by decide, by decide⟩, by decide, by decide +kernel⟩
theorem vX4_contradicts : Mv yX4_contradicts := ⟨tb_w 375 (by decide +kernel) (by decide +kernel), tb_w 15 (by decide +kernel) (by decide +kernel)⟩
theorem mX4_greatestRank : Mt yX4_greatestRank cX4_greatestRank 4 (some FieldType.int) 1 := ⟨tb_c 39 rfl rfl, tb_w 85 (by decide +kernel) (by decide +kernel), ⟨by decide, by decide⟩, by decide, by decide +kernel⟩
theorem vX4_greatestRank : Mv yX4_greatestRank := ⟨tb_w 433 (by decide +kernel) (by decide +kernel), tb_w 25 (by decide +kernel) (by decide +kernel)⟩
theorem mX4_groupCount : Mt yX4_groupCount cX4_groupCount 1 (some FieldType.int) 0 := ⟨tb_c 40 rfl rfl, tb_w 85 (by decide +kernel) (by decide +kernel), ⟨by decide, by decide⟩, by decide, by decide +kernel⟩
theorem vX4_groupCount : Mv yX4_groupCount := ⟨tb_w 396 (by decide +kernel) (by decide +kernel), tb_w 19 (by decide +kernel) (by decide +kernel)⟩
theorem mX4_groupOf : Mt yX4_groupOf cX4_groupOf 4 (some FieldType.int) 1 := ⟨tb_c 41 rfl rfl, tb_w 85 (by decide +kernel) (by decide +kernel), ⟨by decide, by decide⟩, by decide, by decide +kernel⟩
theorem vX4_groupOf : Mv yX4_groupOf := ⟨tb_w 499 (by decide +kernel) (by decide +kernel), tb_w 31 (by decide +kernel) (by decide +kernel)⟩
theorem mX4_heavierLeaders : Mt yX4_heavierLeaders cX4_heavierLeaders 4 (some FieldType.int) 1 := ⟨tb_c 42 rfl rfl, tb_w 85 (by decide +kernel) (by decide +kernel), ⟨by decide, by decide⟩, by decide, by decide +kernel⟩
theorem vX4_heavierLeaders : Mv yX4_heavierLeaders := ⟨tb_w 425 (by decide +kernel) (by decide +kernel), tb_w 23 (by decide +kernel) (by decide +kernel)⟩
theorem mX4_init : Mt yX4_init cX4_init 1 none 0 := ⟨tb_c 43 rfl rfl, tb_w 85 (by decide +kernel) (by decide +kernel), ⟨by decide, by decide⟩, by decide, by decide +kernel⟩
theorem viX4_init : Cond.instanceMethod yX4_init ∈ TBL := tb_w 181 (by decide +kernel) (by decide +kernel)
theorem mX4_isAlike : Mt yX4_isAlike cX4_isAlike 3 (some FieldType.boolean) 2 := ⟨tb_c 44 rfl rfl, tb_w 85 (by decide +kernel) (by decide +kernel), ⟨by decide, by decide⟩, by decide, by decide +kernel⟩
theorem vX4_isAlike : Mv yX4_isAlike := ⟨tb_w 383 (by decide +kernel) (by decide +kernel), tb_w 17 (by decide +kernel) (by decide +kernel)⟩
theorem mX4_isHeavier : Mt yX4_isHeavier cX4_isHeavier 3 (some FieldType.boolean) 2 := ⟨tb_c 45 rfl rfl, tb_w 85 (by decide +kernel) (by decide +kernel), ⟨by decide, by decide⟩, by decide, by decide +kernel⟩
theorem vX4_isHeavier : Mv yX4_isHeavier := ⟨tb_w 429 (by decide +kernel) (by decide +kernel), tb_w 24 (by decide +kernel) (by decide +kernel)⟩
theorem mX4_isLeader : Mt yX4_isLeader cX4_isLeader 3 (some FieldType.boolean) 1 := ⟨tb_c 46 rfl rfl, tb_w 85 (by decide +kernel) (by decide +kernel), ⟨by decide, by decide⟩, by decide, by decide +kernel⟩
theorem vX4_isLeader : Mv yX4_isLeader := ⟨tb_w 404 (by decide +kernel) (by decide +kernel), tb_w 21 (by decide +kernel) (by decide +kernel)⟩
theorem mX4_isNoLess : Mt yX4_isNoLess cX4_isNoLess 3 (some FieldType.boolean) 2 := ⟨tb_c 47 rfl rfl, tb_w 85 (by decide +kernel) (by decide +kernel), ⟨by decide, by decide⟩, by decide, by decide +kernel⟩
theorem vX4_isNoLess : Mv yX4_isNoLess := ⟨tb_w 371 (by decide +kernel) (by decide +kernel), tb_w 14 (by decide +kernel) (by decide +kernel)⟩
theorem mX4_leaderOf : Mt yX4_leaderOf cX4_leaderOf 4 (some FieldType.int) 1 := ⟨tb_c 48 rfl rfl, tb_w 85 (by decide +kernel) (by decide +kernel), ⟨by decide, by decide⟩, by decide, by decide +kernel⟩
theorem vX4_leaderOf : Mv yX4_leaderOf := ⟨tb_w 507 (by decide +kernel) (by decide +kernel), tb_w 33 (by decide +kernel) (by decide +kernel)⟩
theorem mX4_leaders : Mt yX4_leaders cX4_leaders 3 (some FieldType.int) 0 := ⟨tb_c 49 rfl rfl, tb_w 85 (by decide +kernel) (by decide +kernel), ⟨by decide, by decide⟩, by decide, by decide +kernel⟩
theorem vX4_leaders : Mv yX4_leaders := ⟨tb_w 400 (by decide +kernel) (by decide +kernel), tb_w 20 (by decide +kernel) (by decide +kernel)⟩
theorem mX4_leastRank : Mt yX4_leastRank cX4_leastRank 2 (some FieldType.int) 1 := ⟨tb_c 50 rfl rfl, tb_w 85 (by decide +kernel) (by decide +kernel), ⟨by decide, by decide⟩, by decide, by decide +kernel⟩
theorem vX4_leastRank : Mv yX4_leastRank := ⟨tb_w 421 (by decide +kernel) (by decide +kernel), tb_w 22 (by decide +kernel) (by decide +kernel)⟩
theorem mX4_openPairs : Mt yX4_openPairs cX4_openPairs 4 (some FieldType.int) 0 := ⟨tb_c 51 rfl rfl, tb_w 85 (by decide +kernel) (by decide +kernel), ⟨by decide, by decide⟩, by decide, by decide +kernel⟩
theorem vX4_openPairs : Mv yX4_openPairs := ⟨tb_w 391 (by decide +kernel) (by decide +kernel), tb_w 18 (by decide +kernel) (by decide +kernel)⟩
theorem mX4_orderCount : Mt yX4_orderCount cX4_orderCount 3 (some FieldType.int) 0 := ⟨tb_c 52 rfl rfl, tb_w 85 (by decide +kernel) (by decide +kernel), ⟨by decide, by decide⟩, by decide, by decide +kernel⟩
theorem vX4_orderCount : Mv yX4_orderCount := ⟨tb_w 442 (by decide +kernel) (by decide +kernel), tb_w 26 (by decide +kernel) (by decide +kernel)⟩
theorem mX4_read : Mt yX4_read cX4_read 4 none 2 := ⟨tb_c 53 rfl rfl, tb_w 85 (by decide +kernel) (by decide +kernel), ⟨by decide, by decide⟩, by decide, by decide +kernel⟩
theorem vX4_read : Mv yX4_read := ⟨tb_w 359 (by decide +kernel) (by decide +kernel), tb_w 11 (by decide +kernel) (by decide +kernel)⟩
theorem mX4_waysToBegin : Mt yX4_waysToBegin cX4_waysToBegin 5 (some FieldType.int) 1 := ⟨tb_c 54 rfl rfl, tb_w 85 (by decide +kernel) (by decide +kernel), ⟨by decide, by decide⟩, by decide, by decide +kernel⟩
theorem vX4_waysToBegin : Mv yX4_waysToBegin := ⟨tb_w 446 (by decide +kernel) (by decide +kernel), tb_w 27 (by decide +kernel) (by decide +kernel)⟩
theorem mX5_allFit : Mt yX5_allFit cX5_allFit 3 (some FieldType.boolean) 1 := ⟨tb_c 55 rfl rfl, tb_w 86 (by decide +kernel) (by decide +kernel), ⟨by decide, by decide⟩, by decide, by decide +kernel⟩
theorem vX5_allFit : Mv yX5_allFit := ⟨tb_w 592 (by decide +kernel) (by decide +kernel), tb_w 46 (by decide +kernel) (by decide +kernel)⟩
theorem mX5_hear : Mt yX5_hear cX5_hear 6 none 2 := ⟨tb_c 56 rfl rfl, tb_w 86 (by decide +kernel) (by decide +kernel), ⟨by decide, by decide⟩, by decide, by decide +kernel⟩
theorem vX5_hear : Mv yX5_hear := ⟨tb_w 584 (by decide +kernel) (by decide +kernel), tb_w 44 (by decide +kernel) (by decide +kernel)⟩
theorem mX5_init : Mt yX5_init cX5_init 1 none 0 := ⟨tb_c 57 rfl rfl, tb_w 86 (by decide +kernel) (by decide +kernel), ⟨by decide, by decide⟩, by decide, by decide +kernel⟩
theorem viX5_init : Cond.instanceMethod yX5_init ∈ TBL := tb_w 202 (by decide +kernel) (by decide +kernel)
theorem mX5_keepAbove : Mt yX5_keepAbove cX5_keepAbove 4 none 3 := ⟨tb_c 58 rfl rfl, tb_w 86 (by decide +kernel) (by decide +kernel), ⟨by decide, by decide⟩, by decide, by decide +kernel⟩
theorem vX5_keepAbove : Mv yX5_keepAbove := ⟨tb_w 588 (by decide +kernel) (by decide +kernel), tb_w 45 (by decide +kernel) (by decide +kernel)⟩
theorem mX5_settle : Mt yX5_settle cX5_settle 4 (some FieldType.boolean) 1 := ⟨tb_c 59 rfl rfl, tb_w 86 (by decide +kernel) (by decide +kernel), ⟨by decide, by decide⟩, by decide, by decide +kernel⟩
theorem vX5_settle : Mv yX5_settle := ⟨tb_w 577 (by decide +kernel) (by decide +kernel), tb_w 43 (by decide +kernel) (by decide +kernel)⟩
theorem mX6_advance : Mt yX6_advance cX6_advance 5 (some FieldType.boolean) 0 := ⟨tb_c 60 rfl rfl, tb_w 88 (by decide +kernel) (by decide +kernel), ⟨by decide, by decide⟩, by decide, by decide +kernel⟩
theorem vX6_advance : Mv yX6_advance := ⟨tb_w 642 (by decide +kernel) (by decide +kernel), tb_w 53 (by decide +kernel) (by decide +kernel)⟩
theorem mX6_findExtreme : Mt yX6_findExtreme cX6_findExtreme 6 none 3 := ⟨tb_c 61 rfl rfl, tb_w 88 (by decide +kernel) (by decide +kernel), ⟨by decide, by decide⟩, by decide, by decide +kernel⟩
theorem vX6_findExtreme : Mv yX6_findExtreme := ⟨tb_w 633 (by decide +kernel) (by decide +kernel), tb_w 51 (by decide +kernel) (by decide +kernel)⟩
theorem mX6_init : Mt yX6_init cX6_init 1 none 0 := ⟨tb_c 62 rfl rfl, tb_w 88 (by decide +kernel) (by decide +kernel), ⟨by decide, by decide⟩, by decide, by decide +kernel⟩
theorem viX6_init : Cond.instanceMethod yX6_init ∈ TBL := tb_w 239 (by decide +kernel) (by decide +kernel)
theorem mX6_number : Mt yX6_number cX6_number 3 (some FieldType.int) 0 := ⟨tb_c 63 rfl rfl, tb_w 88 (by decide +kernel) (by decide +kernel), ⟨by decide, by decide⟩, by decide, by decide +kernel⟩
theorem vX6_number : Mv yX6_number := ⟨tb_w 637 (by decide +kernel) (by decide +kernel), tb_w 52 (by decide +kernel) (by decide +kernel)⟩
theorem mX6_pairsLeftOpen : Mt yX6_pairsLeftOpen cX6_pairsLeftOpen 7 (some FieldType.int) 1 := ⟨tb_c 64 rfl rfl, tb_w 88 (by decide +kernel) (by decide +kernel), ⟨by decide, by decide⟩, by decide, by decide +kernel⟩
theorem vX6_pairsLeftOpen : Mv yX6_pairsLeftOpen := ⟨tb_w 622 (by decide +kernel) (by decide +kernel), tb_w 50 (by decide +kernel) (by decide +kernel)⟩
theorem mX6_readNumber : Mt yX6_readNumber cX6_readNumber 7 (some FieldType.boolean) 2 := ⟨tb_c 65 rfl rfl, tb_w 88 (by decide +kernel) (by decide +kernel), ⟨by decide, by decide⟩, by decide, by decide +kernel⟩
theorem vX6_readNumber : Mv yX6_readNumber := ⟨tb_w 618 (by decide +kernel) (by decide +kernel), tb_w 49 (by decide +kernel) (by decide +kernel)⟩
theorem mX6_swap : Mt yX6_swap cX6_swap 4 none 2 := ⟨tb_c 66 rfl rfl, tb_w 88 (by decide +kernel) (by decide +kernel), ⟨by decide, by decide⟩, by decide, by decide +kernel⟩
theorem vX6_swap : Mv yX6_swap := ⟨tb_w 646 (by decide +kernel) (by decide +kernel), tb_w 54 (by decide +kernel) (by decide +kernel)⟩
theorem mX7_fault : Mt yX7_fault cX7_fault 1 (some FieldType.int) 0 := ⟨tb_c 67 rfl rfl, tb_w 82 (by decide +kernel) (by decide +kernel), ⟨by decide, by decide⟩, by decide, by decide +kernel⟩
theorem vX7_fault : Mv yX7_fault := ⟨tb_w 306 (by decide +kernel) (by decide +kernel), tb_w 307 (by decide +kernel) (by decide +kernel)⟩
theorem mX7_follows : Mt yX7_follows cX7_follows 3 (some FieldType.int) 2 := ⟨tb_c 68 rfl rfl, tb_w 82 (by decide +kernel) (by decide +kernel), ⟨by decide, by decide⟩, by decide, by decide +kernel⟩
theorem vX7_follows : Mv yX7_follows := ⟨tb_w 346 (by decide +kernel) (by decide +kernel), tb_w 347 (by decide +kernel) (by decide +kernel)⟩
theorem mX7_groupOrder : Mt yX7_groupOrder cX7_groupOrder 5 (some FieldType.int) 1 := ⟨tb_c 69 rfl rfl, tb_w 82 (by decide +kernel) (by decide +kernel), ⟨by decide, by decide⟩, by decide, by decide +kernel⟩
theorem vX7_groupOrder : Mv yX7_groupOrder := ⟨tb_w 503 (by decide +kernel) (by decide +kernel), tb_w 32 (by decide +kernel) (by decide +kernel)⟩
theorem mX7_image : Mt yX7_image cX7_image 3 (some FieldType.int) 1 := ⟨tb_c 70 rfl rfl, tb_w 82 (by decide +kernel) (by decide +kernel), ⟨by decide, by decide⟩, by decide, by decide +kernel⟩
theorem vX7_image : Mv yX7_image := ⟨tb_w 649 (by decide +kernel) (by decide +kernel), tb_w 650 (by decide +kernel) (by decide +kernel)⟩
theorem mX7_init : Mt yX7_init cX7_init 1 none 0 := ⟨tb_c 71 rfl rfl, tb_w 82 (by decide +kernel) (by decide +kernel), ⟨by decide, by decide⟩, by decide, by decide +kernel⟩
theorem viX7_init : Cond.instanceMethod yX7_init ∈ TBL := tb_w 97 (by decide +kernel) (by decide +kernel)
theorem mX7_isEnd : Mt yX7_isEnd cX7_isEnd 1 (some FieldType.boolean) 1 := ⟨tb_c 72 rfl rfl, tb_w 82 (by decide +kernel) (by decide +kernel), ⟨by decide, by decide⟩, by decide, by decide +kernel⟩
theorem sX7_isEnd : Cond.static yX7_isEnd ∈ TBL := tb_w 417 (by decide +kernel) (by decide +kernel)
theorem mX7_known : Mt yX7_known cX7_known 4 (some FieldType.int) 3 := ⟨tb_c 73 rfl rfl, tb_w 82 (by decide +kernel) (by decide +kernel), ⟨by decide, by decide⟩, by decide, by decide +kernel⟩
theorem vX7_known : Mv yX7_known := ⟨tb_w 564 (by decide +kernel) (by decide +kernel), tb_w 565 (by decide +kernel) (by decide +kernel)⟩
theorem mX7_leaves : Mt yX7_leaves cX7_leaves 2 (some FieldType.int) 1 := ⟨tb_c 74 rfl rfl, tb_w 82 (by decide +kernel) (by decide +kernel), ⟨by decide, by decide⟩, by decide, by decide +kernel⟩
theorem vX7_leaves : Mv yX7_leaves := ⟨tb_w 613 (by decide +kernel) (by decide +kernel), tb_w 614 (by decide +kernel) (by decide +kernel)⟩
theorem mX7_lies : Mt yX7_lies cX7_lies 2 (some FieldType.int) 1 := ⟨tb_c 75 rfl rfl, tb_w 82 (by decide +kernel) (by decide +kernel), ⟨by decide, by decide⟩, by decide, by decide +kernel⟩
theorem vX7_lies : Mv yX7_lies := ⟨tb_w 595 (by decide +kernel) (by decide +kernel), tb_w 596 (by decide +kernel) (by decide +kernel)⟩
theorem mX7_line : Mt yX7_line cX7_line 1 (some FieldType.int) 0 := ⟨tb_c 76 rfl rfl, tb_w 82 (by decide +kernel) (by decide +kernel), ⟨by decide, by decide⟩, by decide, by decide +kernel⟩
theorem vX7_line : Mv yX7_line := ⟨tb_w 318 (by decide +kernel) (by decide +kernel), tb_w 319 (by decide +kernel) (by decide +kernel)⟩
theorem mX7_lineBy : Mt yX7_lineBy cX7_lineBy 3 (some FieldType.int) 2 := ⟨tb_c 77 rfl rfl, tb_w 82 (by decide +kernel) (by decide +kernel), ⟨by decide, by decide⟩, by decide, by decide +kernel⟩
theorem vX7_lineBy : Mv yX7_lineBy := ⟨tb_w 628 (by decide +kernel) (by decide +kernel), tb_w 629 (by decide +kernel) (by decide +kernel)⟩
theorem mX7_loss : Mt yX7_loss cX7_loss 3 (some FieldType.int) 1 := ⟨tb_c 78 rfl rfl, tb_w 82 (by decide +kernel) (by decide +kernel), ⟨by decide, by decide⟩, by decide, by decide +kernel⟩
theorem vX7_loss : Mv yX7_loss := ⟨tb_w 568 (by decide +kernel) (by decide +kernel), tb_w 569 (by decide +kernel) (by decide +kernel)⟩
theorem mX7_more : Mt yX7_more cX7_more 9 (some FieldType.int) 2 := ⟨tb_c 79 rfl rfl, tb_w 82 (by decide +kernel) (by decide +kernel), ⟨by decide, by decide⟩, by decide, by decide +kernel⟩
theorem vX7_more : Mv yX7_more := ⟨tb_w 471 (by decide +kernel) (by decide +kernel), tb_w 472 (by decide +kernel) (by decide +kernel)⟩
theorem mX7_open : Mt yX7_open cX7_open 3 (some FieldType.int) 1 := ⟨tb_c 80 rfl rfl, tb_w 82 (by decide +kernel) (by decide +kernel), ⟨by decide, by decide⟩, by decide, by decide +kernel⟩
theorem vX7_open : Mv yX7_open := ⟨tb_w 386 (by decide +kernel) (by decide +kernel), tb_w 387 (by decide +kernel) (by decide +kernel)⟩
theorem mX7_orders : Mt yX7_orders cX7_orders 1 (some FieldType.int) 0 := ⟨tb_c 81 rfl rfl, tb_w 82 (by decide +kernel) (by decide +kernel), ⟨by decide, by decide⟩, by decide, by decide +kernel⟩
theorem vX7_orders : Mv yX7_orders := ⟨tb_w 437 (by decide +kernel) (by decide +kernel), tb_w 438 (by decide +kernel) (by decide +kernel)⟩
theorem mX7_paymentOf : Mt yX7_paymentOf cX7_paymentOf 7 (some FieldType.int) 2 := ⟨tb_c 82 rfl rfl, tb_w 82 (by decide +kernel) (by decide +kernel), ⟨by decide, by decide⟩, by decide, by decide +kernel⟩
theorem vX7_paymentOf : Mv yX7_paymentOf := ⟨tb_w 462 (by decide +kernel) (by decide +kernel), tb_w 29 (by decide +kernel) (by decide +kernel)⟩
theorem mX7_paymentOfAll : Mt yX7_paymentOfAll cX7_paymentOfAll 4 (some FieldType.int) 1 := ⟨tb_c 83 rfl rfl, tb_w 82 (by decide +kernel) (by decide +kernel), ⟨by decide, by decide⟩, by decide, by decide +kernel⟩
theorem vX7_paymentOfAll : Mv yX7_paymentOfAll := ⟨tb_w 458 (by decide +kernel) (by decide +kernel), tb_w 28 (by decide +kernel) (by decide +kernel)⟩
theorem mX7_pays : Mt yX7_pays cX7_pays 3 (some FieldType.int) 2 := ⟨tb_c 84 rfl rfl, tb_w 82 (by decide +kernel) (by decide +kernel), ⟨by decide, by decide⟩, by decide, by decide +kernel⟩
theorem vX7_pays : Mv yX7_pays := ⟨tb_w 453 (by decide +kernel) (by decide +kernel), tb_w 454 (by decide +kernel) (by decide +kernel)⟩
theorem mX7_plannerFor : Mt yX7_plannerFor cX7_plannerFor 3 (some (FieldType.object "LastScale$Planner")) 1 := ⟨tb_c 85 rfl rfl, tb_w 82 (by decide +kernel) (by decide +kernel), ⟨by decide, by decide⟩, by decide, by decide +kernel⟩
theorem vX7_plannerFor : Mv yX7_plannerFor := ⟨tb_w 476 (by decide +kernel) (by decide +kernel), tb_w 30 (by decide +kernel) (by decide +kernel)⟩
theorem mX7_rank : Mt yX7_rank cX7_rank 3 (some FieldType.int) 2 := ⟨tb_c 86 rfl rfl, tb_w 82 (by decide +kernel) (by decide +kernel), ⟨by decide, by decide⟩, by decide, by decide +kernel⟩
theorem vX7_rank : Mv yX7_rank := ⟨tb_w 413 (by decide +kernel) (by decide +kernel), tb_w 414 (by decide +kernel) (by decide +kernel)⟩
theorem mX7_readBook : Mt yX7_readBook cX7_readBook 1 (some FieldType.boolean) 0 := ⟨tb_c 87 rfl rfl, tb_w 82 (by decide +kernel) (by decide +kernel), ⟨by decide, by decide⟩, by decide, by decide +kernel⟩
theorem vX7_readBook : Mv yX7_readBook := ⟨tb_w 355 (by decide +kernel) (by decide +kernel), tb_w 10 (by decide +kernel) (by decide +kernel)⟩
theorem mX7_restore : Mt yX7_restore cX7_restore 3 (some FieldType.int) 1 := ⟨tb_c 88 rfl rfl, tb_w 82 (by decide +kernel) (by decide +kernel), ⟨by decide, by decide⟩, by decide, by decide +kernel⟩
theorem vX7_restore : Mv yX7_restore := ⟨tb_w 658 (by decide +kernel) (by decide +kernel), tb_w 659 (by decide +kernel) (by decide +kernel)⟩
theorem mX7_sacks : Mt yX7_sacks cX7_sacks 3 (some FieldType.int) 1 := ⟨tb_c 89 rfl rfl, tb_w 82 (by decide +kernel) (by decide +kernel), ⟨by decide, by decide⟩, by decide, by decide +kernel⟩
theorem vX7_sacks : Mv yX7_sacks := ⟨tb_w 285 (by decide +kernel) (by decide +kernel), tb_w 286 (by decide +kernel) (by decide +kernel)⟩
theorem mX7_say : Mt yX7_say cX7_say 2 (some FieldType.int) 1 := ⟨tb_c 90 rfl rfl, tb_w 82 (by decide +kernel) (by decide +kernel), ⟨by decide, by decide⟩, by decide, by decide +kernel⟩
theorem vX7_say : Mv yX7_say := ⟨tb_w 290 (by decide +kernel) (by decide +kernel), tb_w 291 (by decide +kernel) (by decide +kernel)⟩
theorem mX7_saying : Mt yX7_saying cX7_saying 3 (some FieldType.int) 2 := ⟨tb_c 91 rfl rfl, tb_w 82 (by decide +kernel) (by decide +kernel), ⟨by decide, by decide⟩, by decide, by decide +kernel⟩
theorem vX7_saying : Mv yX7_saying := ⟨tb_w 342 (by decide +kernel) (by decide +kernel), tb_w 343 (by decide +kernel) (by decide +kernel)⟩
theorem mX7_span : Mt yX7_span cX7_span 3 (some FieldType.int) 2 := ⟨tb_c 92 rfl rfl, tb_w 82 (by decide +kernel) (by decide +kernel), ⟨by decide, by decide⟩, by decide, by decide +kernel⟩
theorem vX7_span : Mv yX7_span := ⟨tb_w 572 (by decide +kernel) (by decide +kernel), tb_w 573 (by decide +kernel) (by decide +kernel)⟩
theorem mX7_strike : Mt yX7_strike cX7_strike 1 (some FieldType.int) 0 := ⟨tb_c 93 rfl rfl, tb_w 82 (by decide +kernel) (by decide +kernel), ⟨by decide, by decide⟩, by decide, by decide +kernel⟩
theorem vX7_strike : Mv yX7_strike := ⟨tb_w 338 (by decide +kernel) (by decide +kernel), tb_w 339 (by decide +kernel) (by decide +kernel)⟩
theorem mX7_told : Mt yX7_told cX7_told 2 (some FieldType.int) 1 := ⟨tb_c 94 rfl rfl, tb_w 82 (by decide +kernel) (by decide +kernel), ⟨by decide, by decide⟩, by decide, by decide +kernel⟩
theorem vX7_told : Mv yX7_told := ⟨tb_w 662 (by decide +kernel) (by decide +kernel), tb_w 663 (by decide +kernel) (by decide +kernel)⟩
theorem mX7_toldOfRow : Mt yX7_toldOfRow cX7_toldOfRow 4 (some FieldType.int) 1 := ⟨tb_c 95 rfl rfl, tb_w 82 (by decide +kernel) (by decide +kernel), ⟨by decide, by decide⟩, by decide, by decide +kernel⟩
theorem vX7_toldOfRow : Mv yX7_toldOfRow := ⟨tb_w 667 (by decide +kernel) (by decide +kernel), tb_w 56 (by decide +kernel) (by decide +kernel)⟩
theorem mX7_toll : Mt yX7_toll cX7_toll 4 (some FieldType.int) 2 := ⟨tb_c 96 rfl rfl, tb_w 82 (by decide +kernel) (by decide +kernel), ⟨by decide, by decide⟩, by decide, by decide +kernel⟩
theorem vX7_toll : Mv yX7_toll := ⟨tb_w 449 (by decide +kernel) (by decide +kernel), tb_w 450 (by decide +kernel) (by decide +kernel)⟩
theorem mX7_weight : Mt yX7_weight cX7_weight 4 (some FieldType.int) 2 := ⟨tb_c 97 rfl rfl, tb_w 82 (by decide +kernel) (by decide +kernel), ⟨by decide, by decide⟩, by decide, by decide +kernel⟩
theorem vX7_weight : Mv yX7_weight := ⟨tb_w 609 (by decide +kernel) (by decide +kernel), tb_w 610 (by decide +kernel) (by decide +kernel)⟩
theorem mX7_wipe : Mt yX7_wipe cX7_wipe 2 (some FieldType.int) 0 := ⟨tb_c 98 rfl rfl, tb_w 82 (by decide +kernel) (by decide +kernel), ⟨by decide, by decide⟩, by decide, by decide +kernel⟩
theorem vX7_wipe : Mv yX7_wipe := ⟨tb_w 298 (by decide +kernel) (by decide +kernel), tb_w 299 (by decide +kernel) (by decide +kernel)⟩
theorem mX8_bits : Mt yX8_bits cX8_bits 3 (some FieldType.int) 1 := ⟨tb_c 99 rfl rfl, tb_w 89 (by decide +kernel) (by decide +kernel), ⟨by decide, by decide⟩, by decide, by decide +kernel⟩
theorem sX8_bits : Cond.static yX8_bits ∈ TBL := tb_w 931 (by decide +kernel) (by decide +kernel)
theorem mX8_canSpan : Mt yX8_canSpan cX8_canSpan 3 (some FieldType.boolean) 0 := ⟨tb_c 100 rfl rfl, tb_w 89 (by decide +kernel) (by decide +kernel), ⟨by decide, by decide⟩, by decide, by decide +kernel⟩
theorem vX8_canSpan : Mv yX8_canSpan := ⟨tb_w 920 (by decide +kernel) (by decide +kernel), tb_w 77 (by decide +kernel) (by decide +kernel)⟩
theorem mX8_clear : Mt yX8_clear cX8_clear 2 none 0 := ⟨tb_c 101 rfl rfl, tb_w 89 (by decide +kernel) (by decide +kernel), ⟨by decide, by decide⟩, by decide, by decide +kernel⟩
theorem vX8_clear : Mv yX8_clear := ⟨tb_w 812 (by decide +kernel) (by decide +kernel), tb_w 61 (by decide +kernel) (by decide +kernel)⟩
theorem mX8_close : Mt yX8_close cX8_close 4 (some FieldType.boolean) 0 := ⟨tb_c 102 rfl rfl, tb_w 89 (by decide +kernel) (by decide +kernel), ⟨by decide, by decide⟩, by decide, by decide +kernel⟩
theorem vX8_close : Mv yX8_close := ⟨tb_w 820 (by decide +kernel) (by decide +kernel), tb_w 63 (by decide +kernel) (by decide +kernel)⟩
theorem mX8_does : Mt yX8_does cX8_does 6 (some FieldType.boolean) 3 := ⟨tb_c 103 rfl rfl, tb_w 89 (by decide +kernel) (by decide +kernel), ⟨by decide, by decide⟩, by decide, by decide +kernel⟩
theorem vX8_does : Mv yX8_does := ⟨tb_w 900 (by decide +kernel) (by decide +kernel), tb_w 75 (by decide +kernel) (by decide +kernel)⟩
theorem mX8_fault : Mt yX8_fault cX8_fault 1 (some FieldType.int) 0 := ⟨tb_c 104 rfl rfl, tb_w 89 (by decide +kernel) (by decide +kernel), ⟨by decide, by decide⟩, by decide, by decide +kernel⟩
theorem vX8_fault : Mv yX8_fault := ⟨tb_w 775 (by decide +kernel) (by decide +kernel), tb_w 776 (by decide +kernel) (by decide +kernel)⟩
theorem mX8_faultOf : Mt yX8_faultOf cX8_faultOf 5 (some FieldType.int) 0 := ⟨tb_c 105 rfl rfl, tb_w 89 (by decide +kernel) (by decide +kernel), ⟨by decide, by decide⟩, by decide, by decide +kernel⟩
theorem vX8_faultOf : Mv yX8_faultOf := ⟨tb_w 780 (by decide +kernel) (by decide +kernel), tb_w 57 (by decide +kernel) (by decide +kernel)⟩
theorem mX8_follow : Mt yX8_follow cX8_follow 3 (some FieldType.boolean) 1 := ⟨tb_c 106 rfl rfl, tb_w 89 (by decide +kernel) (by decide +kernel), ⟨by decide, by decide⟩, by decide, by decide +kernel⟩
theorem vX8_follow : Mv yX8_follow := ⟨tb_w 808 (by decide +kernel) (by decide +kernel), tb_w 60 (by decide +kernel) (by decide +kernel)⟩
theorem mX8_followAll : Mt yX8_followAll cX8_followAll 1 (some FieldType.boolean) 0 := ⟨tb_c 107 rfl rfl, tb_w 89 (by decide +kernel) (by decide +kernel), ⟨by decide, by decide⟩, by decide, by decide +kernel⟩
theorem vX8_followAll : Mv yX8_followAll := ⟨tb_w 804 (by decide +kernel) (by decide +kernel), tb_w 59 (by decide +kernel) (by decide +kernel)⟩
theorem mX8_follows : Mt yX8_follows cX8_follows 3 (some FieldType.int) 2 := ⟨tb_c 108 rfl rfl, tb_w 89 (by decide +kernel) (by decide +kernel), ⟨by decide, by decide⟩, by decide, by decide +kernel⟩
theorem vX8_follows : Mv yX8_follows := ⟨tb_w 799 (by decide +kernel) (by decide +kernel), tb_w 800 (by decide +kernel) (by decide +kernel)⟩
theorem mX8_image : Mt yX8_image cX8_image 4 (some FieldType.int) 1 := ⟨tb_c 109 rfl rfl, tb_w 89 (by decide +kernel) (by decide +kernel), ⟨by decide, by decide⟩, by decide, by decide +kernel⟩
theorem vX8_image : Mv yX8_image := ⟨tb_w 954 (by decide +kernel) (by decide +kernel), tb_w 955 (by decide +kernel) (by decide +kernel)⟩
theorem mX8_in : Mt yX8_in cX8_in 3 (some FieldType.boolean) 3 := ⟨tb_c 110 rfl rfl, tb_w 89 (by decide +kernel) (by decide +kernel), ⟨by decide, by decide⟩, by decide, by decide +kernel⟩
theorem sX8_in : Cond.static yX8_in ∈ TBL := tb_w 764 (by decide +kernel) (by decide +kernel)
theorem mX8_init : Mt yX8_init cX8_init 2 none 0 := ⟨tb_c 111 rfl rfl, tb_w 89 (by decide +kernel) (by decide +kernel), ⟨by decide, by decide⟩, by decide, by decide +kernel⟩
theorem viX8_init : Cond.instanceMethod yX8_init ∈ TBL := tb_w 672 (by decide +kernel) (by decide +kernel)
theorem mX8_isOpen : Mt yX8_isOpen cX8_isOpen 3 (some FieldType.boolean) 2 := ⟨tb_c 112 rfl rfl, tb_w 89 (by decide +kernel) (by decide +kernel), ⟨by decide, by decide⟩, by decide, by decide +kernel⟩
theorem vX8_isOpen : Mv yX8_isOpen := ⟨tb_w 836 (by decide +kernel) (by decide +kernel), tb_w 66 (by decide +kernel) (by decide +kernel)⟩
theorem mX8_isOver : Mt yX8_isOver cX8_isOver 3 (some FieldType.boolean) 3 := ⟨tb_c 113 rfl rfl, tb_w 89 (by decide +kernel) (by decide +kernel), ⟨by decide, by decide⟩, by decide, by decide +kernel⟩
theorem sX8_isOver : Cond.static yX8_isOver ∈ TBL := tb_w 884 (by decide +kernel) (by decide +kernel)
theorem mX8_isSack : Mt yX8_isSack cX8_isSack 2 (some FieldType.boolean) 1 := ⟨tb_c 114 rfl rfl, tb_w 89 (by decide +kernel) (by decide +kernel), ⟨by decide, by decide⟩, by decide, by decide +kernel⟩
theorem vX8_isSack : Mv yX8_isSack := ⟨tb_w 784 (by decide +kernel) (by decide +kernel), tb_w 58 (by decide +kernel) (by decide +kernel)⟩
theorem mX8_isWhole : Mt yX8_isWhole cX8_isWhole 5 (some FieldType.boolean) 1 := ⟨tb_c 115 rfl rfl, tb_w 89 (by decide +kernel) (by decide +kernel), ⟨by decide, by decide⟩, by decide, by decide +kernel⟩
theorem vX8_isWhole : Mv yX8_isWhole := ⟨tb_w 881 (by decide +kernel) (by decide +kernel), tb_w 71 (by decide +kernel) (by decide +kernel)⟩
theorem mX8_known : Mt yX8_known cX8_known 4 (some FieldType.int) 3 := ⟨tb_c 116 rfl rfl, tb_w 89 (by decide +kernel) (by decide +kernel), ⟨by decide, by decide⟩, by decide, by decide +kernel⟩
theorem vX8_known : Mv yX8_known := ⟨tb_w 903 (by decide +kernel) (by decide +kernel), tb_w 904 (by decide +kernel) (by decide +kernel)⟩
theorem mX8_laid : Mt yX8_laid cX8_laid 6 (some FieldType.int) 3 := ⟨tb_c 117 rfl rfl, tb_w 89 (by decide +kernel) (by decide +kernel), ⟨by decide, by decide⟩, by decide, by decide +kernel⟩
theorem vX8_laid : Mv yX8_laid := ⟨tb_w 888 (by decide +kernel) (by decide +kernel), tb_w 72 (by decide +kernel) (by decide +kernel)⟩
theorem mX8_layGroups : Mt yX8_layGroups cX8_layGroups 4 none 0 := ⟨tb_c 118 rfl rfl, tb_w 89 (by decide +kernel) (by decide +kernel), ⟨by decide, by decide⟩, by decide, by decide +kernel⟩
theorem vX8_layGroups : Mv yX8_layGroups := ⟨tb_w 828 (by decide +kernel) (by decide +kernel), tb_w 64 (by decide +kernel) (by decide +kernel)⟩
theorem mX8_layOrder : Mt yX8_layOrder cX8_layOrder 6 (some FieldType.boolean) 2 := ⟨tb_c 119 rfl rfl, tb_w 89 (by decide +kernel) (by decide +kernel), ⟨by decide, by decide⟩, by decide, by decide +kernel⟩
theorem vX8_layOrder : Mv yX8_layOrder := ⟨tb_w 943 (by decide +kernel) (by decide +kernel), tb_w 79 (by decide +kernel) (by decide +kernel)⟩
theorem mX8_laySpans : Mt yX8_laySpans cX8_laySpans 10 (some FieldType.boolean) 0 := ⟨tb_c 120 rfl rfl, tb_w 89 (by decide +kernel) (by decide +kernel), ⟨by decide, by decide⟩, by decide, by decide +kernel⟩
theorem vX8_laySpans : Mv yX8_laySpans := ⟨tb_w 916 (by decide +kernel) (by decide +kernel), tb_w 76 (by decide +kernel) (by decide +kernel)⟩
theorem mX8_layStands : Mt yX8_layStands cX8_layStands 9 none 2 := ⟨tb_c 121 rfl rfl, tb_w 89 (by decide +kernel) (by decide +kernel), ⟨by decide, by decide⟩, by decide, by decide +kernel⟩
theorem vX8_layStands : Mv yX8_layStands := ⟨tb_w 868 (by decide +kernel) (by decide +kernel), tb_w 69 (by decide +kernel) (by decide +kernel)⟩
theorem mX8_layValues : Mt yX8_layValues cX8_layValues 5 none 0 := ⟨tb_c 122 rfl rfl, tb_w 89 (by decide +kernel) (by decide +kernel), ⟨by decide, by decide⟩, by decide, by decide +kernel⟩
theorem vX8_layValues : Mv yX8_layValues := ⟨tb_w 896 (by decide +kernel) (by decide +kernel), tb_w 74 (by decide +kernel) (by decide +kernel)⟩
theorem mX8_leaves : Mt yX8_leaves cX8_leaves 2 (some FieldType.int) 1 := ⟨tb_c 123 rfl rfl, tb_w 89 (by decide +kernel) (by decide +kernel), ⟨by decide, by decide⟩, by decide, by decide +kernel⟩
theorem vX8_leaves : Mv yX8_leaves := ⟨tb_w 938 (by decide +kernel) (by decide +kernel), tb_w 939 (by decide +kernel) (by decide +kernel)⟩
theorem mX8_leftOpen : Mt yX8_leftOpen cX8_leftOpen 4 (some FieldType.int) 0 := ⟨tb_c 124 rfl rfl, tb_w 89 (by decide +kernel) (by decide +kernel), ⟨by decide, by decide⟩, by decide, by decide +kernel⟩
theorem vX8_leftOpen : Mv yX8_leftOpen := ⟨tb_w 947 (by decide +kernel) (by decide +kernel), tb_w 80 (by decide +kernel) (by decide +kernel)⟩
theorem mX8_lies : Mt yX8_lies cX8_lies 8 (some FieldType.int) 1 := ⟨tb_c 125 rfl rfl, tb_w 89 (by decide +kernel) (by decide +kernel), ⟨by decide, by decide⟩, by decide, by decide +kernel⟩
theorem vX8_lies : Mv yX8_lies := ⟨tb_w 927 (by decide +kernel) (by decide +kernel), tb_w 928 (by decide +kernel) (by decide +kernel)⟩
theorem mX8_line : Mt yX8_line cX8_line 4 (some FieldType.int) 0 := ⟨tb_c 126 rfl rfl, tb_w 89 (by decide +kernel) (by decide +kernel), ⟨by decide, by decide⟩, by decide, by decide +kernel⟩
theorem vX8_line : Mv yX8_line := ⟨tb_w 787 (by decide +kernel) (by decide +kernel), tb_w 788 (by decide +kernel) (by decide +kernel)⟩
theorem mX8_lineBy : Mt yX8_lineBy cX8_lineBy 9 (some FieldType.int) 2 := ⟨tb_c 127 rfl rfl, tb_w 89 (by decide +kernel) (by decide +kernel), ⟨by decide, by decide⟩, by decide, by decide +kernel⟩
theorem vX8_lineBy : Mv yX8_lineBy := ⟨tb_w 950 (by decide +kernel) (by decide +kernel), tb_w 951 (by decide +kernel) (by decide +kernel)⟩
theorem mX8_loss : Mt yX8_loss cX8_loss 3 (some FieldType.int) 1 := ⟨tb_c 128 rfl rfl, tb_w 89 (by decide +kernel) (by decide +kernel), ⟨by decide, by decide⟩, by decide, by decide +kernel⟩
theorem vX8_loss : Mv yX8_loss := ⟨tb_w 907 (by decide +kernel) (by decide +kernel), tb_w 908 (by decide +kernel) (by decide +kernel)⟩
theorem mX8_more : Mt yX8_more cX8_more 6 (some FieldType.int) 2 := ⟨tb_c 129 rfl rfl, tb_w 89 (by decide +kernel) (by decide +kernel), ⟨by decide, by decide⟩, by decide, by decide +kernel⟩
theorem vX8_more : Mv yX8_more := ⟨tb_w 863 (by decide +kernel) (by decide +kernel), tb_w 864 (by decide +kernel) (by decide +kernel)⟩
theorem mX8_open : Mt yX8_open cX8_open 3 (some FieldType.int) 1 := ⟨tb_c 130 rfl rfl, tb_w 89 (by decide +kernel) (by decide +kernel), ⟨by decide, by decide⟩, by decide, by decide +kernel⟩
theorem vX8_open : Mv yX8_open := ⟨tb_w 823 (by decide +kernel) (by decide +kernel), tb_w 824 (by decide +kernel) (by decide +kernel)⟩
theorem mX8_openPairs : Mt yX8_openPairs cX8_openPairs 4 (some FieldType.int) 0 := ⟨tb_c 131 rfl rfl, tb_w 89 (by decide +kernel) (by decide +kernel), ⟨by decide, by decide⟩, by decide, by decide +kernel⟩
theorem vX8_openPairs : Mv yX8_openPairs := ⟨tb_w 832 (by decide +kernel) (by decide +kernel), tb_w 65 (by decide +kernel) (by decide +kernel)⟩
theorem mX8_orders : Mt yX8_orders cX8_orders 5 (some FieldType.int) 0 := ⟨tb_c 132 rfl rfl, tb_w 89 (by decide +kernel) (by decide +kernel), ⟨by decide, by decide⟩, by decide, by decide +kernel⟩
theorem vX8_orders : Mv yX8_orders := ⟨tb_w 847 (by decide +kernel) (by decide +kernel), tb_w 848 (by decide +kernel) (by decide +kernel)⟩
theorem mX8_pays : Mt yX8_pays cX8_pays 5 (some FieldType.int) 2 := ⟨tb_c 133 rfl rfl, tb_w 89 (by decide +kernel) (by decide +kernel), ⟨by decide, by decide⟩, by decide, by decide +kernel⟩
theorem vX8_pays : Mv yX8_pays := ⟨tb_w 855 (by decide +kernel) (by decide +kernel), tb_w 856 (by decide +kernel) (by decide +kernel)⟩
theorem mX8_paysOf : Mt yX8_paysOf cX8_paysOf 6 (some FieldType.int) 2 := ⟨tb_c 134 rfl rfl, tb_w 89 (by decide +kernel) (by decide +kernel), ⟨by decide, by decide⟩, by decide, by decide +kernel⟩
theorem vX8_paysOf : Mv yX8_paysOf := ⟨tb_w 860 (by decide +kernel) (by decide +kernel), tb_w 68 (by decide +kernel) (by decide +kernel)⟩
theorem mX8_press : Mt yX8_press cX8_press 5 (some FieldType.boolean) 3 := ⟨tb_c 135 rfl rfl, tb_w 89 (by decide +kernel) (by decide +kernel), ⟨by decide, by decide⟩, by decide, by decide +kernel⟩
theorem vX8_press : Mv yX8_press := ⟨tb_w 924 (by decide +kernel) (by decide +kernel), tb_w 78 (by decide +kernel) (by decide +kernel)⟩
theorem mX8_put : Mt yX8_put cX8_put 4 none 3 := ⟨tb_c 136 rfl rfl, tb_w 89 (by decide +kernel) (by decide +kernel), ⟨by decide, by decide⟩, by decide, by decide +kernel⟩
theorem vX8_put : Mv yX8_put := ⟨tb_w 816 (by decide +kernel) (by decide +kernel), tb_w 62 (by decide +kernel) (by decide +kernel)⟩
theorem mX8_rank : Mt yX8_rank cX8_rank 3 (some FieldType.int) 2 := ⟨tb_c 137 rfl rfl, tb_w 89 (by decide +kernel) (by decide +kernel), ⟨by decide, by decide⟩, by decide, by decide +kernel⟩
theorem vX8_rank : Mv yX8_rank := ⟨tb_w 839 (by decide +kernel) (by decide +kernel), tb_w 840 (by decide +kernel) (by decide +kernel)⟩
theorem mX8_rankOf : Mt yX8_rankOf cX8_rankOf 6 (some FieldType.int) 2 := ⟨tb_c 138 rfl rfl, tb_w 89 (by decide +kernel) (by decide +kernel), ⟨by decide, by decide⟩, by decide, by decide +kernel⟩
theorem vX8_rankOf : Mv yX8_rankOf := ⟨tb_w 844 (by decide +kernel) (by decide +kernel), tb_w 67 (by decide +kernel) (by decide +kernel)⟩
theorem mX8_restore : Mt yX8_restore cX8_restore 4 (some FieldType.int) 1 := ⟨tb_c 139 rfl rfl, tb_w 89 (by decide +kernel) (by decide +kernel), ⟨by decide, by decide⟩, by decide, by decide +kernel⟩
theorem vX8_restore : Mv yX8_restore := ⟨tb_w 958 (by decide +kernel) (by decide +kernel), tb_w 959 (by decide +kernel) (by decide +kernel)⟩
theorem mX8_sacks : Mt yX8_sacks cX8_sacks 4 (some FieldType.int) 1 := ⟨tb_c 140 rfl rfl, tb_w 89 (by decide +kernel) (by decide +kernel), ⟨by decide, by decide⟩, by decide, by decide +kernel⟩
theorem vX8_sacks : Mv yX8_sacks := ⟨tb_w 760 (by decide +kernel) (by decide +kernel), tb_w 761 (by decide +kernel) (by decide +kernel)⟩
theorem mX8_say : Mt yX8_say cX8_say 2 (some FieldType.int) 1 := ⟨tb_c 141 rfl rfl, tb_w 89 (by decide +kernel) (by decide +kernel), ⟨by decide, by decide⟩, by decide, by decide +kernel⟩
theorem vX8_say : Mv yX8_say := ⟨tb_w 767 (by decide +kernel) (by decide +kernel), tb_w 768 (by decide +kernel) (by decide +kernel)⟩
theorem mX8_saying : Mt yX8_saying cX8_saying 3 (some FieldType.int) 2 := ⟨tb_c 142 rfl rfl, tb_w 89 (by decide +kernel) (by decide +kernel), ⟨by decide, by decide⟩, by decide, by decide +kernel⟩
theorem vX8_saying : Mv yX8_saying := ⟨tb_w 795 (by decide +kernel) (by decide +kernel), tb_w 796 (by decide +kernel) (by decide +kernel)⟩
theorem mX8_slot : Mt yX8_slot cX8_slot 3 (some FieldType.int) 2 := ⟨tb_c 143 rfl rfl, tb_w 89 (by decide +kernel) (by decide +kernel), ⟨by decide, by decide⟩, by decide, by decide +kernel⟩
theorem sX8_slot : Cond.static yX8_slot ∈ TBL := tb_w 875 (by decide +kernel) (by decide +kernel)
theorem mX8_span : Mt yX8_span cX8_span 3 (some FieldType.int) 2 := ⟨tb_c 144 rfl rfl, tb_w 89 (by decide +kernel) (by decide +kernel), ⟨by decide, by decide⟩, by decide, by decide +kernel⟩
theorem vX8_span : Mv yX8_span := ⟨tb_w 911 (by decide +kernel) (by decide +kernel), tb_w 912 (by decide +kernel) (by decide +kernel)⟩
theorem mX8_stand : Mt yX8_stand cX8_stand 4 (some FieldType.int) 2 := ⟨tb_c 145 rfl rfl, tb_w 89 (by decide +kernel) (by decide +kernel), ⟨by decide, by decide⟩, by decide, by decide +kernel⟩
theorem vX8_stand : Mv yX8_stand := ⟨tb_w 872 (by decide +kernel) (by decide +kernel), tb_w 70 (by decide +kernel) (by decide +kernel)⟩
theorem mX8_strike : Mt yX8_strike cX8_strike 1 (some FieldType.int) 0 := ⟨tb_c 146 rfl rfl, tb_w 89 (by decide +kernel) (by decide +kernel), ⟨by decide, by decide⟩, by decide, by decide +kernel⟩
theorem vX8_strike : Mv yX8_strike := ⟨tb_w 791 (by decide +kernel) (by decide +kernel), tb_w 792 (by decide +kernel) (by decide +kernel)⟩
theorem mX8_told : Mt yX8_told cX8_told 3 (some FieldType.int) 1 := ⟨tb_c 147 rfl rfl, tb_w 89 (by decide +kernel) (by decide +kernel), ⟨by decide, by decide⟩, by decide, by decide +kernel⟩
theorem vX8_told : Mv yX8_told := ⟨tb_w 962 (by decide +kernel) (by decide +kernel), tb_w 963 (by decide +kernel) (by decide +kernel)⟩
theorem mX8_toll : Mt yX8_toll cX8_toll 4 (some FieldType.int) 2 := ⟨tb_c 148 rfl rfl, tb_w 89 (by decide +kernel) (by decide +kernel), ⟨by decide, by decide⟩, by decide, by decide +kernel⟩
theorem vX8_toll : Mv yX8_toll := ⟨tb_w 851 (by decide +kernel) (by decide +kernel), tb_w 852 (by decide +kernel) (by decide +kernel)⟩
theorem mX8_weight : Mt yX8_weight cX8_weight 4 (some FieldType.int) 2 := ⟨tb_c 149 rfl rfl, tb_w 89 (by decide +kernel) (by decide +kernel), ⟨by decide, by decide⟩, by decide, by decide +kernel⟩
theorem vX8_weight : Mv yX8_weight := ⟨tb_w 934 (by decide +kernel) (by decide +kernel), tb_w 935 (by decide +kernel) (by decide +kernel)⟩
theorem mX8_wipe : Mt yX8_wipe cX8_wipe 2 (some FieldType.int) 0 := ⟨tb_c 150 rfl rfl, tb_w 89 (by decide +kernel) (by decide +kernel), ⟨by decide, by decide⟩, by decide, by decide +kernel⟩
theorem vX8_wipe : Mv yX8_wipe := ⟨tb_w 771 (by decide +kernel) (by decide +kernel), tb_w 772 (by decide +kernel) (by decide +kernel)⟩
theorem mX8_with : Mt yX8_with cX8_with 9 (some FieldType.int) 3 := ⟨tb_c 151 rfl rfl, tb_w 89 (by decide +kernel) (by decide +kernel), ⟨by decide, by decide⟩, by decide, by decide +kernel⟩
theorem vX8_with : Mv yX8_with := ⟨tb_w 892 (by decide +kernel) (by decide +kernel), tb_w 73 (by decide +kernel) (by decide +kernel)⟩
theorem loX7_1 : Cond.methodLink RX7 1 objectInit ∈ TBL := tb_w 99 (by decide +kernel) (by decide +kernel)
theorem lX7_9 : Ln RX7 9 yX2_init := Or.inr ⟨"LastScale", tb_n 104 (by decide +kernel) (by decide +kernel)⟩
theorem lX7_18 : Ln RX7 18 yX0_init := Or.inr ⟨"LastScale", tb_n 120 (by decide +kernel) (by decide +kernel)⟩
theorem lX7_29 : Ln RX7 29 yX4_init := Or.inr ⟨"LastScale", tb_n 180 (by decide +kernel) (by decide +kernel)⟩
theorem lX7_36 : Ln RX7 36 yX5_init := Or.inr ⟨"LastScale", tb_n 201 (by decide +kernel) (by decide +kernel)⟩
theorem lX7_43 : Ln RX7 43 yX1_init := Or.inr ⟨"LastScale", tb_n 219 (by decide +kernel) (by decide +kernel)⟩
theorem lX7_50 : Ln RX7 50 yX6_init := Or.inr ⟨"LastScale", tb_n 238 (by decide +kernel) (by decide +kernel)⟩
theorem lX7_65 : Ln RX7 65 yX0_beginWith := Or.inr ⟨"LastScale", tb_n 288 (by decide +kernel) (by decide +kernel)⟩
theorem lX7_72 : Ln RX7 72 yX2_put := Or.inr ⟨"LastScale", tb_n 293 (by decide +kernel) (by decide +kernel)⟩
theorem lX7_75 : Ln RX7 75 yX2_clear := Or.inr ⟨"LastScale", tb_n 301 (by decide +kernel) (by decide +kernel)⟩
theorem lX7_78 : Ln RX7 78 yX2_firstFault := Or.inr ⟨"LastScale", tb_n 309 (by decide +kernel) (by decide +kernel)⟩
theorem lX7_85 : Ln RX7 85 yX0_write := Or.inr ⟨"LastScale", tb_n 321 (by decide +kernel) (by decide +kernel)⟩
theorem lX7_93 : Ln RX7 93 yX0_has := Or.inr ⟨"LastScale", tb_n 349 (by decide +kernel) (by decide +kernel)⟩
theorem lX7_97 : Ln RX7 97 yX7_readBook := Or.inl (tb_w 353 (by decide +kernel) (by decide +kernel))
theorem lX7_101 : Ln RX7 101 yX4_against := Or.inr ⟨"LastScale", tb_n 377 (by decide +kernel) (by decide +kernel)⟩
theorem lX7_105 : Ln RX7 105 yX4_openPairs := Or.inr ⟨"LastScale", tb_n 389 (by decide +kernel) (by decide +kernel)⟩
theorem lX7_109 : Ln RX7 109 yX4_groupCount := Or.inr ⟨"LastScale", tb_n 394 (by decide +kernel) (by decide +kernel)⟩
theorem lX7_112 : Ln RX7 112 yX7_isEnd := Or.inl (tb_w 416 (by decide +kernel) (by decide +kernel))
theorem lX7_115 : Ln RX7 115 yX4_leastRank := Or.inr ⟨"LastScale", tb_n 419 (by decide +kernel) (by decide +kernel)⟩
theorem lX7_118 : Ln RX7 118 yX4_greatestRank := Or.inr ⟨"LastScale", tb_n 431 (by decide +kernel) (by decide +kernel)⟩
theorem lX7_121 : Ln RX7 121 yX4_orderCount := Or.inr ⟨"LastScale", tb_n 440 (by decide +kernel) (by decide +kernel)⟩
theorem lX7_128 : Ln RX7 128 yX7_paymentOfAll := Or.inl (tb_w 456 (by decide +kernel) (by decide +kernel))
theorem lX7_131 : Ln RX7 131 yX7_paymentOf := Or.inl (tb_w 460 (by decide +kernel) (by decide +kernel))
theorem lX7_134 : Ln RX7 134 yJ9_min_7cf53 := Or.inl (tb_w 464 (by decide +kernel) (by decide +kernel))
theorem lX7_139 : Ln RX7 139 yJ9_max_7cf53 := Or.inl (tb_w 467 (by decide +kernel) (by decide +kernel))
theorem lX7_142 : Ln RX7 142 yX4_read := Or.inr ⟨"LastScale", tb_n 357 (by decide +kernel) (by decide +kernel)⟩
theorem lX7_150 : Ln RX7 150 yX7_plannerFor := Or.inl (tb_w 474 (by decide +kernel) (by decide +kernel))
theorem lX7_154 : Ln RX7 154 yX4_groupOf := Or.inr ⟨"LastScale", tb_n 497 (by decide +kernel) (by decide +kernel)⟩
theorem lX7_157 : Ln RX7 157 yX7_groupOrder := Or.inl (tb_w 501 (by decide +kernel) (by decide +kernel))
theorem lX7_160 : Ln RX7 160 yX3_fewestLifts := Or.inr ⟨"LastScale", tb_n 513 (by decide +kernel) (by decide +kernel)⟩
theorem lX7_163 : Ln RX7 163 yX3_firstOf := Or.inr ⟨"LastScale", tb_n 559 (by decide +kernel) (by decide +kernel)⟩
theorem lX7_167 : Ln RX7 167 yX4_leaderOf := Or.inr ⟨"LastScale", tb_n 505 (by decide +kernel) (by decide +kernel)⟩
theorem lX7_170 : Ln RX7 170 yX3_init := Or.inr ⟨"LastScale", tb_n 479 (by decide +kernel) (by decide +kernel)⟩
theorem lX7_172 : Ln RX7 172 yX4_isHeavier := Or.inr ⟨"LastScale", tb_n 509 (by decide +kernel) (by decide +kernel)⟩
theorem lX7_176 : Ln RX7 176 yX3_pair := Or.inr ⟨"LastScale", tb_n 510 (by decide +kernel) (by decide +kernel)⟩
theorem lX7_188 : Ln RX7 188 yX5_settle := Or.inr ⟨"LastScale", tb_n 575 (by decide +kernel) (by decide +kernel)⟩
theorem lX7_198 : Ln RX7 198 yX1_find := Or.inr ⟨"LastScale", tb_n 598 (by decide +kernel) (by decide +kernel)⟩
theorem lX7_214 : Ln RX7 214 yX6_readNumber := Or.inr ⟨"LastScale", tb_n 616 (by decide +kernel) (by decide +kernel)⟩
theorem lX7_217 : Ln RX7 217 yX6_pairsLeftOpen := Or.inr ⟨"LastScale", tb_n 620 (by decide +kernel) (by decide +kernel)⟩
theorem lX7_221 : Ln RX7 221 yX6_findExtreme := Or.inr ⟨"LastScale", tb_n 631 (by decide +kernel) (by decide +kernel)⟩
theorem lX7_231 : Ln RX7 231 yX0_copyFrom := Or.inr ⟨"LastScale", tb_n 652 (by decide +kernel) (by decide +kernel)⟩
theorem lX7_235 : Ln RX7 235 yX7_toldOfRow := Or.inl (tb_w 665 (by decide +kernel) (by decide +kernel))
theorem loX0_3 : Cond.methodLink RX0 3 objectInit ∈ TBL := tb_w 123 (by decide +kernel) (by decide +kernel)
theorem lX0_32 : Ln RX0 32 yX0_beginWith := Or.inl (tb_w 126 (by decide +kernel) (by decide +kernel))
theorem lX0_48 : Ln RX0 48 yX2_sackAt := Or.inr ⟨"LastScale", tb_n 325 (by decide +kernel) (by decide +kernel)⟩
theorem lX0_52 : Ln RX0 52 yX2_howAt := Or.inr ⟨"LastScale", tb_n 329 (by decide +kernel) (by decide +kernel)⟩
theorem lX0_55 : Ln RX0 55 yX0_addSaying := Or.inl (tb_w 333 (by decide +kernel) (by decide +kernel))
theorem laX0_59 : Cond.methodLink RX0 59 arraycopyName ∈ TBL := tb_w 656 (by decide +kernel) (by decide +kernel)
theorem loX1_3 : Cond.methodLink RX1 3 objectInit ∈ TBL := tb_w 222 (by decide +kernel) (by decide +kernel)
theorem lX1_26 : Ln RX1 26 yJ6_bitCount_0f7a4 := Or.inl (tb_w 602 (by decide +kernel) (by decide +kernel))
theorem lX1_32 : Ln RX1 32 yX4_read := Or.inr ⟨"LastScale", tb_n 603 (by decide +kernel) (by decide +kernel)⟩
theorem lX1_42 : Ln RX1 42 yX1_take := Or.inl (tb_w 604 (by decide +kernel) (by decide +kernel))
theorem loX2_3 : Cond.methodLink RX2 3 objectInit ∈ TBL := tb_w 107 (by decide +kernel) (by decide +kernel)
theorem lX2_19 : Ln RX2 19 yX2_mayStand := Or.inl (tb_w 313 (by decide +kernel) (by decide +kernel))
theorem loX3_3 : Cond.methodLink RX3 3 objectInit ∈ TBL := tb_w 482 (by decide +kernel) (by decide +kernel)
theorem lX3_9 : Ln RX3 9 yJ9_min_7cf53 := Or.inl (tb_w 483 (by decide +kernel) (by decide +kernel))
theorem lX3_15 : Ln RX3 15 yJ9_max_7cf53 := Or.inl (tb_w 484 (by decide +kernel) (by decide +kernel))
theorem lX3_34 : Ln RX3 34 yX3_pair := Or.inl (tb_w 530 (by decide +kernel) (by decide +kernel))
theorem lX3_37 : Ln RX3 37 yJ6_bitCount_0f7a4 := Or.inl (tb_w 521 (by decide +kernel) (by decide +kernel))
theorem lX3_43 : Ln RX3 43 yX3_isWhole := Or.inl (tb_w 517 (by decide +kernel) (by decide +kernel))
theorem lX3_47 : Ln RX3 47 yX3_costs := Or.inl (tb_w 522 (by decide +kernel) (by decide +kernel))
theorem lX3_50 : Ln RX3 50 yX3_costWith := Or.inl (tb_w 545 (by decide +kernel) (by decide +kernel))
theorem lX3_53 : Ln RX3 53 yX3_costOfLaying := Or.inl (tb_w 555 (by decide +kernel) (by decide +kernel))
theorem lX3_57 : Ln RX3 57 yX3_codeOf := Or.inl (tb_w 526 (by decide +kernel) (by decide +kernel))
theorem lX3_60 : Ln RX3 60 yX3_findCosts := Or.inl (tb_w 531 (by decide +kernel) (by decide +kernel))
theorem lX3_63 : Ln RX3 63 yX3_isOpen := Or.inl (tb_w 535 (by decide +kernel) (by decide +kernel))
theorem lX3_67 : Ln RX3 67 yX3_joined := Or.inl (tb_w 538 (by decide +kernel) (by decide +kernel))
theorem lX3_70 : Ln RX3 70 yX3_worse := Or.inl (tb_w 542 (by decide +kernel) (by decide +kernel))
theorem lX3_73 : Ln RX3 73 yX3_withLess := Or.inl (tb_w 548 (by decide +kernel) (by decide +kernel))
theorem lX3_76 : Ln RX3 76 yX3_withDetours := Or.inl (tb_w 551 (by decide +kernel) (by decide +kernel))
theorem loX4_3 : Cond.methodLink RX4 3 objectInit ∈ TBL := tb_w 183 (by decide +kernel) (by decide +kernel)
theorem lX4_32 : Ln RX4 32 yX4_believe := Or.inl (tb_w 361 (by decide +kernel) (by decide +kernel))
theorem lX4_36 : Ln RX4 36 yX4_close := Or.inl (tb_w 365 (by decide +kernel) (by decide +kernel))
theorem lX4_43 : Ln RX4 43 yX4_contradicts := Or.inl (tb_w 373 (by decide +kernel) (by decide +kernel))
theorem lX4_47 : Ln RX4 47 yX4_isNoLess := Or.inl (tb_w 369 (by decide +kernel) (by decide +kernel))
theorem lX4_51 : Ln RX4 51 yX4_isAlike := Or.inl (tb_w 381 (by decide +kernel) (by decide +kernel))
theorem lX4_54 : Ln RX4 54 yX4_against := Or.inl (tb_w 393 (by decide +kernel) (by decide +kernel))
theorem lX4_58 : Ln RX4 58 yX4_isLeader := Or.inl (tb_w 402 (by decide +kernel) (by decide +kernel))
theorem lX4_62 : Ln RX4 62 yX4_leaders := Or.inl (tb_w 398 (by decide +kernel) (by decide +kernel))
theorem lX4_66 : Ln RX4 66 yJ6_bitCount_0f7a4 := Or.inl (tb_w 406 (by decide +kernel) (by decide +kernel))
theorem lX4_72 : Ln RX4 72 yX4_isHeavier := Or.inl (tb_w 427 (by decide +kernel) (by decide +kernel))
theorem lX4_75 : Ln RX4 75 yX4_heavierLeaders := Or.inl (tb_w 423 (by decide +kernel) (by decide +kernel))
theorem lX4_78 : Ln RX4 78 yX4_groupCount := Or.inl (tb_w 435 (by decide +kernel) (by decide +kernel))
theorem lX4_81 : Ln RX4 81 yX4_waysToBegin := Or.inl (tb_w 444 (by decide +kernel) (by decide +kernel))
theorem loX5_3 : Cond.methodLink RX5 3 objectInit ∈ TBL := tb_w 204 (by decide +kernel) (by decide +kernel)
theorem laX5_23 : Cond.methodLink RX5 23 arraycopyName ∈ TBL := tb_w 579 (by decide +kernel) (by decide +kernel)
theorem lX5_47 : Ln RX5 47 yX5_hear := Or.inl (tb_w 582 (by decide +kernel) (by decide +kernel))
theorem lX5_54 : Ln RX5 54 yX5_allFit := Or.inl (tb_w 590 (by decide +kernel) (by decide +kernel))
theorem lX5_58 : Ln RX5 58 yX5_keepAbove := Or.inl (tb_w 586 (by decide +kernel) (by decide +kernel))
theorem loX6_3 : Cond.methodLink RX6 3 objectInit ∈ TBL := tb_w 241 (by decide +kernel) (by decide +kernel)
theorem lX6_19 : Ln RX6 19 yJ6_compare_7cf53 := Or.inl (tb_w 624 (by decide +kernel) (by decide +kernel))
theorem lX6_25 : Ln RX6 25 yX6_number := Or.inl (tb_w 635 (by decide +kernel) (by decide +kernel))
theorem lX6_32 : Ln RX6 32 yX6_pairsLeftOpen := Or.inl (tb_w 639 (by decide +kernel) (by decide +kernel))
theorem lX6_39 : Ln RX6 39 yX6_advance := Or.inl (tb_w 640 (by decide +kernel) (by decide +kernel))
theorem lX6_43 : Ln RX6 43 yX6_swap := Or.inl (tb_w 644 (by decide +kernel) (by decide +kernel))
theorem loX8_1 : Cond.methodLink RX8 1 objectInit ∈ TBL := tb_w 674 (by decide +kernel) (by decide +kernel)
theorem lX8_79 : Ln RX8 79 yX8_in := Or.inl (tb_w 763 (by decide +kernel) (by decide +kernel))
theorem lX8_89 : Ln RX8 89 yX8_isSack := Or.inl (tb_w 782 (by decide +kernel) (by decide +kernel))
theorem lX8_93 : Ln RX8 93 yX8_faultOf := Or.inl (tb_w 778 (by decide +kernel) (by decide +kernel))
theorem lX8_97 : Ln RX8 97 yX8_clear := Or.inl (tb_w 810 (by decide +kernel) (by decide +kernel))
theorem lX8_100 : Ln RX8 100 yX8_put := Or.inl (tb_w 814 (by decide +kernel) (by decide +kernel))
theorem lX8_104 : Ln RX8 104 yX8_close := Or.inl (tb_w 818 (by decide +kernel) (by decide +kernel))
theorem lX8_108 : Ln RX8 108 yX8_follow := Or.inl (tb_w 806 (by decide +kernel) (by decide +kernel))
theorem lX8_111 : Ln RX8 111 yX8_followAll := Or.inl (tb_w 802 (by decide +kernel) (by decide +kernel))
theorem lX8_114 : Ln RX8 114 yX8_isOpen := Or.inl (tb_w 834 (by decide +kernel) (by decide +kernel))
theorem lX8_121 : Ln RX8 121 yX8_layGroups := Or.inl (tb_w 826 (by decide +kernel) (by decide +kernel))
theorem lX8_124 : Ln RX8 124 yX8_openPairs := Or.inl (tb_w 830 (by decide +kernel) (by decide +kernel))
theorem lX8_127 : Ln RX8 127 yX8_rankOf := Or.inl (tb_w 842 (by decide +kernel) (by decide +kernel))
theorem lX8_131 : Ln RX8 131 yX8_paysOf := Or.inl (tb_w 858 (by decide +kernel) (by decide +kernel))
theorem lX8_136 : Ln RX8 136 yX8_slot := Or.inl (tb_w 874 (by decide +kernel) (by decide +kernel))
theorem lX8_142 : Ln RX8 142 yX8_isOver := Or.inl (tb_w 883 (by decide +kernel) (by decide +kernel))
theorem lX8_145 : Ln RX8 145 yX8_stand := Or.inl (tb_w 870 (by decide +kernel) (by decide +kernel))
theorem lX8_148 : Ln RX8 148 yX8_with := Or.inl (tb_w 890 (by decide +kernel) (by decide +kernel))
theorem lX8_152 : Ln RX8 152 yX8_isWhole := Or.inl (tb_w 879 (by decide +kernel) (by decide +kernel))
theorem lX8_155 : Ln RX8 155 yX8_laid := Or.inl (tb_w 886 (by decide +kernel) (by decide +kernel))
theorem lX8_158 : Ln RX8 158 yX8_does := Or.inl (tb_w 898 (by decide +kernel) (by decide +kernel))
theorem lX8_161 : Ln RX8 161 yX8_layStands := Or.inl (tb_w 866 (by decide +kernel) (by decide +kernel))
theorem lX8_165 : Ln RX8 165 yX8_layValues := Or.inl (tb_w 894 (by decide +kernel) (by decide +kernel))
theorem lX8_171 : Ln RX8 171 yX8_canSpan := Or.inl (tb_w 918 (by decide +kernel) (by decide +kernel))
theorem lX8_174 : Ln RX8 174 yX8_press := Or.inl (tb_w 922 (by decide +kernel) (by decide +kernel))
theorem lX8_177 : Ln RX8 177 yX8_laySpans := Or.inl (tb_w 914 (by decide +kernel) (by decide +kernel))
theorem lX8_180 : Ln RX8 180 yX8_bits := Or.inl (tb_w 930 (by decide +kernel) (by decide +kernel))
theorem lX8_184 : Ln RX8 184 yX8_layOrder := Or.inl (tb_w 941 (by decide +kernel) (by decide +kernel))
theorem lX8_187 : Ln RX8 187 yX8_leftOpen := Or.inl (tb_w 945 (by decide +kernel) (by decide +kernel))
theorem w_aI : Cond.arrayClass .int ∈ TBL := tb_w 117 (by decide +kernel) (by decide +kernel)
theorem w_aZ : Cond.arrayClass .boolean ∈ TBL := tb_w 758 (by decide +kernel) (by decide +kernel)
theorem w_oI : Cond.arrayOver (.array .int) ∈ NST := tb_n 125 (by decide +kernel) (by decide +kernel)
theorem w_oB : Cond.arrayOver (.object "LastScale$Book") ∈ NST := tb_n 177 (by decide +kernel) (by decide +kernel)
theorem w_oP : Cond.arrayOver (.object "LastScale$Planner") ∈ NST := tb_n 258 (by decide +kernel) (by decide +kernel)
theorem w_sysi : Cond.initialized "java/lang/System" ∈ TBL := tb_w 93 (by decide +kernel) (by decide +kernel)
theorem w_acs : Cond.static arraycopyName ∈ TBL := tb_w 580 (by decide +kernel) (by decide +kernel)
theorem w_acn : Cond.native arraycopyName ∈ TBL := tb_w 581 (by decide +kernel) (by decide +kernel)
theorem w_obi : Cond.instanceMethod objectInit ∈ TBL := tb_w 100 (by decide +kernel) (by decide +kernel)
theorem w_obc : Cond.code objectInit ⟨#[0xb1]⟩ 1 none ∈ TBL := tb_w 101 (by decide +kernel) (by decide +kernel)
theorem isX7 : Cond.instantiable RX7 8 ∈ TBL := tb_w 95 (by decide +kernel) (by decide +kernel)
theorem clX7_7 : Cond.classLink RX7 7 "LastScale$Pad" ∈ TBL := tb_w 102 (by decide +kernel) (by decide +kernel)
theorem isX2 : Cond.instantiable RX2 2 ∈ TBL := tb_w 103 (by decide +kernel) (by decide +kernel)
theorem clX7_16 : Cond.classLink RX7 16 "LastScale$Book" ∈ TBL := tb_w 118 (by decide +kernel) (by decide +kernel)
theorem isX0 : Cond.instantiable RX0 9 ∈ TBL := tb_w 119 (by decide +kernel) (by decide +kernel)
theorem clX0_9 : Cond.classLink RX0 9 "[[I" ∈ TBL := tb_w 124 (by decide +kernel) (by decide +kernel)
theorem clX7_27 : Cond.classLink RX7 27 "LastScale$Relation" ∈ TBL := tb_w 178 (by decide +kernel) (by decide +kernel)
theorem isX4 : Cond.instantiable RX4 4 ∈ TBL := tb_w 179 (by decide +kernel) (by decide +kernel)
theorem clX7_34 : Cond.classLink RX7 34 "LastScale$Spans" ∈ TBL := tb_w 199 (by decide +kernel) (by decide +kernel)
theorem isX5 : Cond.instantiable RX5 3 ∈ TBL := tb_w 200 (by decide +kernel) (by decide +kernel)
theorem clX7_41 : Cond.classLink RX7 41 "LastScale$FalseSayings" ∈ TBL := tb_w 217 (by decide +kernel) (by decide +kernel)
theorem isX1 : Cond.instantiable RX1 3 ∈ TBL := tb_w 218 (by decide +kernel) (by decide +kernel)
theorem clX7_48 : Cond.classLink RX7 48 "LastScale$WeighedLine" ∈ TBL := tb_w 236 (by decide +kernel) (by decide +kernel)
theorem isX6 : Cond.instantiable RX6 4 ∈ TBL := tb_w 237 (by decide +kernel) (by decide +kernel)
theorem clX7_55 : Cond.classLink RX7 55 "LastScale$Planner" ∈ TBL := tb_w 257 (by decide +kernel) (by decide +kernel)
theorem kJ6_265 : Cond.constant RJ6 265 (Int32.ofInt 1431655765) ∈ TBL := tb_w 409 (by decide +kernel) (by decide +kernel)
theorem kJ6_266 : Cond.constant RJ6 266 (Int32.ofInt 858993459) ∈ TBL := tb_w 410 (by decide +kernel) (by decide +kernel)
theorem kJ6_267 : Cond.constant RJ6 267 (Int32.ofInt 252645135) ∈ TBL := tb_w 411 (by decide +kernel) (by decide +kernel)
theorem isX3 : Cond.instantiable RX3 3 ∈ TBL := tb_w 478 (by decide +kernel) (by decide +kernel)
theorem isX8 : Cond.instantiable RX8 27 ∈ TBL := tb_w 670 (by decide +kernel) (by decide +kernel)
theorem kX8_60 : Cond.constant RX8 60 (Int32.ofInt 65536) ∈ TBL := tb_w 675 (by decide +kernel) (by decide +kernel)
theorem kX8_134 : Cond.constant RX8 134 (Int32.ofInt 40503) ∈ TBL := tb_w 877 (by decide +kernel) (by decide +kernel)
theorem kX8_135 : Cond.constant RX8 135 (Int32.ofInt 65535) ∈ TBL := tb_w 878 (by decide +kernel) (by decide +kernel)
theorem stX3_27 : Cond.fieldLink RX3 27 "LastScale$Planner" "CODES" "[I" ∈ TBL := tb_w 485 (by decide +kernel) (by decide +kernel)
theorem ini0 : Cond.initialized RX0 ∈ TBL := tb_w 84 (by decide +kernel) (by decide +kernel)
theorem ini1 : Cond.initialized RX1 ∈ TBL := tb_w 87 (by decide +kernel) (by decide +kernel)
theorem ini2 : Cond.initialized RX2 ∈ TBL := tb_w 83 (by decide +kernel) (by decide +kernel)
theorem ini3 : Cond.initialized RX3 ∈ TBL := tb_w 92 (by decide +kernel) (by decide +kernel)
theorem ini4 : Cond.initialized RX4 ∈ TBL := tb_w 85 (by decide +kernel) (by decide +kernel)
theorem ini5 : Cond.initialized RX5 ∈ TBL := tb_w 86 (by decide +kernel) (by decide +kernel)
theorem ini6 : Cond.initialized RX6 ∈ TBL := tb_w 88 (by decide +kernel) (by decide +kernel)
theorem ini7 : Cond.initialized RX7 ∈ TBL := tb_w 82 (by decide +kernel) (by decide +kernel)
theorem ini8 : Cond.initialized RX8 ∈ TBL := tb_w 89 (by decide +kernel) (by decide +kernel)
end
section
/-! answers, booleans, calls of methods that make nothing, shapes of the objects -/
noncomputable def b2i (p : Prop) : Int := @ite Int p (Classical.propDecidable p) 1 0
theorem b2i_t {p : Prop} (h : p) : b2i p = 1 := by unfold b2i; exact if_pos h
theorem b2i_f {p : Prop} (h : ¬ p) : b2i p = 0 := by unfold b2i; exact if_neg h
theorem b2i_01 {p : Prop} : b2i p = 0 ∨ b2i p = 1 := by
  by_cases h : p
  · exact Or.inr (b2i_t h)
  · exact Or.inl (b2i_f h)
theorem b2i_1 {p : Prop} : b2i p = 1 ↔ p := by
  constructor
  · intro h
    by_cases q : p
    · exact q
    · rw [b2i_f q] at h; exact absurd h (by decide)
  · exact b2i_t
theorem b2i_0 {p : Prop} : b2i p = 0 ↔ ¬ p := by
  constructor
  · intro h q
    rw [b2i_t q] at h; exact absurd h (by decide)
  · exact b2i_f
theorem b2i_r {p : Prop} : -2147483648 ≤ b2i p ∧ b2i p < 2147483648 := by rcases b2i_01 (p := p) with h | h <;> rw [h] <;> decide
theorem b2i_c {p q : Prop} (h : p ↔ q) : b2i p = b2i q := by rw [propext h]
/-- no cell is made: the answer is a number; nothing is answered -/
def Ri (S : Sh) (z : Int) (μ : Mu) : Pst := fun r S1 μ1 => r = some (vi z) ∧ S1 = S ∧ μ1 = μ
def Rv (S : Sh) (μ : Mu) : Pst := fun r S1 μ1 => r = none ∧ S1 = S ∧ μ1 = μ
/-- the answer is a number, such and such -/
def Re (S : Sh) (Q : Int → Mu → Prop) : Pst := fun r S1 μ1 => ∃ z, r = some (vi z) ∧ S1 = S ∧ Q z μ1
def Rw (S : Sh) (Q : Mu → Prop) : Pst := fun r S1 μ1 => r = none ∧ S1 = S ∧ Q μ1
theorem Ct.mono {l : Launch} {G : Glb} {cc : ByteArray} {F : Frm} {args : List Value} {S : Sh} {μ : Mu} {P P' : Pst} (h : Ct l G cc F args S μ P) (hP : ∀ r S μ, P r S μ → P' r S μ) : Ct l G cc F args S μ P' := by
  intro p e ha hc hk s m args' below hf happ hp hpre
  obtain ⟨kk, o, h1, h2, h3, ⟨r, S', μ', q1, q2, q3⟩, h5⟩ := h p e ha hc hk s m args' below hf happ hp hpre
  exact ⟨kk, o, h1, h2, h3, ⟨r, S', μ', q1, hP _ _ _ q2, q3⟩, h5⟩
section R5
variable {l : Launch} {G : Glb} {cc : ByteArray} {F : Frm} {P : Pst} {k : Nat × Nat} {S : Sh} {μ : Mu} {pc n : Nat} {L st : List Value}
theorem v_if_eq_b {p : Prop} {off : Int} (t : Nat) (ht : (pc : Int) + off = (t : Int)) (hd : At cc pc (.ifCond .eq off) 3 n) (kt : ¬ p → V l G cc F P k S μ t L st) (kf : p → V l G cc F P k S μ n L st) : V l G cc F P k S μ pc L (vi (b2i p) :: st) := v_if_eq t ht hd b2i_r (fun h => kt (b2i_0.mp h)) (fun h => kf (Classical.not_not.mp fun q => h (b2i_f q)))
theorem v_if_ne_b {p : Prop} {off : Int} (t : Nat) (ht : (pc : Int) + off = (t : Int)) (hd : At cc pc (.ifCond .ne off) 3 n) (kt : p → V l G cc F P k S μ t L st) (kf : ¬ p → V l G cc F P k S μ n L st) : V l G cc F P k S μ pc L (vi (b2i p) :: st) := v_if_ne t ht hd b2i_r (fun h => kt (Classical.not_not.mp fun q => h (b2i_f q))) (fun h => kf (b2i_0.mp h))
variable {y : MethodName} {cc' : ByteArray} {mL : Nat} {rt : Option FieldType} {d np : Nat} {As : List Value} {P' : Pst} {idx : Nat} {stk : List Value} {b ci : Nat} {sh : Shp} {r : vw_C}
theorem v_cV (hC : Ct l G cc' (y, mL, rt, d, 0, 0) (.ref b :: As) S μ P') (hd : At cc pc (.invokevirtual idx) 3 n) (hM : Mt y cc' mL rt np) (hI : Mv y) (hL : Ln F.1.cls idx y) (hS : S.2 b = some sh) (hk : sh.1 = ci) (hr : vwCl[ci]? = some r) (hrc : r.1 = y.cls) (hn : As.length = np) (hst : stk = As.reverse ++ .ref b :: st) (hfr : d + 1 ≤ F.2.2.2.1) (hmm : k.1 ≤ F.2.2.2.2.1 ∧ k.2 ≤ F.2.2.2.2.2) (hrs : (st.map fun v => v.category).sum ≤ 8)
    (K : ∀ r S' μ', P' r S' μ' → V l G cc F P k S' μ' n L (r.toList ++ st)) : V l G cc F P k S μ pc L stk := v_callV As hC hd hM hI hL hS hk hr hrc hn hst hfr hmm hrs K
theorem v_cVi {z : Int} {μ' : Mu} (hC : Ct l G cc' (y, mL, rt, d, 0, 0) (.ref b :: As) S μ (Ri S z μ')) (hd : At cc pc (.invokevirtual idx) 3 n) (hM : Mt y cc' mL rt np) (hI : Mv y) (hL : Ln F.1.cls idx y) (hS : S.2 b = some sh) (hk : sh.1 = ci) (hr : vwCl[ci]? = some r) (hrc : r.1 = y.cls) (hn : As.length = np) (hst : stk = As.reverse ++ .ref b :: st) (hfr : d + 1 ≤ F.2.2.2.1) (hmm : k.1 ≤ F.2.2.2.2.1 ∧ k.2 ≤ F.2.2.2.2.2) (hrs : (st.map fun v => v.category).sum ≤ 8)
    (K : V l G cc F P k S μ' n L (vi z :: st)) : V l G cc F P k S μ pc L stk := v_callV As hC hd hM hI hL hS hk hr hrc hn hst hfr hmm hrs (fun r S' μ1 h => by obtain ⟨rfl, rfl, rfl⟩ := h; exact K)
theorem v_cVv {μ' : Mu} (hC : Ct l G cc' (y, mL, rt, d, 0, 0) (.ref b :: As) S μ (Rv S μ')) (hd : At cc pc (.invokevirtual idx) 3 n) (hM : Mt y cc' mL rt np) (hI : Mv y) (hL : Ln F.1.cls idx y) (hS : S.2 b = some sh) (hk : sh.1 = ci) (hr : vwCl[ci]? = some r) (hrc : r.1 = y.cls) (hn : As.length = np) (hst : stk = As.reverse ++ .ref b :: st) (hfr : d + 1 ≤ F.2.2.2.1) (hmm : k.1 ≤ F.2.2.2.2.1 ∧ k.2 ≤ F.2.2.2.2.2) (hrs : (st.map fun v => v.category).sum ≤ 8)
    (K : V l G cc F P k S μ' n L st) : V l G cc F P k S μ pc L stk := v_callV As hC hd hM hI hL hS hk hr hrc hn hst hfr hmm hrs (fun r S' μ1 h => by obtain ⟨rfl, rfl, rfl⟩ := h; exact K)
theorem v_cVe {Q : Int → Mu → Prop} (hC : Ct l G cc' (y, mL, rt, d, 0, 0) (.ref b :: As) S μ (Re S Q)) (hd : At cc pc (.invokevirtual idx) 3 n) (hM : Mt y cc' mL rt np) (hI : Mv y) (hL : Ln F.1.cls idx y) (hS : S.2 b = some sh) (hk : sh.1 = ci) (hr : vwCl[ci]? = some r) (hrc : r.1 = y.cls) (hn : As.length = np) (hst : stk = As.reverse ++ .ref b :: st) (hfr : d + 1 ≤ F.2.2.2.1) (hmm : k.1 ≤ F.2.2.2.2.1 ∧ k.2 ≤ F.2.2.2.2.2) (hrs : (st.map fun v => v.category).sum ≤ 8)
    (K : ∀ z μ', Q z μ' → V l G cc F P k S μ' n L (vi z :: st)) : V l G cc F P k S μ pc L stk := v_callV As hC hd hM hI hL hS hk hr hrc hn hst hfr hmm hrs (fun r S' μ1 h => by obtain ⟨z, rfl, rfl, h⟩ := h; exact K z μ1 h)
theorem v_cVw {Q : Mu → Prop} (hC : Ct l G cc' (y, mL, rt, d, 0, 0) (.ref b :: As) S μ (Rw S Q)) (hd : At cc pc (.invokevirtual idx) 3 n) (hM : Mt y cc' mL rt np) (hI : Mv y) (hL : Ln F.1.cls idx y) (hS : S.2 b = some sh) (hk : sh.1 = ci) (hr : vwCl[ci]? = some r) (hrc : r.1 = y.cls) (hn : As.length = np) (hst : stk = As.reverse ++ .ref b :: st) (hfr : d + 1 ≤ F.2.2.2.1) (hmm : k.1 ≤ F.2.2.2.2.1 ∧ k.2 ≤ F.2.2.2.2.2) (hrs : (st.map fun v => v.category).sum ≤ 8)
    (K : ∀ μ', Q μ' → V l G cc F P k S μ' n L st) : V l G cc F P k S μ pc L stk := v_callV As hC hd hM hI hL hS hk hr hrc hn hst hfr hmm hrs (fun r S' μ1 h => by obtain ⟨rfl, rfl, h⟩ := h; exact K μ1 h)
theorem v_cSi {z : Int} {μ' : Mu} (hC : Ct l G cc' (y, mL, rt, d, 0, 0) As S μ (Ri S z μ')) (hd : At cc pc (.invokestatic idx) 3 n) (hM : Mt y cc' mL rt np) (hI : Cond.static y ∈ TBL) (hL : Ln F.1.cls idx y) (hn : As.length = np) (hst : stk = As.reverse ++ st) (hfr : d + 1 ≤ F.2.2.2.1) (hmm : k.1 ≤ F.2.2.2.2.1 ∧ k.2 ≤ F.2.2.2.2.2) (hrs : (st.map fun v => v.category).sum ≤ 8)
    (K : V l G cc F P k S μ' n L (vi z :: st)) : V l G cc F P k S μ pc L stk := v_callS As hC hd hM hI hL hn hst hfr hmm hrs (fun r S' μ1 h => by obtain ⟨rfl, rfl, rfl⟩ := h; exact K)
theorem v_cSe {Q : Int → Mu → Prop} (hC : Ct l G cc' (y, mL, rt, d, 0, 0) As S μ (Re S Q)) (hd : At cc pc (.invokestatic idx) 3 n) (hM : Mt y cc' mL rt np) (hI : Cond.static y ∈ TBL) (hL : Ln F.1.cls idx y) (hn : As.length = np) (hst : stk = As.reverse ++ st) (hfr : d + 1 ≤ F.2.2.2.1) (hmm : k.1 ≤ F.2.2.2.2.1 ∧ k.2 ≤ F.2.2.2.2.2) (hrs : (st.map fun v => v.category).sum ≤ 8)
    (K : ∀ z μ', Q z μ' → V l G cc F P k S μ' n L (vi z :: st)) : V l G cc F P k S μ pc L stk := v_callS As hC hd hM hI hL hn hst hfr hmm hrs (fun r S' μ1 h => by obtain ⟨z, rfl, rfl, h⟩ := h; exact K z μ1 h)
theorem v_aaldR {a kk N q : Nat} {rf : Nat → Option Nat} {z : Int} {ty : FieldType} (hk : kTy kk = some ty) (hr : ty.isReference = true) (hd : At cc pc .aaload 1 n) (hS : S.2 a = some (aR kk N rf)) (hz : 0 ≤ z ∧ z < (N : Int)) (hN : N ≤ 65536) (hq : rf z.toNat = some q) (h : V l G cc F P k S μ n L (.ref q :: st)) : V l G cc F P k S μ pc L (vi z :: .ref a :: st) := v_aald hk hr hd hS hz hN (by rw [hq]; exact h)
theorem v_aaldN {a kk N : Nat} {rf : Nat → Option Nat} {z : Int} {ty : FieldType} (hk : kTy kk = some ty) (hr : ty.isReference = true) (hd : At cc pc .aaload 1 n) (hS : S.2 a = some (aR kk N rf)) (hz : 0 ≤ z ∧ z < (N : Int)) (hN : N ≤ 65536) (hq : rf z.toNat = none) (h : V l G cc F P k S μ n L (.null :: st)) : V l G cc F P k S μ pc L (vi z :: .ref a :: st) := v_aald hk hr hd hS hz hN (by rw [hq]; exact h)
theorem v_gi {a idx ci f : Nat} {sh : Shp} (z : Int) (hz : (f : Int) = z) (hd : At cc pc (.getfield idx) 3 n) (hF : Fl F.1.cls idx ci f) (hS : S.2 a = some sh) (hk : sh.1 = ci) (hi : sh.2.2 f = none) (h : V l G cc F P k S μ n L (vi (μ a z) :: st)) : V l G cc F P k S μ pc L (.ref a :: st) := by
  subst hz
  exact v_geti hd hF hS hk hi h
theorem v_pi {a idx ci f : Nat} {sh : Shp} {x : Int} (z : Int) (hz : (f : Int) = z) (hd : At cc pc (.putfield idx) 3 n) (hF : Fl F.1.cls idx ci f) (hN : Nf ci f) (hO : Ok ci f (vi x)) (hS : S.2 a = some sh) (hk : sh.1 = ci) (hi : sh.2.2 f = none) (h : V l G cc F P k S (upd2 μ a z x) n L st) : V l G cc F P k S μ pc L (vi x :: .ref a :: st) := by
  subst hz
  exact v_put hd hF hN hO hS hk hi h
/-- the top of the stack is such a number -/
theorem v_top {z w : Int} (e : z = w) (h : V l G cc F P k S μ pc L (vi w :: st)) : V l G cc F P k S μ pc L (vi z :: st) := by rw [e]; exact h
theorem v_mu {μ' : Mu} (e : μ = μ') (h : V l G cc F P k S μ' pc L st) : V l G cc F P k S μ pc L st := by rw [e]; exact h
end R5
theorem upd2_ap (μ : Mu) (a : Nat) (z x : Int) (q : Nat) (i : Int) : upd2 μ a z x q i = if q = a ∧ i = z then x else μ q i := rfl
theorem row_ap (μ : Mu) (a : Nat) (g : Int → Int) (q : Nat) : row μ a g q = if q = a then g else μ q := rfl
theorem row_same {μ : Mu} {a : Nat} {g : Int → Int} : row μ a g a = g := by simp [row]
theorem row_ne {μ : Mu} {a q : Nat} {g : Int → Int} (h : q ≠ a) : row μ a g q = μ q := by simp [row, h]
def iup (g : Int → Int) (z x : Int) : Int → Int := fun i => if i = z then x else g i
theorem upd2_iup {μ : Mu} {a : Nat} {z x : Int} : upd2 μ a z x = row μ a (iup (μ a) z x) := by
  funext q i
  by_cases h : q = a
  · subst h; simp [upd2, row, iup]
  · simp [upd2, row, h]
theorem row_row {μ : Mu} {a : Nat} {g h : Int → Int} : row (row μ a g) a h = row μ a h := by
  funext q
  by_cases e : q = a <;> simp [row, e]
theorem row_id {μ : Mu} {a : Nat} : row μ a (μ a) = μ := by
  funext q
  by_cases e : q = a
  · subst e; simp [row]
  · simp [row, e]
theorem row_comm {μ : Mu} {a b : Nat} {g h : Int → Int} (e : a ≠ b) : row (row μ a g) b h = row (row μ b h) a g := by
  funext q
  by_cases e1 : q = a
  · subst e1; simp [row, e]
  · by_cases e2 : q = b
    · subst e2; simp [row, e1]
    · simp [row, e1, e2]
theorem iup_same {g : Int → Int} {z x : Int} : iup g z x z = x := by simp [iup]
theorem iup_ne {g : Int → Int} {z x i : Int} (h : i ≠ z) : iup g z x i = g i := by simp [iup, h]
theorem iup_iup {g : Int → Int} {z x y : Int} : iup (iup g z x) z y = iup g z y := by funext i; by_cases h : i = z <;> simp [iup, h]
end
section
/-! the shapes of the objects, each at its own address b, its parts behind it -/
def PadS (S : Sh) (b : Nat) : Prop := S.2 b = some (oS 2 [some (some (b + 1)), none]) ∧ S.2 (b + 1) = some (aI 40)
theorem PadS.p {S : Sh} {b : Nat} (h : PadS S b) : S.2 b = some (oS 2 [some (some (b + 1)), none]) := h.1
theorem PadS.p_signs {S : Sh} {b : Nat} (h : PadS S b) : S.2 (b + 1) = some (aI 40) := h.2
def RelS (S : Sh) (b : Nat) : Prop := S.2 b = some (oS 4 [some (some (b + 1)), some (some (b + 2)), none, none]) ∧ S.2 (b + 1) = some (aI 6) ∧ S.2 (b + 2) = some (aI 64)
theorem RelS.p {S : Sh} {b : Nat} (h : RelS S b) : S.2 b = some (oS 4 [some (some (b + 1)), some (some (b + 2)), none, none]) := h.1
theorem RelS.p_noLess {S : Sh} {b : Nat} (h : RelS S b) : S.2 (b + 1) = some (aI 6) := h.2.1
theorem RelS.p_ways {S : Sh} {b : Nat} (h : RelS S b) : S.2 (b + 2) = some (aI 64) := h.2.2
def SpnS (S : Sh) (b : Nat) : Prop := S.2 b = some (oS 5 [some (some (b + 1)), some (some (b + 2)), none]) ∧ S.2 (b + 1) = some (aI 6) ∧ S.2 (b + 2) = some (aI 6)
theorem SpnS.p {S : Sh} {b : Nat} (h : SpnS S b) : S.2 b = some (oS 5 [some (some (b + 1)), some (some (b + 2)), none]) := h.1
theorem SpnS.p_low {S : Sh} {b : Nat} (h : SpnS S b) : S.2 (b + 1) = some (aI 6) := h.2.1
theorem SpnS.p_high {S : Sh} {b : Nat} (h : SpnS S b) : S.2 (b + 2) = some (aI 6) := h.2.2
def FalS (S : Sh) (b : Nat) : Prop := S.2 b = some (oS 1 [none, none, none])
theorem FalS.p {S : Sh} {b : Nat} (h : FalS S b) : S.2 b = some (oS 1 [none, none, none]) := h
def WlnS (S : Sh) (b : Nat) : Prop := S.2 b = some (oS 6 [some (some (b + 1)), none, none, none]) ∧ S.2 (b + 1) = some (aI 6)
theorem WlnS.p {S : Sh} {b : Nat} (h : WlnS S b) : S.2 b = some (oS 6 [some (some (b + 1)), none, none, none]) := h.1
theorem WlnS.p_line {S : Sh} {b : Nat} (h : WlnS S b) : S.2 (b + 1) = some (aI 6) := h.2
def BookS (S : Sh) (b : Nat) : Prop := S.2 b = some (oS 0 [some (some (b + 1)), some (some (b + 14)), some (some (b + 15)), some (some (b + 16)), some (some (b + 17)), some (some (b + 18)), none, none, none]) ∧ S.2 (b + 1) = some (aR 102 12 (fun i => if i < 12 then some (b + 2 + i) else none)) ∧ S.2 (b + 14) = some (aI 6) ∧ S.2 (b + 15) = some (aI 6) ∧ S.2 (b + 16) = some (aI 6) ∧ S.2 (b + 17) = some (aI 6) ∧ S.2 (b + 18) = some (aI 6) ∧ ∀ i : Nat, i < 12 → S.2 (b + 2 + i) = some (aI 5)
theorem BookS.p {S : Sh} {b : Nat} (h : BookS S b) : S.2 b = some (oS 0 [some (some (b + 1)), some (some (b + 14)), some (some (b + 15)), some (some (b + 16)), some (some (b + 17)), some (some (b + 18)), none, none, none]) := h.1
theorem BookS.p_sayings {S : Sh} {b : Nat} (h : BookS S b) : S.2 (b + 1) = some (aR 102 12 (fun i => if i < 12 then some (b + 2 + i) else none)) := h.2.1
theorem BookS.p_lifts {S : Sh} {b : Nat} (h : BookS S b) : S.2 (b + 14) = some (aI 6) := h.2.2.1
theorem BookS.p_least {S : Sh} {b : Nat} (h : BookS S b) : S.2 (b + 15) = some (aI 6) := h.2.2.2.1
theorem BookS.p_greatest {S : Sh} {b : Nat} (h : BookS S b) : S.2 (b + 16) = some (aI 6) := h.2.2.2.2.1
theorem BookS.p_tolls {S : Sh} {b : Nat} (h : BookS S b) : S.2 (b + 17) = some (aI 6) := h.2.2.2.2.2.1
theorem BookS.p_weights {S : Sh} {b : Nat} (h : BookS S b) : S.2 (b + 18) = some (aI 6) := h.2.2.2.2.2.2.1
theorem BookS.p_row {S : Sh} {b : Nat} (h : BookS S b) : ∀ i : Nat, i < 12 → S.2 (b + 2 + i) = some (aI 5) := h.2.2.2.2.2.2.2
def ModS (S : Sh) (b : Nat) : Prop := S.2 b = some (oS 8 [none, none, some (some (b + 1)), none, some (some (b + 2)), some (some (b + 3)), some (some (b + 4)), some (some (b + 5)), some (some (b + 6)), none, some (some (b + 7)), some (some (b + 8)), some (some (b + 9)), none, some (some (b + 10)), some (some (b + 11)), some (some (b + 12)), none, some (some (b + 13)), some (some (b + 14)), some (some (b + 15)), some (some (b + 16)), some (some (b + 17)), some (some (b + 18)), some (some (b + 19)), some (some (b + 20)), some (some (b + 21))]) ∧ S.2 (b + 1) = some (aI 40) ∧ S.2 (b + 2) = some (aI 60) ∧ S.2 (b + 3) = some (aI 6) ∧ S.2 (b + 4) = some (aI 6) ∧ S.2 (b + 5) = some (aI 6) ∧ S.2 (b + 6) = some (aI 6) ∧ S.2 (b + 7) = some (aI 6) ∧ S.2 (b + 8) = some (aZ 36) ∧ S.2 (b + 9) = some (aZ 36) ∧ S.2 (b + 10) = some (aI 6) ∧ S.2 (b + 11) = some (aI 6) ∧ S.2 (b + 12) = some (aI 64) ∧ S.2 (b + 13) = some (aI 26000) ∧ S.2 (b + 14) = some (aI 26000) ∧ S.2 (b + 15) = some (aI 26000) ∧ S.2 (b + 16) = some (aI 65536) ∧ S.2 (b + 17) = some (aI 6) ∧ S.2 (b + 18) = some (aI 6) ∧ S.2 (b + 19) = some (aI 6) ∧ S.2 (b + 20) = some (aI 186) ∧ S.2 (b + 21) = some (aZ 2)
theorem ModS.p {S : Sh} {b : Nat} (h : ModS S b) : S.2 b = some (oS 8 [none, none, some (some (b + 1)), none, some (some (b + 2)), some (some (b + 3)), some (some (b + 4)), some (some (b + 5)), some (some (b + 6)), none, some (some (b + 7)), some (some (b + 8)), some (some (b + 9)), none, some (some (b + 10)), some (some (b + 11)), some (some (b + 12)), none, some (some (b + 13)), some (some (b + 14)), some (some (b + 15)), some (some (b + 16)), some (some (b + 17)), some (some (b + 18)), some (some (b + 19)), some (some (b + 20)), some (some (b + 21))]) := h.1
theorem ModS.p_pad {S : Sh} {b : Nat} (h : ModS S b) : S.2 (b + 1) = some (aI 40) := h.2.1
theorem ModS.p_book {S : Sh} {b : Nat} (h : ModS S b) : S.2 (b + 2) = some (aI 60) := h.2.2.1
theorem ModS.p_lifts {S : Sh} {b : Nat} (h : ModS S b) : S.2 (b + 3) = some (aI 6) := h.2.2.2.1
theorem ModS.p_tolls {S : Sh} {b : Nat} (h : ModS S b) : S.2 (b + 4) = some (aI 6) := h.2.2.2.2.1
theorem ModS.p_low {S : Sh} {b : Nat} (h : ModS S b) : S.2 (b + 5) = some (aI 6) := h.2.2.2.2.2.1
theorem ModS.p_high {S : Sh} {b : Nat} (h : ModS S b) : S.2 (b + 6) = some (aI 6) := h.2.2.2.2.2.2.1
theorem ModS.p_weights {S : Sh} {b : Nat} (h : ModS S b) : S.2 (b + 7) = some (aI 6) := h.2.2.2.2.2.2.2.1
theorem ModS.p_over {S : Sh} {b : Nat} (h : ModS S b) : S.2 (b + 8) = some (aZ 36) := h.2.2.2.2.2.2.2.2.1
theorem ModS.p_same {S : Sh} {b : Nat} (h : ModS S b) : S.2 (b + 9) = some (aZ 36) := h.2.2.2.2.2.2.2.2.2.1
theorem ModS.p_group {S : Sh} {b : Nat} (h : ModS S b) : S.2 (b + 10) = some (aI 6) := h.2.2.2.2.2.2.2.2.2.2.1
theorem ModS.p_groupOf {S : Sh} {b : Nat} (h : ModS S b) : S.2 (b + 11) = some (aI 6) := h.2.2.2.2.2.2.2.2.2.2.2.1
theorem ModS.p_ways {S : Sh} {b : Nat} (h : ModS S b) : S.2 (b + 12) = some (aI 64) := h.2.2.2.2.2.2.2.2.2.2.2.2.1
theorem ModS.p_known {S : Sh} {b : Nat} (h : ModS S b) : S.2 (b + 13) = some (aI 26000) := h.2.2.2.2.2.2.2.2.2.2.2.2.2.1
theorem ModS.p_lying {S : Sh} {b : Nat} (h : ModS S b) : S.2 (b + 14) = some (aI 26000) := h.2.2.2.2.2.2.2.2.2.2.2.2.2.2.1
theorem ModS.p_value {S : Sh} {b : Nat} (h : ModS S b) : S.2 (b + 15) = some (aI 26000) := h.2.2.2.2.2.2.2.2.2.2.2.2.2.2.2.1
theorem ModS.p_table {S : Sh} {b : Nat} (h : ModS S b) : S.2 (b + 16) = some (aI 65536) := h.2.2.2.2.2.2.2.2.2.2.2.2.2.2.2.2.1
theorem ModS.p_least {S : Sh} {b : Nat} (h : ModS S b) : S.2 (b + 17) = some (aI 6) := h.2.2.2.2.2.2.2.2.2.2.2.2.2.2.2.2.2.1
theorem ModS.p_greatest {S : Sh} {b : Nat} (h : ModS S b) : S.2 (b + 18) = some (aI 6) := h.2.2.2.2.2.2.2.2.2.2.2.2.2.2.2.2.2.2.1
theorem ModS.p_order {S : Sh} {b : Nat} (h : ModS S b) : S.2 (b + 19) = some (aI 6) := h.2.2.2.2.2.2.2.2.2.2.2.2.2.2.2.2.2.2.2.1
theorem ModS.p_image {S : Sh} {b : Nat} (h : ModS S b) : S.2 (b + 20) = some (aI 186) := h.2.2.2.2.2.2.2.2.2.2.2.2.2.2.2.2.2.2.2.2.1
theorem ModS.p_isKept {S : Sh} {b : Nat} (h : ModS S b) : S.2 (b + 21) = some (aZ 2) := h.2.2.2.2.2.2.2.2.2.2.2.2.2.2.2.2.2.2.2.2.2
def PlnS (S : Sh) (b N : Nat) : Prop := S.2 b = some (oS 3 [none, none, some (some (b + 1))]) ∧ S.2 (b + 1) = some (aI N)
theorem PlnS.p {S : Sh} {b N : Nat} (h : PlnS S b N) : S.2 b = some (oS 3 [none, none, some (some (b + 1))]) := h.1
theorem PlnS.p_found {S : Sh} {b N : Nat} (h : PlnS S b N) : S.2 (b + 1) = some (aI N) := h.2
def LsS (S : Sh) (b : Nat) (im pl : Nat → Option Nat) : Prop := S.2 b = some (oS 7 [some (some (b + 1)), some (some (b + 3)), some (some (b + 22)), some (some (b + 23)), some (some (b + 26)), some (some (b + 29)), some (some (b + 30)), some (some (b + 32))]) ∧ PadS S (b + 1) ∧ BookS S (b + 3) ∧ S.2 (b + 22) = some (aR 103 2 im) ∧ RelS S (b + 23) ∧ SpnS S (b + 26) ∧ FalS S (b + 29) ∧ WlnS S (b + 30) ∧ S.2 (b + 32) = some (aR 104 6 pl)
theorem LsS.p {S : Sh} {b : Nat} {im pl : Nat → Option Nat} (h : LsS S b im pl) : S.2 b = some (oS 7 [some (some (b + 1)), some (some (b + 3)), some (some (b + 22)), some (some (b + 23)), some (some (b + 26)), some (some (b + 29)), some (some (b + 30)), some (some (b + 32))]) := h.1
theorem LsS.pad {S : Sh} {b : Nat} {im pl : Nat → Option Nat} (h : LsS S b im pl) : PadS S (b + 1) := h.2.1
theorem LsS.book {S : Sh} {b : Nat} {im pl : Nat → Option Nat} (h : LsS S b im pl) : BookS S (b + 3) := h.2.2.1
theorem LsS.images {S : Sh} {b : Nat} {im pl : Nat → Option Nat} (h : LsS S b im pl) : S.2 (b + 22) = some (aR 103 2 im) := h.2.2.2.1
theorem LsS.relation {S : Sh} {b : Nat} {im pl : Nat → Option Nat} (h : LsS S b im pl) : RelS S (b + 23) := h.2.2.2.2.1
theorem LsS.spans {S : Sh} {b : Nat} {im pl : Nat → Option Nat} (h : LsS S b im pl) : SpnS S (b + 26) := h.2.2.2.2.2.1
theorem LsS.falseSayings {S : Sh} {b : Nat} {im pl : Nat → Option Nat} (h : LsS S b im pl) : FalS S (b + 29) := h.2.2.2.2.2.2.1
theorem LsS.weighedLine {S : Sh} {b : Nat} {im pl : Nat → Option Nat} (h : LsS S b im pl) : WlnS S (b + 30) := h.2.2.2.2.2.2.2.1
theorem LsS.planners {S : Sh} {b : Nat} {im pl : Nat → Option Nat} (h : LsS S b im pl) : S.2 (b + 32) = some (aR 104 6 pl) := h.2.2.2.2.2.2.2.2
end
section
/-! the pad of the class -/
section PAD
variable {l : Launch} {G : Glb} {S : Sh} {μ : Mu} {b : Nat}
set_option maxHeartbeats 4000000 in
set_option maxRecDepth 100000 in
theorem c_X2_put {s : Int} (hP : PadS S b) (h : 0 ≤ μ b 1 ∧ μ b 1 < 40) : Ct l G cX2_put (yX2_put, 2, none, 0, 0, 0) [.ref b, vi s] S μ (Rv S (upd2 (upd2 μ (b + 1) (μ b 1) s) b 1 (μ b 1 + 1))) := by
  refine Ct.of (by decide) rfl (by simp [vi, Value.category]) (Nat.le_of_ble_eq_true rfl) ?_
  refine v_aload_n aX2_put_0 rfl ?_
  refine v_gi 1 rfl aX2_put_1 fX2_15 hP.p rfl rfl ?_
  refine v_bipush (by decide) aX2_put_4 ?_
  refine v_icmp_ge 29 rfl aX2_put_6 (by omega) (by omega) (fun c6 => ?_) (fun c6 => ?_)
  · exact absurd c6 (by omega)
  · --
    refine v_aload_n aX2_put_9 rfl ?_
    refine v_getr aX2_put_10 fX2_9 hP.p rfl rfl ?_
    refine v_aload_n aX2_put_13 rfl ?_
    refine v_gi 1 rfl aX2_put_14 fX2_15 hP.p rfl rfl ?_
    refine v_iload_n aX2_put_17 rfl ?_
    refine v_iast aX2_put_18 hP.p_signs (by omega) (by decide) ?_
    refine v_aload_n aX2_put_19 rfl ?_
    refine v_dup rfl aX2_put_20 ?_
    refine v_gi 1 rfl aX2_put_21 fX2_15 hP.p rfl rfl ?_
    rw [upd2_row (by omega)]
    refine v_iconst aX2_put_24 ?_
    refine v_iadd aX2_put_25 ?_
    refine v_pi 1 rfl aX2_put_26 fX2_15 nf2_1 ok2_1 hP.p rfl rfl ?_
    refine v_return aX2_put_29 rfl ⟨Nat.le_refl _, Nat.le_refl _⟩ ?_
    exact ⟨rfl, rfl, rfl⟩
set_option maxHeartbeats 4000000 in
set_option maxRecDepth 100000 in
theorem c_X2_clear (hP : PadS S b) : Ct l G cX2_clear (yX2_clear, 1, none, 0, 0, 0) [.ref b] S μ (Rv S (upd2 μ b 1 0)) := by
  refine Ct.of (by decide) rfl (by simp [vi, Value.category]) (Nat.le_of_ble_eq_true rfl) ?_
  refine v_aload_n aX2_clear_0 rfl ?_
  refine v_iconst aX2_clear_1 ?_
  refine v_pi 1 rfl aX2_clear_2 fX2_15 nf2_1 ok2_1 hP.p rfl rfl ?_
  refine v_return aX2_clear_5 rfl ⟨Nat.le_refl _, Nat.le_refl _⟩ ?_
  exact ⟨rfl, rfl, rfl⟩
set_option maxHeartbeats 4000000 in
set_option maxRecDepth 100000 in
theorem c_X2_sackAt {p : Int} (hP : PadS S b) (h : 0 ≤ p ∧ p < 40) : Ct l G cX2_sackAt (yX2_sackAt, 2, (some FieldType.int), 0, 0, 0) [.ref b, vi p] S μ (Ri S (μ (b + 1) p - 97) μ) := by
  refine Ct.of (by decide) rfl (by simp [vi, Value.category]) (Nat.le_of_ble_eq_true rfl) ?_
  refine v_aload_n aX2_sackAt_0 rfl ?_
  refine v_getr aX2_sackAt_1 fX2_9 hP.p rfl rfl ?_
  refine v_iload_n aX2_sackAt_4 rfl ?_
  refine v_iald aX2_sackAt_5 hP.p_signs (by omega) (by decide) ?_
  refine v_bipush (by decide) aX2_sackAt_6 ?_
  refine v_isub aX2_sackAt_8 ?_
  refine v_ireturn aX2_sackAt_9 rfl ⟨Nat.le_refl _, Nat.le_refl _⟩ ?_
  exact ⟨rfl, rfl, rfl⟩
def how (s : Int) : Int := if s = 61 then 0 else if s = 43 then 1 else 2
set_option maxHeartbeats 4000000 in
set_option maxRecDepth 100000 in
theorem c_X2_howAt {p : Int} (hP : PadS S b) (h : 0 ≤ p ∧ p < 40) (hg : -2147483648 ≤ μ (b + 1) p ∧ μ (b + 1) p < 2147483648) : Ct l G cX2_howAt (yX2_howAt, 3, (some FieldType.int), 0, 0, 0) [.ref b, vi p] S μ (Ri S (how (μ (b + 1) p)) μ) := by
  refine Ct.of (by decide) rfl (by simp [vi, Value.category]) (Nat.le_of_ble_eq_true rfl) ?_
  refine v_aload_n aX2_howAt_0 rfl ?_
  refine v_getr aX2_howAt_1 fX2_9 hP.p rfl rfl ?_
  refine v_iload_n aX2_howAt_4 rfl ?_
  refine v_iald aX2_howAt_5 hP.p_signs (by omega) (by decide) ?_
  refine v_istore_n aX2_howAt_6 (by decide) rfl ?_
  refine v_iload_n aX2_howAt_7 rfl ?_
  refine v_bipush (by decide) aX2_howAt_8 ?_
  refine v_icmp_ne 15 rfl aX2_howAt_10 (by omega) (by omega) (fun c10 => ?_) (fun c10 => ?_)
  · --
    refine v_iload_n aX2_howAt_15 rfl ?_
    refine v_bipush (by decide) aX2_howAt_16 ?_
    refine v_icmp_ne 25 rfl aX2_howAt_18 (by omega) (by omega) (fun c18 => ?_) (fun c18 => ?_)
    · --
      refine v_iconst aX2_howAt_25 ?_
      refine v_ireturn aX2_howAt_26 rfl ⟨Nat.le_refl _, Nat.le_refl _⟩ ?_
      exact ⟨by simp_all [how], rfl, rfl⟩
    · --
      refine v_iconst aX2_howAt_21 ?_
      refine v_goto 26 rfl aX2_howAt_22 ?_
      refine v_ireturn aX2_howAt_26 rfl ⟨Nat.le_refl _, Nat.le_refl _⟩ ?_
      exact ⟨by simp_all [how], rfl, rfl⟩
  · --
    refine v_iconst aX2_howAt_13 ?_
    refine v_ireturn aX2_howAt_14 rfl ⟨Nat.le_refl _, Nat.le_refl _⟩ ?_
    exact ⟨by simp_all [how], rfl, rfl⟩
/-- the sign at place p may stand there -/
def mayS (g : Int → Int) (sc p : Int) : Prop := if p % 2 = 1 then g p = 43 ∨ g p = 45 ∨ g p = 61 else 97 ≤ g p ∧ g p < 97 + sc ∧ (p < 2 ∨ g (p - 2) ≠ g p)
set_option maxHeartbeats 4000000 in
set_option maxRecDepth 100000 in
theorem c_X2_mayStand {p sc : Int} (hP : PadS S b) (h : 0 ≤ p ∧ p < 40) (hs : 0 ≤ sc ∧ sc ≤ 6) (hg : ∀ i : Int, 0 ≤ i → i < 40 → -1000 ≤ μ (b + 1) i ∧ μ (b + 1) i ≤ 1000) : Ct l G cX2_mayStand (yX2_mayStand, 4, (some FieldType.boolean), 0, 0, 0) [.ref b, vi p, vi sc] S μ (Ri S (b2i (mayS (μ (b + 1)) sc p)) μ) := by
  have hp := hg p h.1 h.2
  refine Ct.of (by decide) rfl (by simp [vi, Value.category]) (Nat.le_of_ble_eq_true rfl) ?_
  refine v_aload_n aX2_mayStand_0 rfl ?_
  refine v_getr aX2_mayStand_1 fX2_9 hP.p rfl rfl ?_
  refine v_iload_n aX2_mayStand_4 rfl ?_
  refine v_iald aX2_mayStand_5 hP.p_signs (by omega) (by decide) ?_
  refine v_istore_n aX2_mayStand_6 (by decide) rfl ?_
  refine v_iload_n aX2_mayStand_7 rfl ?_
  refine v_iconst aX2_mayStand_8 ?_
  refine v_irem (by omega) (by omega) aX2_mayStand_9 ?_
  refine v_iconst aX2_mayStand_10 ?_
  refine v_icmp_ne 38 rfl aX2_mayStand_11 (by omega) (by omega) (fun c11 => ?_) (fun c11 => ?_)
  · --
    refine v_iload_n aX2_mayStand_38 rfl ?_
    refine v_bipush (by decide) aX2_mayStand_39 ?_
    refine v_icmp_lt 52 rfl aX2_mayStand_41 (by omega) (by omega) (fun c41 => ?_) (fun c41 => ?_)
    · --
      refine v_iconst aX2_mayStand_52 ?_
      refine v_zreturn aX2_mayStand_53 rfl ⟨Nat.le_refl _, Nat.le_refl _⟩ (by first | exact Or.inl rfl | exact Or.inr rfl | exact b2i_01 | omega) ?_
      first
        | exact ⟨by rw [b2i_t (by unfold mayS; first | (rw [if_pos (by omega)]; omega) | (rw [if_neg (by omega)]; omega))], rfl, rfl⟩
        | exact ⟨by rw [b2i_f (by unfold mayS; first | (rw [if_pos (by omega)]; omega) | (rw [if_neg (by omega)]; omega))], rfl, rfl⟩
    · --
      refine v_iload_n aX2_mayStand_44 rfl ?_
      refine v_bipush (by decide) aX2_mayStand_45 ?_
      refine v_iload_n aX2_mayStand_47 rfl ?_
      refine v_iadd aX2_mayStand_48 ?_
      refine v_icmp_lt 54 rfl aX2_mayStand_49 (by omega) (by omega) (fun c49 => ?_) (fun c49 => ?_)
      · --
        refine v_iload_n aX2_mayStand_54 rfl ?_
        refine v_iconst aX2_mayStand_55 ?_
        refine v_icmp_lt 71 rfl aX2_mayStand_56 (by omega) (by omega) (fun c56 => ?_) (fun c56 => ?_)
        · --
          refine v_iconst aX2_mayStand_71 ?_
          refine v_goto 76 rfl aX2_mayStand_72 ?_
          refine v_zreturn aX2_mayStand_76 rfl ⟨Nat.le_refl _, Nat.le_refl _⟩ (by first | exact Or.inl rfl | exact Or.inr rfl | exact b2i_01 | omega) ?_
          first
            | exact ⟨by rw [b2i_t (by unfold mayS; first | (rw [if_pos (by omega)]; omega) | (rw [if_neg (by omega)]; omega))], rfl, rfl⟩
            | exact ⟨by rw [b2i_f (by unfold mayS; first | (rw [if_pos (by omega)]; omega) | (rw [if_neg (by omega)]; omega))], rfl, rfl⟩
        · --
          refine v_aload_n aX2_mayStand_59 rfl ?_
          refine v_getr aX2_mayStand_60 fX2_9 hP.p rfl rfl ?_
          refine v_iload_n aX2_mayStand_63 rfl ?_
          refine v_iconst aX2_mayStand_64 ?_
          refine v_isub aX2_mayStand_65 ?_
          refine v_iald aX2_mayStand_66 hP.p_signs (by omega) (by decide) ?_
          refine v_iload_n aX2_mayStand_67 rfl ?_
          have hq := hg (p - 2) (by omega) (by omega)
          refine v_icmp_eq 75 rfl aX2_mayStand_68 (by omega) (by omega) (fun c68 => ?_) (fun c68 => ?_)
          · --
            refine v_iconst aX2_mayStand_75 ?_
            refine v_zreturn aX2_mayStand_76 rfl ⟨Nat.le_refl _, Nat.le_refl _⟩ (by first | exact Or.inl rfl | exact Or.inr rfl | exact b2i_01 | omega) ?_
            first
              | exact ⟨by rw [b2i_t (by unfold mayS; first | (rw [if_pos (by omega)]; omega) | (rw [if_neg (by omega)]; omega))], rfl, rfl⟩
              | exact ⟨by rw [b2i_f (by unfold mayS; first | (rw [if_pos (by omega)]; omega) | (rw [if_neg (by omega)]; omega))], rfl, rfl⟩
          · --
            refine v_iconst aX2_mayStand_71 ?_
            refine v_goto 76 rfl aX2_mayStand_72 ?_
            refine v_zreturn aX2_mayStand_76 rfl ⟨Nat.le_refl _, Nat.le_refl _⟩ (by first | exact Or.inl rfl | exact Or.inr rfl | exact b2i_01 | omega) ?_
            first
              | exact ⟨by rw [b2i_t (by unfold mayS; first | (rw [if_pos (by omega)]; omega) | (rw [if_neg (by omega)]; omega))], rfl, rfl⟩
              | exact ⟨by rw [b2i_f (by unfold mayS; first | (rw [if_pos (by omega)]; omega) | (rw [if_neg (by omega)]; omega))], rfl, rfl⟩
      · --
        refine v_iconst aX2_mayStand_52 ?_
        refine v_zreturn aX2_mayStand_53 rfl ⟨Nat.le_refl _, Nat.le_refl _⟩ (by first | exact Or.inl rfl | exact Or.inr rfl | exact b2i_01 | omega) ?_
        first
          | exact ⟨by rw [b2i_t (by unfold mayS; first | (rw [if_pos (by omega)]; omega) | (rw [if_neg (by omega)]; omega))], rfl, rfl⟩
          | exact ⟨by rw [b2i_f (by unfold mayS; first | (rw [if_pos (by omega)]; omega) | (rw [if_neg (by omega)]; omega))], rfl, rfl⟩
  · --
    refine v_iload_n aX2_mayStand_14 rfl ?_
    refine v_bipush (by decide) aX2_mayStand_15 ?_
    refine v_icmp_eq 32 rfl aX2_mayStand_17 (by omega) (by omega) (fun c17 => ?_) (fun c17 => ?_)
    · --
      refine v_iconst aX2_mayStand_32 ?_
      refine v_goto 37 rfl aX2_mayStand_33 ?_
      refine v_zreturn aX2_mayStand_37 rfl ⟨Nat.le_refl _, Nat.le_refl _⟩ (by first | exact Or.inl rfl | exact Or.inr rfl | exact b2i_01 | omega) ?_
      first
        | exact ⟨by rw [b2i_t (by unfold mayS; first | (rw [if_pos (by omega)]; omega) | (rw [if_neg (by omega)]; omega))], rfl, rfl⟩
        | exact ⟨by rw [b2i_f (by unfold mayS; first | (rw [if_pos (by omega)]; omega) | (rw [if_neg (by omega)]; omega))], rfl, rfl⟩
    · --
      refine v_iload_n aX2_mayStand_20 rfl ?_
      refine v_bipush (by decide) aX2_mayStand_21 ?_
      refine v_icmp_eq 32 rfl aX2_mayStand_23 (by omega) (by omega) (fun c23 => ?_) (fun c23 => ?_)
      · --
        refine v_iconst aX2_mayStand_32 ?_
        refine v_goto 37 rfl aX2_mayStand_33 ?_
        refine v_zreturn aX2_mayStand_37 rfl ⟨Nat.le_refl _, Nat.le_refl _⟩ (by first | exact Or.inl rfl | exact Or.inr rfl | exact b2i_01 | omega) ?_
        first
          | exact ⟨by rw [b2i_t (by unfold mayS; first | (rw [if_pos (by omega)]; omega) | (rw [if_neg (by omega)]; omega))], rfl, rfl⟩
          | exact ⟨by rw [b2i_f (by unfold mayS; first | (rw [if_pos (by omega)]; omega) | (rw [if_neg (by omega)]; omega))], rfl, rfl⟩
      · --
        refine v_iload_n aX2_mayStand_26 rfl ?_
        refine v_bipush (by decide) aX2_mayStand_27 ?_
        refine v_icmp_ne 36 rfl aX2_mayStand_29 (by omega) (by omega) (fun c29 => ?_) (fun c29 => ?_)
        · --
          refine v_iconst aX2_mayStand_36 ?_
          refine v_zreturn aX2_mayStand_37 rfl ⟨Nat.le_refl _, Nat.le_refl _⟩ (by first | exact Or.inl rfl | exact Or.inr rfl | exact b2i_01 | omega) ?_
          first
            | exact ⟨by rw [b2i_t (by unfold mayS; first | (rw [if_pos (by omega)]; omega) | (rw [if_neg (by omega)]; omega))], rfl, rfl⟩
            | exact ⟨by rw [b2i_f (by unfold mayS; first | (rw [if_pos (by omega)]; omega) | (rw [if_neg (by omega)]; omega))], rfl, rfl⟩
        · --
          refine v_iconst aX2_mayStand_32 ?_
          refine v_goto 37 rfl aX2_mayStand_33 ?_
          refine v_zreturn aX2_mayStand_37 rfl ⟨Nat.le_refl _, Nat.le_refl _⟩ (by first | exact Or.inl rfl | exact Or.inr rfl | exact b2i_01 | omega) ?_
          first
            | exact ⟨by rw [b2i_t (by unfold mayS; first | (rw [if_pos (by omega)]; omega) | (rw [if_neg (by omega)]; omega))], rfl, rfl⟩
            | exact ⟨by rw [b2i_f (by unfold mayS; first | (rw [if_pos (by omega)]; omega) | (rw [if_neg (by omega)]; omega))], rfl, rfl⟩
/-- the first fault from place p on, of n signs -/
noncomputable def ffd (g : Int → Int) (sc n : Int) : Nat → Int → Int
  | 0, _ => -6
  | m + 1, p => if p < n then @ite Int (mayS g sc p) (Classical.propDecidable _) (ffd g sc n m (p + 1)) p else if n % 2 = 1 then -6 else n
set_option maxHeartbeats 4000000 in
set_option maxRecDepth 100000 in
theorem l_X2_firstFault {sc : Int} {P : Pst} (hP : PadS S b) (hn : 0 ≤ μ b 1 ∧ μ b 1 ≤ 40) (hs : 0 ≤ sc ∧ sc ≤ 6) (hg : ∀ i : Int, 0 ≤ i → i < 40 → -1000 ≤ μ (b + 1) i ∧ μ (b + 1) i ≤ 1000) : ∀ (m : Nat) (p : Int), (0 ≤ p ∧ p ≤ μ b 1) → μ b 1 - p < m → (P (some (vi (ffd (μ (b + 1)) sc (μ b 1) m p))) S μ) → V l G cX2_firstFault (yX2_firstFault, 3, (some FieldType.int), 1, 0, 0) P (0, 0) S μ 2 [.ref b, vi sc, vi p] [] := by
  intro m
  induction m with
  | zero => intro p h0 h1 hh; omega
  | succ m ih =>
    intro p h0 h1 hh
    unfold ffd at hh
    refine v_iload_n aX2_firstFault_2 rfl ?_
    refine v_aload_n aX2_firstFault_3 rfl ?_
    refine v_gi 1 rfl aX2_firstFault_4 fX2_15 hP.p rfl rfl ?_
    refine v_icmp_ge 27 rfl aX2_firstFault_7 (by omega) (by omega) (fun c7 => ?_) (fun c7 => ?_)
    · --
      refine v_aload_n aX2_firstFault_27 rfl ?_
      refine v_gi 1 rfl aX2_firstFault_28 fX2_15 hP.p rfl rfl ?_
      refine v_iconst aX2_firstFault_31 ?_
      refine v_irem (by omega) (by omega) aX2_firstFault_32 ?_
      refine v_iconst aX2_firstFault_33 ?_
      refine v_icmp_ne 42 rfl aX2_firstFault_34 (by omega) (by omega) (fun c34 => ?_) (fun c34 => ?_)
      · --
        refine v_aload_n aX2_firstFault_42 rfl ?_
        refine v_gi 1 rfl aX2_firstFault_43 fX2_15 hP.p rfl rfl ?_
        refine v_ireturn aX2_firstFault_46 rfl ⟨Nat.le_refl _, Nat.le_refl _⟩ ?_
        rw [if_neg (by omega)] at hh
        first
          | (rw [if_pos (by omega)] at hh; exact hh)
          | (rw [if_neg (by omega)] at hh; exact hh)
      · --
        refine v_bipush (by decide) aX2_firstFault_37 ?_
        refine v_goto 46 rfl aX2_firstFault_39 ?_
        refine v_ireturn aX2_firstFault_46 rfl ⟨Nat.le_refl _, Nat.le_refl _⟩ ?_
        rw [if_neg (by omega)] at hh
        first
          | (rw [if_pos (by omega)] at hh; exact hh)
          | (rw [if_neg (by omega)] at hh; exact hh)
    · --
      refine v_aload_n aX2_firstFault_10 rfl ?_
      refine v_iload_n aX2_firstFault_11 rfl ?_
      refine v_iload_n aX2_firstFault_12 rfl ?_
      refine v_cVi (c_X2_mayStand hP (by omega) hs hg) aX2_firstFault_13 mX2_mayStand vX2_mayStand lX2_19 hP.p rfl rfl rfl rfl rfl (Nat.le_of_ble_eq_true rfl) ⟨Nat.le_of_ble_eq_true rfl, Nat.le_of_ble_eq_true rfl⟩ (Nat.le_of_ble_eq_true rfl) ?_
      refine v_if_ne_b 21 rfl aX2_firstFault_16 (fun c16 => ?_) (fun c16 => ?_)
      · --
        refine v_iinc aX2_firstFault_21 rfl (by decide) rfl ?_
        refine v_goto 2 rfl aX2_firstFault_24 ?_
        exact ih (p + 1) (by omega) (by omega) (by rw [if_pos (by omega), if_pos c16] at hh; exact hh)
      · --
        refine v_iload_n aX2_firstFault_19 rfl ?_
        refine v_ireturn aX2_firstFault_20 rfl ⟨Nat.le_refl _, Nat.le_refl _⟩ ?_
        rw [if_pos (by omega), if_neg c16] at hh; exact hh
set_option maxHeartbeats 4000000 in
set_option maxRecDepth 100000 in
theorem c_X2_firstFault {sc : Int} (hP : PadS S b) (hn : 0 ≤ μ b 1 ∧ μ b 1 ≤ 40) (hs : 0 ≤ sc ∧ sc ≤ 6) (hg : ∀ i : Int, 0 ≤ i → i < 40 → -1000 ≤ μ (b + 1) i ∧ μ (b + 1) i ≤ 1000) : Ct l G cX2_firstFault (yX2_firstFault, 3, (some FieldType.int), 1, 0, 0) [.ref b, vi sc] S μ (Ri S (ffd (μ (b + 1)) sc (μ b 1) 41 0) μ) := by
  refine Ct.of (by decide) rfl (by simp [vi, Value.category]) (Nat.le_of_ble_eq_true rfl) ?_
  refine v_iconst aX2_firstFault_0 ?_
  refine v_istore_n aX2_firstFault_1 (by decide) rfl ?_
  exact l_X2_firstFault hP hn hs hg 41 0 (by omega) (by omega) ⟨rfl, rfl, rfl⟩
end PAD
end
section
/-! the methods of the JDK that are called (bitCount elsewhere) -/
section JDK
variable {l : Launch} {G : Glb} {S : Sh} {μ : Mu}
def cmp3 (a b : Int) : Int := if a < b then -1 else if a = b then 0 else 1
set_option maxHeartbeats 4000000 in
set_option maxRecDepth 100000 in
theorem c_J6_compare_7cf53 {a b : Int} (ha : -2147483648 ≤ a ∧ a < 2147483648) (hb : -2147483648 ≤ b ∧ b < 2147483648) : Ct l G cJ6_compare_7cf53 (yJ6_compare_7cf53, 2, (some FieldType.int), 0, 0, 0) [vi a, vi b] S μ (Ri S (cmp3 a b) μ) := by
  refine Ct.of (by decide) rfl (by simp [vi, Value.category]) (Nat.le_of_ble_eq_true rfl) ?_
  refine v_iload_n aJ6_compare_7cf53_0 rfl ?_
  refine v_iload_n aJ6_compare_7cf53_1 rfl ?_
  refine v_icmp_ge 9 rfl aJ6_compare_7cf53_2 (by omega) (by omega) (fun c2 => ?_) (fun c2 => ?_)
  · --
    refine v_iload_n aJ6_compare_7cf53_9 rfl ?_
    refine v_iload_n aJ6_compare_7cf53_10 rfl ?_
    refine v_icmp_ne 18 rfl aJ6_compare_7cf53_11 (by omega) (by omega) (fun c11 => ?_) (fun c11 => ?_)
    · --
      refine v_iconst aJ6_compare_7cf53_18 ?_
      refine v_ireturn aJ6_compare_7cf53_19 rfl ⟨Nat.le_refl _, Nat.le_refl _⟩ ?_
      exact ⟨congrArg (fun z => some (vi z)) (by unfold cmp3; split <;> (try split) <;> omega), rfl, rfl⟩
    · --
      refine v_iconst aJ6_compare_7cf53_14 ?_
      refine v_goto 19 rfl aJ6_compare_7cf53_15 ?_
      refine v_ireturn aJ6_compare_7cf53_19 rfl ⟨Nat.le_refl _, Nat.le_refl _⟩ ?_
      exact ⟨congrArg (fun z => some (vi z)) (by unfold cmp3; split <;> (try split) <;> omega), rfl, rfl⟩
  · --
    refine v_iconst aJ6_compare_7cf53_5 ?_
    refine v_goto 19 rfl aJ6_compare_7cf53_6 ?_
    refine v_ireturn aJ6_compare_7cf53_19 rfl ⟨Nat.le_refl _, Nat.le_refl _⟩ ?_
    exact ⟨congrArg (fun z => some (vi z)) (by unfold cmp3; split <;> (try split) <;> omega), rfl, rfl⟩
variable {cc : ByteArray} {F : Frm} {P : Pst} {k : Nat × Nat} {pc n idx : Nat} {L st : List Value}
theorem wc_min : Cond.code Lib.Math.min.name Lib.Math.min.code 2 (some .int) ∈ TBL := mJ9_min_7cf53.1
theorem ws_min : Cond.static Lib.Math.min.name ∈ TBL := sJ9_min_7cf53
theorem wi_min : Cond.initialized "java/lang/Math" ∈ TBL := mJ9_min_7cf53.2.1
theorem v_min {a b : Int} (ha : -2147483648 ≤ a ∧ a < 2147483648) (hb : -2147483648 ≤ b ∧ b < 2147483648) (hL : Cond.methodLink F.1.cls idx Lib.Math.min.name ∈ TBL) (hd : At cc pc (.invokestatic idx) 3 n) (hfr : 1 ≤ F.2.2.2.1) (hk : k.1 ≤ F.2.2.2.2.1 ∧ k.2 ≤ F.2.2.2.2.2) (hrs : (st.map fun v => v.category).sum ≤ 8) (h : V l G cc F P k S μ n L (vi (min a b) :: st)) : V l G cc F P k S μ pc L (vi b :: vi a :: st) := by
  obtain ⟨hd, rfl⟩ := hd
  intro p e s m args below meth c H locs ls X R hf hlc hl
  obtain ⟨hx, hb2, hml, -, hown, -, -, hts, hK, hZ, -⟩ := id X
  refine va_mmin hx hb2 (hml.trans hl.1.1.symm) hown (hts _ hL) (hts _ ws_min) (hts _ wi_min) (hts _ wc_min) hfr (by show _ + 13 ≤ 60 * F.2.2.2.1; omega) hk.1 hk.2 hd ?_
  have e2 : (if Int32.ofInt b < Int32.ofInt a then Int32.ofInt b else Int32.ofInt a : Int32) = Int32.ofInt (min a b) := by
    by_cases q : b < a
    · rw [if_pos ((i32_lt hb ha).mpr q)]
      exact congrArg Int32.ofInt (by omega)
    · rw [if_neg (fun z => q ((i32_lt hb ha).mp z))]
      exact congrArg Int32.ofInt (by omega)
  rw [e2]
  exact h p e s m args below meth c H locs ls X R hf hlc hl
theorem wc_max : Cond.code Lib.Math.max.name Lib.Math.max.code 2 (some .int) ∈ TBL := mJ9_max_7cf53.1
theorem ws_max : Cond.static Lib.Math.max.name ∈ TBL := sJ9_max_7cf53
theorem wi_max : Cond.initialized "java/lang/Math" ∈ TBL := mJ9_max_7cf53.2.1
theorem v_max {a b : Int} (ha : -2147483648 ≤ a ∧ a < 2147483648) (hb : -2147483648 ≤ b ∧ b < 2147483648) (hL : Cond.methodLink F.1.cls idx Lib.Math.max.name ∈ TBL) (hd : At cc pc (.invokestatic idx) 3 n) (hfr : 1 ≤ F.2.2.2.1) (hk : k.1 ≤ F.2.2.2.2.1 ∧ k.2 ≤ F.2.2.2.2.2) (hrs : (st.map fun v => v.category).sum ≤ 8) (h : V l G cc F P k S μ n L (vi (max a b) :: st)) : V l G cc F P k S μ pc L (vi b :: vi a :: st) := by
  obtain ⟨hd, rfl⟩ := hd
  intro p e s m args below meth c H locs ls X R hf hlc hl
  obtain ⟨hx, hb2, hml, -, hown, -, -, hts, hK, hZ, -⟩ := id X
  refine va_mmax hx hb2 (hml.trans hl.1.1.symm) hown (hts _ hL) (hts _ ws_max) (hts _ wi_max) (hts _ wc_max) hfr (by show _ + 13 ≤ 60 * F.2.2.2.1; omega) hk.1 hk.2 hd ?_
  have e2 : (if Int32.ofInt a < Int32.ofInt b then Int32.ofInt b else Int32.ofInt a : Int32) = Int32.ofInt (max a b) := by
    by_cases q : a < b
    · rw [if_pos ((i32_lt ha hb).mpr q)]
      exact congrArg Int32.ofInt (by omega)
    · rw [if_neg (fun z => q ((i32_lt ha hb).mp z))]
      exact congrArg Int32.ofInt (by omega)
  rw [e2]
  exact h p e s m args below meth c H locs ls X R hf hlc hl
end JDK
theorem lmX7_134 : Cond.methodLink RX7 134 Lib.Math.min.name ∈ TBL := tb_w 464 (by decide +kernel) (by decide +kernel)
theorem lmX7_139 : Cond.methodLink RX7 139 Lib.Math.max.name ∈ TBL := tb_w 467 (by decide +kernel) (by decide +kernel)
theorem lmX3_9 : Cond.methodLink RX3 9 Lib.Math.min.name ∈ TBL := tb_w 483 (by decide +kernel) (by decide +kernel)
theorem lmX3_15 : Cond.methodLink RX3 15 Lib.Math.max.name ∈ TBL := tb_w 484 (by decide +kernel) (by decide +kernel)
end
section
/-! the book of the class, and what it holds as one value: sacks, sayings, loss, the sayings in one row of sixty, lifts, least, greatest, tolls, weights -/
abbrev BSt : Type := Int × Int × Int × (Int → Int) × (Int → Int) × (Int → Int) × (Int → Int) × (Int → Int) × (Int → Int)
def Eq6 (f g : Int → Int) : Prop := ∀ i : Int, 0 ≤ i → i < 6 → f i = g i
theorem Eq6.rf {f : Int → Int} : Eq6 f f := fun _ _ _ => rfl
def BkAt (μ : Mu) (b : Nat) (t : BSt) : Prop := μ b 6 = t.1 ∧ μ b 7 = t.2.1 ∧ μ b 8 = t.2.2.1 ∧ (∀ i : Nat, i < 12 → ∀ j : Int, 0 ≤ j → j < 5 → μ (b + 2 + i) j = t.2.2.2.1 (5 * i + j)) ∧ Eq6 (μ (b + 14)) t.2.2.2.2.1 ∧ Eq6 (μ (b + 15)) t.2.2.2.2.2.1 ∧ Eq6 (μ (b + 16)) t.2.2.2.2.2.2.1 ∧ Eq6 (μ (b + 17)) t.2.2.2.2.2.2.2.1 ∧ Eq6 (μ (b + 18)) t.2.2.2.2.2.2.2.2
/-- nothing changed outside the n cells from b on -/
def Out (μ μ' : Mu) (b n : Nat) : Prop := ∀ q : Nat, (q < b ∨ b + n ≤ q) → μ' q = μ q
/-- the cells of a book stayed -/
theorem BkAt.kept {μ μ' : Mu} {b : Nat} {t : BSt} (h : BkAt μ b t) (e : ∀ q : Nat, b ≤ q → q < b + 19 → μ' q = μ q) : BkAt μ' b t := by
  obtain ⟨h1, h2, h3, h4, h5, h6, h7, h8, h9⟩ := h
  refine ⟨by rw [e b (by omega) (by omega)]; exact h1, by rw [e b (by omega) (by omega)]; exact h2, by rw [e b (by omega) (by omega)]; exact h3, fun i hi j h0 hj => by rw [e _ (by omega) (by omega)]; exact h4 i hi j h0 hj, ?_, ?_, ?_, ?_, ?_⟩ <;> rw [e _ (by omega) (by omega)] <;> assumption
/-- one saying more -/
def ladd (K L : Int → Int) (c s p h : Int) : Int → Int := fun z => if z = 5 * c then s else if z = 5 * c + 1 then p else if z = 5 * c + 2 then h else if z = 5 * c + 3 then L s else if z = 5 * c + 4 then L p else K z
abbrev LSt : Type := (Int → Int) × (Int → Int) × Int
def lstep (g : Int → Int) (p : Int) (t : LSt) : LSt := (ladd t.1 (iup t.2.1 (g p - 97) (t.2.1 (g p - 97) + 1)) t.2.2 (g p - 97) (g (p - 2) - 97) (how (g (p - 1))), iup t.2.1 (g p - 97) (t.2.1 (g p - 97) + 1), t.2.2 + 1)
/-- a line of n signs, from place p on -/
def lnd (g : Int → Int) (n : Int) : Nat → Int → LSt → LSt
  | 0, _, t => t
  | m + 1, p, t => if p < n then lnd g n m (p + 2) (lstep g p t) else t
section BOOK
variable {l : Launch} {G : Glb} {S : Sh} {μ : Mu} {b : Nat}
set_option maxHeartbeats 4000000 in
set_option maxRecDepth 100000 in
theorem c_X0_has {s : Int} (hB : BookS S b) (hs : (-2147483648 ≤ s ∧ s < 2147483648)) (hn : 0 ≤ μ b 6 ∧ μ b 6 ≤ 6) : Ct l G cX0_has (yX0_has, 2, (some FieldType.boolean), 0, 0, 0) [.ref b, vi s] S μ (Ri S (b2i (0 ≤ s ∧ s < μ b 6)) μ) := by
  refine Ct.of (by decide) rfl (by simp [vi, Value.category]) (Nat.le_of_ble_eq_true rfl) ?_
  refine v_iload_n aX0_has_0 rfl ?_
  refine v_if_lt 16 rfl aX0_has_1 (by omega) (fun c1 => ?_) (fun c1 => ?_)
  · --
    refine v_iconst aX0_has_16 ?_
    refine v_zreturn aX0_has_17 rfl ⟨Nat.le_refl _, Nat.le_refl _⟩ (by first | exact Or.inl rfl | exact Or.inr rfl | exact b2i_01 | omega) ?_
    first
      | exact ⟨by rw [b2i_t (by omega)], rfl, rfl⟩
      | exact ⟨by rw [b2i_f (by omega)], rfl, rfl⟩
  · --
    refine v_iload_n aX0_has_4 rfl ?_
    refine v_aload_n aX0_has_5 rfl ?_
    refine v_gi 6 rfl aX0_has_6 fX0_36 hB.p rfl rfl ?_
    refine v_icmp_ge 16 rfl aX0_has_9 (by omega) (by omega) (fun c9 => ?_) (fun c9 => ?_)
    · --
      refine v_iconst aX0_has_16 ?_
      refine v_zreturn aX0_has_17 rfl ⟨Nat.le_refl _, Nat.le_refl _⟩ (by first | exact Or.inl rfl | exact Or.inr rfl | exact b2i_01 | omega) ?_
      first
        | exact ⟨by rw [b2i_t (by omega)], rfl, rfl⟩
        | exact ⟨by rw [b2i_f (by omega)], rfl, rfl⟩
    · --
      refine v_iconst aX0_has_12 ?_
      refine v_goto 17 rfl aX0_has_13 ?_
      refine v_zreturn aX0_has_17 rfl ⟨Nat.le_refl _, Nat.le_refl _⟩ (by first | exact Or.inl rfl | exact Or.inr rfl | exact b2i_01 | omega) ?_
      first
        | exact ⟨by rw [b2i_t (by omega)], rfl, rfl⟩
        | exact ⟨by rw [b2i_f (by omega)], rfl, rfl⟩
set_option maxHeartbeats 4000000 in
set_option maxRecDepth 100000 in
theorem l_X0_beginWith {μ0 : Mu} {n : Int} {P : Pst} (hB : BookS S b) (hp : ∀ μ : Mu, (∀ q : Nat, q ≠ b + 14 → q ≠ b + 15 → q ≠ b + 16 → μ q = μ0 q) → (∀ j : Int, 0 ≤ j → j < 6 → μ (b + 14) j = 0 ∧ μ (b + 15) j = 0 ∧ μ (b + 16) j = 999) → P none S μ) : ∀ (m : Nat) (i : Int) (μ : Mu), (0 ≤ i ∧ i ≤ 6) → 6 - i < m → (∀ q : Nat, q ≠ b + 14 → q ≠ b + 15 → q ≠ b + 16 → μ q = μ0 q) → (∀ j : Int, 0 ≤ j → j < i → μ (b + 14) j = 0 ∧ μ (b + 15) j = 0 ∧ μ (b + 16) j = 999) → V l G cX0_beginWith (yX0_beginWith, 3, none, 0, 0, 0) P (0, 0) S μ 12 [.ref b, vi n, vi i] [] := by
  intro m
  induction m with
  | zero => intro i μ h0 h1; omega
  | succ m ih =>
    intro i μ h0 h1 hq hj
    refine v_iload_n aX0_beginWith_12 rfl ?_
    refine v_bipush (by decide) aX0_beginWith_13 ?_
    refine v_icmp_ge 47 rfl aX0_beginWith_15 (by omega) (by omega) (fun c15 => ?_) (fun c15 => ?_)
    · --
      refine v_return aX0_beginWith_47 rfl ⟨Nat.le_refl _, Nat.le_refl _⟩ ?_
      exact hp _ hq (fun j j0 j1 => hj j j0 (by omega))
    · --
      refine v_aload_n aX0_beginWith_18 rfl ?_
      refine v_getr aX0_beginWith_19 fX0_16 hB.p rfl rfl ?_
      refine v_iload_n aX0_beginWith_22 rfl ?_
      refine v_iconst aX0_beginWith_23 ?_
      refine v_iast aX0_beginWith_24 hB.p_lifts (by omega) (by decide) ?_
      refine v_aload_n aX0_beginWith_25 rfl ?_
      refine v_getr aX0_beginWith_26 fX0_20 hB.p rfl rfl ?_
      refine v_iload_n aX0_beginWith_29 rfl ?_
      refine v_iconst aX0_beginWith_30 ?_
      refine v_iast aX0_beginWith_31 hB.p_least (by omega) (by decide) ?_
      refine v_aload_n aX0_beginWith_32 rfl ?_
      refine v_getr aX0_beginWith_33 fX0_23 hB.p rfl rfl ?_
      refine v_iload_n aX0_beginWith_36 rfl ?_
      refine v_sipush (by decide) aX0_beginWith_37 ?_
      refine v_iast aX0_beginWith_40 hB.p_greatest (by omega) (by decide) ?_
      refine v_iinc aX0_beginWith_41 rfl (by decide) rfl ?_
      refine v_goto 12 rfl aX0_beginWith_44 ?_
      refine ih (i + 1) _ (by omega) (by omega) (fun q e1 e2 e3 => ?_) (fun j j0 j1 => ?_)
      · rw [upd2_row e3, upd2_row e2, upd2_row e1]; exact hq q e1 e2 e3
      · by_cases e : j = i
        · subst e; simp [upd2_ap]
        · have := hj j j0 (by omega)
          simp [upd2_ap, e, this]
set_option maxHeartbeats 4000000 in
set_option maxRecDepth 100000 in
theorem c_X0_beginWith {n : Int} {t : BSt} (hB : BookS S b) (ht : BkAt μ b t) : Ct l G cX0_beginWith (yX0_beginWith, 3, none, 0, 0, 0) [.ref b, vi n] S μ (Rw S (fun μ' => BkAt μ' b (n, 0, t.2.2.1, t.2.2.2.1, (fun _ => 0), (fun _ => 0), (fun _ => 999), t.2.2.2.2.2.2.2.1, t.2.2.2.2.2.2.2.2) ∧ Out μ μ' b 19)) := by
  refine Ct.of (by decide) rfl (by simp [vi, Value.category]) (Nat.le_of_ble_eq_true rfl) ?_
  refine v_aload_n aX0_beginWith_0 rfl ?_
  refine v_iload_n aX0_beginWith_1 rfl ?_
  refine v_pi 6 rfl aX0_beginWith_2 fX0_36 nf0_6 ok0_6 hB.p rfl rfl ?_
  refine v_aload_n aX0_beginWith_5 rfl ?_
  refine v_iconst aX0_beginWith_6 ?_
  refine v_pi 7 rfl aX0_beginWith_7 fX0_40 nf0_7 ok0_7 hB.p rfl rfl ?_
  refine v_iconst aX0_beginWith_10 ?_
  refine v_istore_n aX0_beginWith_11 (by decide) rfl ?_
  refine l_X0_beginWith (μ0 := upd2 (upd2 μ b 6 n) b 7 0) hB (fun μ' h1 h2 => ⟨rfl, rfl, ?_, ?_⟩) 7 0 _ (by omega) (by omega) (fun _ _ _ _ => rfl) (fun j j0 j1 => by omega)
  · obtain ⟨t1, t2, t3, t4, t5, t6, t7, t8, t9⟩ := ht
    refine ⟨?_, ?_, ?_, fun i hi j j0 j5 => ?_, fun j j0 j6 => (h2 j j0 j6).1, fun j j0 j6 => (h2 j j0 j6).2.1, fun j j0 j6 => (h2 j j0 j6).2.2, ?_, ?_⟩
    · rw [h1 b (by omega) (by omega) (by omega)]; simp [upd2_ap]
    · rw [h1 b (by omega) (by omega) (by omega)]; simp [upd2_ap]
    · rw [h1 b (by omega) (by omega) (by omega)]; simp [upd2_ap, t3]
    · rw [h1 _ (by omega) (by omega) (by omega), upd2_row (by omega), upd2_row (by omega)]; exact t4 i hi j j0 j5
    · rw [h1 _ (by omega) (by omega) (by omega), upd2_row (by omega), upd2_row (by omega)]; exact t8
    · rw [h1 _ (by omega) (by omega) (by omega), upd2_row (by omega), upd2_row (by omega)]; exact t9
  · intro q hq
    rw [h1 _ (by omega) (by omega) (by omega), upd2_row (by omega), upd2_row (by omega)]
set_option maxHeartbeats 4000000 in
set_option maxRecDepth 100000 in
theorem c_X0_addSaying {s p h : Int} {K : Int → Int} (hB : BookS S b) (hc : 0 ≤ μ b 7 ∧ μ b 7 < 12) (hs : 0 ≤ s ∧ s < 6) (hp : 0 ≤ p ∧ p < 6) (hK : ∀ i : Nat, i < 12 → ∀ j : Int, 0 ≤ j → j < 5 → μ (b + 2 + i) j = K (5 * i + j)) : Ct l G cX0_addSaying (yX0_addSaying, 5, none, 0, 0, 0) [.ref b, vi s, vi p, vi h] S μ (Rw S (fun μ' => (∀ i : Nat, i < 12 → ∀ j : Int, 0 ≤ j → j < 5 → μ' (b + 2 + i) j = ladd K (μ (b + 14)) (μ b 7) s p h (5 * i + j)) ∧ μ' b = iup (μ b) 7 (μ b 7 + 1) ∧ ∀ q : Nat, q ≠ b → (q < b + 2 ∨ b + 14 ≤ q) → μ' q = μ q)) := by
  have hrow := hB.p_row (μ b 7).toNat (by omega)
  have hcc : (((μ b 7).toNat : Nat) : Int) = μ b 7 := by omega
  refine Ct.of (by decide) rfl (by simp [vi, Value.category]) (Nat.le_of_ble_eq_true rfl) ?_
  refine v_aload_n aX0_addSaying_0 rfl ?_
  refine v_gi 7 rfl aX0_addSaying_1 fX0_40 hB.p rfl rfl ?_
  refine v_bipush (by decide) aX0_addSaying_4 ?_
  refine v_icmp_lt 10 rfl aX0_addSaying_6 (by omega) (by omega) (fun c6 => ?_) (fun c6 => ?_)
  · --
    refine v_aload_n aX0_addSaying_10 rfl ?_
    refine v_getr aX0_addSaying_11 fX0_11 hB.p rfl rfl ?_
    refine v_aload_n aX0_addSaying_14 rfl ?_
    refine v_gi 7 rfl aX0_addSaying_15 fX0_40 hB.p rfl rfl ?_
    refine v_aaldR (kk := 102) (q := b + 2 + (μ b 7).toNat) rfl rfl aX0_addSaying_18 hB.p_sayings (by omega) (by decide) (by simp; omega) ?_
    refine v_astore aX0_addSaying_19 (by decide) rfl ?_
    refine v_aload aX0_addSaying_21 rfl ?_
    refine v_iconst aX0_addSaying_23 ?_
    refine v_iload_n aX0_addSaying_24 rfl ?_
    refine v_iast aX0_addSaying_25 hrow (by omega) (by decide) ?_
    refine v_aload aX0_addSaying_26 rfl ?_
    refine v_iconst aX0_addSaying_28 ?_
    refine v_iload_n aX0_addSaying_29 rfl ?_
    refine v_iast aX0_addSaying_30 hrow (by omega) (by decide) ?_
    refine v_aload aX0_addSaying_31 rfl ?_
    refine v_iconst aX0_addSaying_33 ?_
    refine v_iload_n aX0_addSaying_34 rfl ?_
    refine v_iast aX0_addSaying_35 hrow (by omega) (by decide) ?_
    refine v_aload aX0_addSaying_36 rfl ?_
    refine v_iconst aX0_addSaying_38 ?_
    refine v_aload_n aX0_addSaying_39 rfl ?_
    refine v_getr aX0_addSaying_40 fX0_16 hB.p rfl rfl ?_
    refine v_iload_n aX0_addSaying_43 rfl ?_
    refine v_iald aX0_addSaying_44 hB.p_lifts (by omega) (by decide) ?_
    rw [upd2_row (by omega), upd2_row (by omega), upd2_row (by omega)]
    refine v_iast aX0_addSaying_45 hrow (by omega) (by decide) ?_
    refine v_aload aX0_addSaying_46 rfl ?_
    refine v_iconst aX0_addSaying_48 ?_
    refine v_aload_n aX0_addSaying_49 rfl ?_
    refine v_getr aX0_addSaying_50 fX0_16 hB.p rfl rfl ?_
    refine v_iload_n aX0_addSaying_53 rfl ?_
    refine v_iald aX0_addSaying_54 hB.p_lifts (by omega) (by decide) ?_
    rw [upd2_row (by omega), upd2_row (by omega), upd2_row (by omega), upd2_row (by omega)]
    refine v_iast aX0_addSaying_55 hrow (by omega) (by decide) ?_
    refine v_aload_n aX0_addSaying_56 rfl ?_
    refine v_dup rfl aX0_addSaying_57 ?_
    refine v_gi 7 rfl aX0_addSaying_58 fX0_40 hB.p rfl rfl ?_
    rw [upd2_row (by omega), upd2_row (by omega), upd2_row (by omega), upd2_row (by omega), upd2_row (by omega)]
    refine v_iconst aX0_addSaying_61 ?_
    refine v_iadd aX0_addSaying_62 ?_
    refine v_pi 7 rfl aX0_addSaying_63 fX0_40 nf0_7 ok0_7 hB.p rfl rfl ?_
    refine v_return aX0_addSaying_66 rfl ⟨Nat.le_refl _, Nat.le_refl _⟩ ?_
    refine ⟨rfl, rfl, fun i hi j j0 j5 => ?_, ?_, fun q q1 q2 => ?_⟩
    · rw [upd2_row (by omega)]
      by_cases e : i = (μ b 7).toNat
      · subst e
        rw [hcc]
        unfold ladd
        have hj : j = 0 ∨ j = 1 ∨ j = 2 ∨ j = 3 ∨ j = 4 := by omega
        rcases hj with rfl | rfl | rfl | rfl | rfl <;> simp [upd2_ap] <;> omega
      · rw [upd2_row (by omega), upd2_row (by omega), upd2_row (by omega), upd2_row (by omega), upd2_row (by omega), hK i hi j j0 j5]
        unfold ladd
        rw [if_neg (by omega), if_neg (by omega), if_neg (by omega), if_neg (by omega), if_neg (by omega)]
    · funext z
      by_cases e : z = 7
      · subst e; simp [upd2_ap, iup]
      · have e9 : ∀ x : Nat, b ≠ b + 2 + x := fun x => by omega
        simp [upd2_ap, iup, e, e9]
    · rw [upd2_row q1, upd2_row (by omega), upd2_row (by omega), upd2_row (by omega), upd2_row (by omega), upd2_row (by omega)]
  · exact absurd c6 (by omega)
end BOOK
end
section
/-! the book of the class: a line is written, a book is copied, a new book -/
theorem icp6 {f g : Int → Int} : Eq6 (icp f g 0 0 6) f := fun i h0 h6 => by unfold icp; rw [if_pos (by omega)]; exact congrArg f (by omega)
theorem ladd_eq {K L L' : Int → Int} {c s p h z : Int} (hL : Eq6 L L') (hs : 0 ≤ s ∧ s < 6) (hp : 0 ≤ p ∧ p < 6) : ladd K L c s p h z = ladd K L' c s p h z := by
  unfold ladd
  rw [hL s hs.1 hs.2, hL p hp.1 hp.2]
theorem iup_eq6 {L L' : Int → Int} {s x y : Int} (hL : Eq6 L L') (e : x = y) : Eq6 (iup L s x) (iup L' s y) := fun i h0 h6 => by
  unfold iup
  by_cases h : i = s
  · rw [if_pos h, if_pos h, e]
  · rw [if_neg h, if_neg h]; exact hL i h0 h6
section BOOK2
variable {l : Launch} {G : Glb} {S : Sh} {μ : Mu} {b : Nat}
/-- a line on the pad that can be written: the signs g, n of them -/
def LineOk (g : Int → Int) (n : Int) : Prop := (1 ≤ n ∧ n ≤ 40 ∧ n % 2 = 1) ∧ (∀ i : Int, 0 ≤ i → i < n → i % 2 = 0 → 97 ≤ g i ∧ g i < 103) ∧ ∀ i : Int, 0 ≤ i → i < 40 → -1000 ≤ g i ∧ g i ≤ 1000
/-- the book at b after a part of a line: sayings, lifts, count -/
def WIn (μ0 μ : Mu) (b : Nat) (t : LSt) : Prop := (∀ i : Nat, i < 12 → ∀ j : Int, 0 ≤ j → j < 5 → μ (b + 2 + i) j = t.1 (5 * i + j)) ∧ Eq6 (μ (b + 14)) t.2.1 ∧ μ b = iup (μ0 b) 7 t.2.2 ∧ ∀ q : Nat, q ≠ b → (q < b + 2 ∨ b + 15 ≤ q) → μ q = μ0 q
set_option maxHeartbeats 4000000 in
set_option maxRecDepth 100000 in
theorem l_X0_write {P : Pst} {p : Nat} {μ0 : Mu} (hB : BookS S b) (hP : PadS S p) (hd : p + 2 ≤ b ∨ b + 19 ≤ p) (hg : LineOk (μ0 (p + 1)) (μ0 p 1)) : ∀ (m : Nat) (i : Int) (μ : Mu) (t : LSt), (2 ≤ i ∧ i ≤ μ0 p 1 + 1 ∧ i % 2 = 0) → μ0 p 1 - i < m → (0 ≤ t.2.2 ∧ t.2.2 + (μ0 p 1 - i + 1) / 2 ≤ 12) → WIn μ0 μ b t → (∀ μ, WIn μ0 μ b (lnd (μ0 (p + 1)) (μ0 p 1) m i t) → P none S μ) → ∀ s : Int, V l G cX0_write (yX0_write, 4, none, 1, 0, 0) P (0, 0) S μ 2 [.ref b, .ref p, vi i, vi s] [] := by
  intro m
  induction m with
  | zero =>
    intro i μ t h0 h1 hc hw hh s
    obtain ⟨w1, w2, w3, w4⟩ := hw
    obtain ⟨⟨g1, g2, g3⟩, g4, g5⟩ := id hg
    have hpd : μ (p + 1) = μ0 (p + 1) := w4 _ (by omega) (by omega)
    have hpz : μ p = μ0 p := w4 _ (by omega) (by omega)
    have hb7 : μ b 7 = t.2.2 := by rw [w3, iup_same]
    refine v_iload_n aX0_write_2 rfl ?_
    refine v_aload_n aX0_write_3 rfl ?_
    refine v_gi 1 rfl aX0_write_4 fX0_43 hP.p rfl rfl ?_
    rw [hpz]
    refine v_icmp_ge 56 rfl aX0_write_7 (by omega) (by omega) (fun c7 => ?_) (fun c7 => ?_)
    · --
      refine v_return aX0_write_56 rfl ⟨Nat.le_refl _, Nat.le_refl _⟩ ?_
      exact hh μ ⟨w1, w2, w3, w4⟩
    · exact absurd (by omega) c7
  | succ m ih =>
    intro i μ t h0 h1 hc hw hh s
    unfold lnd at hh
    obtain ⟨w1, w2, w3, w4⟩ := hw
    obtain ⟨⟨g1, g2, g3⟩, g4, g5⟩ := id hg
    have hpd : μ (p + 1) = μ0 (p + 1) := w4 _ (by omega) (by omega)
    have hpz : μ p = μ0 p := w4 _ (by omega) (by omega)
    have hb7 : μ b 7 = t.2.2 := by rw [w3, iup_same]
    have q0 : i < μ0 p 1 → 97 ≤ μ0 (p + 1) i ∧ μ0 (p + 1) i < 103 := fun h => g4 i (by omega) h (by omega)
    have q2 : i < μ0 p 1 → 97 ≤ μ0 (p + 1) (i - 2) ∧ μ0 (p + 1) (i - 2) < 103 := fun h => g4 (i - 2) (by omega) (by omega) (by omega)
    refine v_iload_n aX0_write_2 rfl ?_
    refine v_aload_n aX0_write_3 rfl ?_
    refine v_gi 1 rfl aX0_write_4 fX0_43 hP.p rfl rfl ?_
    rw [hpz]
    refine v_icmp_ge 56 rfl aX0_write_7 (by omega) (by omega) (fun c7 => ?_) (fun c7 => ?_)
    · --
      refine v_return aX0_write_56 rfl ⟨Nat.le_refl _, Nat.le_refl _⟩ ?_
      rw [if_neg (by omega)] at hh
      exact hh μ ⟨w1, w2, w3, w4⟩
    · --
      have q0 := q0 (by omega)
      have q2 := q2 (by omega)
      have q5 := g5 (i - 1) (by omega) (by omega)
      refine v_aload_n aX0_write_10 rfl ?_
      refine v_iload_n aX0_write_11 rfl ?_
      refine v_cVi (c_X2_sackAt hP (by omega)) aX0_write_12 mX2_sackAt vX2_sackAt lX0_48 hP.p rfl rfl rfl rfl rfl (Nat.le_of_ble_eq_true rfl) ⟨Nat.le_of_ble_eq_true rfl, Nat.le_of_ble_eq_true rfl⟩ (Nat.le_of_ble_eq_true rfl) ?_
      rw [hpd]
      refine v_istore_n aX0_write_15 (by decide) rfl ?_
      refine v_aload_n aX0_write_16 rfl ?_
      refine v_getr aX0_write_17 fX0_16 hB.p rfl rfl ?_
      refine v_iload_n aX0_write_20 rfl ?_
      refine v_dup2 rfl rfl aX0_write_21 ?_
      refine v_iald aX0_write_22 hB.p_lifts (by omega) (by decide) ?_
      refine v_iconst aX0_write_23 ?_
      refine v_iadd aX0_write_24 ?_
      refine v_iast aX0_write_25 hB.p_lifts (by omega) (by decide) ?_
      refine v_iload_n aX0_write_26 rfl ?_
      refine v_iconst aX0_write_27 ?_
      refine v_icmp_lt 50 rfl aX0_write_28 (by omega) (by omega) (fun c28 => ?_) (fun c28 => ?_)
      · exact absurd c28 (by omega)
      · --
        refine v_aload_n aX0_write_31 rfl ?_
        refine v_iload_n aX0_write_32 rfl ?_
        refine v_aload_n aX0_write_33 rfl ?_
        refine v_iload_n aX0_write_34 rfl ?_
        refine v_iconst aX0_write_35 ?_
        refine v_isub aX0_write_36 ?_
        refine v_cVi (c_X2_sackAt hP (by omega)) aX0_write_37 mX2_sackAt vX2_sackAt lX0_48 hP.p rfl rfl rfl rfl rfl (Nat.le_of_ble_eq_true rfl) ⟨Nat.le_of_ble_eq_true rfl, Nat.le_of_ble_eq_true rfl⟩ (Nat.le_of_ble_eq_true rfl) ?_
        rw [upd2_row (by omega), hpd]
        refine v_aload_n aX0_write_40 rfl ?_
        refine v_iload_n aX0_write_41 rfl ?_
        refine v_iconst aX0_write_42 ?_
        refine v_isub aX0_write_43 ?_
        refine v_cVi (c_X2_howAt hP (by omega) (by rw [upd2_row (by omega), hpd]; omega)) aX0_write_44 mX2_howAt vX2_howAt lX0_52 hP.p rfl rfl rfl rfl rfl (Nat.le_of_ble_eq_true rfl) ⟨Nat.le_of_ble_eq_true rfl, Nat.le_of_ble_eq_true rfl⟩ (Nat.le_of_ble_eq_true rfl) ?_
        rw [upd2_row (by omega), hpd]
        refine v_cVw (c_X0_addSaying (K := t.1) hB (by rw [upd2_row (by omega), hb7]; omega) (by omega) (by omega) (fun x hx j j0 j5 => by rw [upd2_row (by omega)]; exact w1 x hx j j0 j5)) aX0_write_47 mX0_addSaying vX0_addSaying lX0_55 hB.p rfl rfl rfl rfl rfl (Nat.le_of_ble_eq_true rfl) ⟨Nat.le_of_ble_eq_true rfl, Nat.le_of_ble_eq_true rfl⟩ (Nat.le_of_ble_eq_true rfl) (fun μ2 ⟨r1, r2, r3⟩ => ?_)
        refine v_iinc aX0_write_50 rfl (by decide) rfl ?_
        refine v_goto 2 rfl aX0_write_53 ?_
        have e14 : Eq6 (upd2 μ (b + 14) (μ0 (p + 1) i - 97) (μ (b + 14) (μ0 (p + 1) i - 97) + 1) (b + 14)) (iup t.2.1 (μ0 (p + 1) i - 97) (t.2.1 (μ0 (p + 1) i - 97) + 1)) := by
          rw [upd2_iup, row_same]
          exact iup_eq6 w2 (by rw [w2 _ (by omega) (by omega)])
        refine ih (i + 2) μ2 (lstep (μ0 (p + 1)) i t) (by omega) (by omega) (by show 0 ≤ t.2.2 + 1 ∧ t.2.2 + 1 + _ ≤ 12; omega) ⟨fun x hx j j0 j5 => ?_, ?_, ?_, fun q q1 q2 => ?_⟩ (by rw [if_pos (by omega)] at hh; exact hh) _
        · rw [r1 x hx j j0 j5, ladd_eq e14 (by omega) (by omega), upd2_row (by omega), hb7]; rfl
        · rw [r3 (b + 14) (by omega) (by omega)]; exact e14
        · rw [r2, upd2_row (by omega), w3, iup_iup, iup_same]; rfl
        · rw [r3 q q1 (by omega), upd2_row (by omega)]; exact w4 q q1 q2
set_option maxHeartbeats 4000000 in
set_option maxRecDepth 100000 in
theorem f_X0_write {P : Pst} {p : Nat} {μ0 : Mu} (hB : BookS S b) (hP : PadS S p) (hd : p + 2 ≤ b ∨ b + 19 ≤ p) (hg : LineOk (μ0 (p + 1)) (μ0 p 1)) {t : LSt} (hc : 0 ≤ t.2.2 ∧ t.2.2 + μ0 p 1 / 2 ≤ 12) (hw : WIn μ0 μ b t) (hh : ∀ μ, WIn μ0 μ b (lnd (μ0 (p + 1)) (μ0 p 1) 41 2 (t.1, iup t.2.1 (μ0 (p + 1) 0 - 97) (t.2.1 (μ0 (p + 1) 0 - 97) + 1), t.2.2)) → P none S μ) : V l G cX0_write (yX0_write, 4, none, 1, 0, 0) P (0, 0) S μ 2 [.ref b, .ref p, vi 0] [] := by
  obtain ⟨w1, w2, w3, w4⟩ := hw
  obtain ⟨⟨g1, g2, g3⟩, g4, g5⟩ := id hg
  have hpd : μ (p + 1) = μ0 (p + 1) := w4 _ (by omega) (by omega)
  have hpz : μ p = μ0 p := w4 _ (by omega) (by omega)
  have hb7 : μ b 7 = t.2.2 := by rw [w3, iup_same]
  have q0 : 97 ≤ μ0 (p + 1) 0 ∧ μ0 (p + 1) 0 < 103 := g4 0 (by omega) (by omega) (by omega)
  refine v_iload_n aX0_write_2 rfl ?_
  refine v_aload_n aX0_write_3 rfl ?_
  refine v_gi 1 rfl aX0_write_4 fX0_43 hP.p rfl rfl ?_
  rw [hpz]
  refine v_icmp_ge 56 rfl aX0_write_7 (by omega) (by omega) (fun c7 => ?_) (fun c7 => ?_)
  · exact absurd c7 (by omega)
  · --
    refine v_aload_n aX0_write_10 rfl ?_
    refine v_iload_n aX0_write_11 rfl ?_
    refine v_cVi (c_X2_sackAt hP (by omega)) aX0_write_12 mX2_sackAt vX2_sackAt lX0_48 hP.p rfl rfl rfl rfl rfl (Nat.le_of_ble_eq_true rfl) ⟨Nat.le_of_ble_eq_true rfl, Nat.le_of_ble_eq_true rfl⟩ (Nat.le_of_ble_eq_true rfl) ?_
    rw [hpd]
    refine v_istore_n aX0_write_15 (by decide) rfl ?_
    refine v_aload_n aX0_write_16 rfl ?_
    refine v_getr aX0_write_17 fX0_16 hB.p rfl rfl ?_
    refine v_iload_n aX0_write_20 rfl ?_
    refine v_dup2 rfl rfl aX0_write_21 ?_
    refine v_iald aX0_write_22 hB.p_lifts (by omega) (by decide) ?_
    refine v_iconst aX0_write_23 ?_
    refine v_iadd aX0_write_24 ?_
    refine v_iast aX0_write_25 hB.p_lifts (by omega) (by decide) ?_
    refine v_iload_n aX0_write_26 rfl ?_
    refine v_iconst aX0_write_27 ?_
    refine v_icmp_lt 50 rfl aX0_write_28 (by omega) (by omega) (fun c28 => ?_) (fun c28 => ?_)
    · --
      refine v_iinc aX0_write_50 rfl (by decide) rfl ?_
      refine v_goto 2 rfl aX0_write_53 ?_
      refine l_X0_write hB hP hd hg 41 2 _ (t.1, iup t.2.1 (μ0 (p + 1) 0 - 97) (t.2.1 (μ0 (p + 1) 0 - 97) + 1), t.2.2) (by omega) (by omega) (by show 0 ≤ t.2.2 ∧ t.2.2 + _ ≤ 12; omega) ⟨fun x hx j j0 j5 => ?_, ?_, ?_, fun q q1 q2 => ?_⟩ hh _
      · rw [upd2_row (by omega)]; exact w1 x hx j j0 j5
      · rw [upd2_iup, row_same]
        exact iup_eq6 w2 (by rw [w2 _ (by omega) (by omega)])
      · rw [upd2_row (by omega)]; exact w3
      · rw [upd2_row (by omega)]; exact w4 q q1 q2
    · exact absurd (by omega) c28
set_option maxHeartbeats 4000000 in
set_option maxRecDepth 100000 in
theorem c_X0_write {p : Nat} {K L : Int → Int} (hB : BookS S b) (hP : PadS S p) (hd : p + 2 ≤ b ∨ b + 19 ≤ p) (hg : LineOk (μ (p + 1)) (μ p 1)) (hc : 0 ≤ μ b 7 ∧ μ b 7 + μ p 1 / 2 ≤ 12) (hK : ∀ i : Nat, i < 12 → ∀ j : Int, 0 ≤ j → j < 5 → μ (b + 2 + i) j = K (5 * i + j)) (hL : Eq6 (μ (b + 14)) L) : Ct l G cX0_write (yX0_write, 4, none, 1, 0, 0) [.ref b, .ref p] S μ (Rw S (fun μ' => WIn μ μ' b (lnd (μ (p + 1)) (μ p 1) 41 2 (K, iup L (μ (p + 1) 0 - 97) (L (μ (p + 1) 0 - 97) + 1), μ b 7)))) := by
  refine Ct.of (by decide) rfl (by simp [vi, Value.category]) (Nat.le_of_ble_eq_true rfl) ?_
  refine v_iconst aX0_write_0 ?_
  refine v_istore_n aX0_write_1 (by decide) rfl ?_
  refine f_X0_write (t := (K, L, μ b 7)) hB hP hd hg hc ⟨hK, hL, ?_, fun _ _ _ => rfl⟩ (fun μ' h => ⟨rfl, rfl, h⟩)
  funext z
  by_cases e : z = 7
  · subst e; simp [iup]
  · simp [iup, e]
set_option maxHeartbeats 4000000 in
set_option maxRecDepth 100000 in
theorem l_X0_copyFrom {q : Nat} {μ0 : Mu} {P : Pst} (hB : BookS S b) (hQ : BookS S q) (hd : q + 19 ≤ b ∨ b + 19 ≤ q) (hh : ∀ μ : Mu, (∀ x : Nat, (x < b + 2 ∨ b + 14 ≤ x) → μ x = μ0 x) → (∀ i : Nat, i < 12 → ∀ j : Int, 0 ≤ j → j < 5 → μ (b + 2 + i) j = μ0 (q + 2 + i) j) → V l G cX0_copyFrom (yX0_copyFrom, 3, none, 1, 0, 0) P (0, 0) S μ 32 [.ref b, .ref q, vi 12] []) : ∀ (m : Nat) (i : Int) (μ : Mu), (0 ≤ i ∧ i ≤ 12) → 12 - i < m → (∀ x : Nat, (x < b + 2 ∨ b + 14 ≤ x) → μ x = μ0 x) → (∀ x : Nat, (x : Int) < i → ∀ j : Int, 0 ≤ j → j < 5 → μ (b + 2 + x) j = μ0 (q + 2 + x) j) → V l G cX0_copyFrom (yX0_copyFrom, 3, none, 1, 0, 0) P (0, 0) S μ 2 [.ref b, .ref q, vi i] [] := by
  intro m
  induction m with
  | zero => intro i μ h0 h1; omega
  | succ m ih =>
    intro i μ h0 h1 hx hr
    have hci : ((i.toNat : Nat) : Int) = i := by omega
    have r0 : i < 12 → S.2 (b + 2 + i.toNat) = some (aI 5) := fun h => hB.p_row i.toNat (by omega)
    have r1 : i < 12 → S.2 (q + 2 + i.toNat) = some (aI 5) := fun h => hQ.p_row i.toNat (by omega)
    refine v_iload_n aX0_copyFrom_2 rfl ?_
    refine v_bipush (by decide) aX0_copyFrom_3 ?_
    refine v_icmp_ge 32 rfl aX0_copyFrom_5 (by omega) (by omega) (fun c5 => ?_) (fun c5 => ?_)
    · --
      obtain rfl : i = 12 := by omega
      exact hh μ hx (fun x hq j j0 j5 => hr x (by omega) j j0 j5)
    · --
      have r0 := r0 (by omega)
      have r1 := r1 (by omega)
      refine v_aload_n aX0_copyFrom_8 rfl ?_
      refine v_getr aX0_copyFrom_9 fX0_11 hQ.p rfl rfl ?_
      refine v_iload_n aX0_copyFrom_12 rfl ?_
      refine v_aaldR (kk := 102) (q := q + 2 + i.toNat) rfl rfl aX0_copyFrom_13 hQ.p_sayings (by omega) (by decide) (by simp; omega) ?_
      refine v_iconst aX0_copyFrom_14 ?_
      refine v_aload_n aX0_copyFrom_15 rfl ?_
      refine v_getr aX0_copyFrom_16 fX0_11 hB.p rfl rfl ?_
      refine v_iload_n aX0_copyFrom_19 rfl ?_
      refine v_aaldR (kk := 102) (q := b + 2 + i.toNat) rfl rfl aX0_copyFrom_20 hB.p_sayings (by omega) (by decide) (by simp; omega) ?_
      refine v_iconst aX0_copyFrom_21 ?_
      refine v_iconst aX0_copyFrom_22 ?_
      refine v_copy aX0_copyFrom_23 laX0_59 w_acn w_acs w_sysi r1 r0 (by omega) (by decide) (by decide) (by decide) (by decide) (by decide) (by decide) (by decide) (Nat.le_of_ble_eq_true rfl) (Nat.le_of_ble_eq_true rfl) ?_
      refine v_iinc aX0_copyFrom_26 rfl (by decide) rfl ?_
      refine v_goto 2 rfl aX0_copyFrom_29 ?_
      refine ih (i + 1) _ (by omega) (by omega) (fun x hq => ?_) (fun x hq j j0 j5 => ?_)
      · rw [row_ne (by omega)]; exact hx x hq
      · by_cases e : x = i.toNat
        · subst e
          rw [row_same]
          unfold icp
          rw [if_pos (by omega), hx _ (by omega)]
          exact congrArg _ (by omega)
        · rw [row_ne (by omega)]; exact hr x (by omega) j j0 j5
set_option maxHeartbeats 4000000 in
set_option maxRecDepth 100000 in
theorem c_X0_copyFrom {q : Nat} {t : BSt} (hB : BookS S b) (hQ : BookS S q) (hd : q + 19 ≤ b ∨ b + 19 ≤ q) (ht : BkAt μ q t) : Ct l G cX0_copyFrom (yX0_copyFrom, 3, none, 1, 0, 0) [.ref b, .ref q] S μ (Rw S (fun μ' => BkAt μ' b t ∧ Out μ μ' b 19)) := by
  refine Ct.of (by decide) rfl (by simp [vi, Value.category]) (Nat.le_of_ble_eq_true rfl) ?_
  refine v_iconst aX0_copyFrom_0 ?_
  refine v_istore_n aX0_copyFrom_1 (by decide) rfl ?_
  refine l_X0_copyFrom (μ0 := μ) hB hQ hd (fun μ0 hx hr => ?_) 13 0 μ (by omega) (by omega) (fun _ _ => rfl) (fun x h => absurd h (by omega))
  refine v_aload_n aX0_copyFrom_32 rfl ?_
  refine v_getr aX0_copyFrom_33 fX0_16 hQ.p rfl rfl ?_
  refine v_iconst aX0_copyFrom_36 ?_
  refine v_aload_n aX0_copyFrom_37 rfl ?_
  refine v_getr aX0_copyFrom_38 fX0_16 hB.p rfl rfl ?_
  refine v_iconst aX0_copyFrom_41 ?_
  refine v_bipush (by decide) aX0_copyFrom_42 ?_
  refine v_copy aX0_copyFrom_44 laX0_59 w_acn w_acs w_sysi hQ.p_lifts hB.p_lifts (by omega) (by decide) (by decide) (by decide) (by decide) (by decide) (by decide) (by decide) (Nat.le_of_ble_eq_true rfl) (Nat.le_of_ble_eq_true rfl) ?_
  generalize hM1 : row μ0 (b + 14) _ = μ1
  have k1 : ∀ x : Nat, x ≠ b + 14 → μ1 x = μ0 x := fun x hx => by rw [← hM1]; exact row_ne hx
  have v1 : Eq6 (μ1 (b + 14)) (μ0 (q + 14)) := by rw [← hM1, row_same]; exact icp6
  refine v_aload_n aX0_copyFrom_47 rfl ?_
  refine v_getr aX0_copyFrom_48 fX0_20 hQ.p rfl rfl ?_
  refine v_iconst aX0_copyFrom_51 ?_
  refine v_aload_n aX0_copyFrom_52 rfl ?_
  refine v_getr aX0_copyFrom_53 fX0_20 hB.p rfl rfl ?_
  refine v_iconst aX0_copyFrom_56 ?_
  refine v_bipush (by decide) aX0_copyFrom_57 ?_
  refine v_copy aX0_copyFrom_59 laX0_59 w_acn w_acs w_sysi hQ.p_least hB.p_least (by omega) (by decide) (by decide) (by decide) (by decide) (by decide) (by decide) (by decide) (Nat.le_of_ble_eq_true rfl) (Nat.le_of_ble_eq_true rfl) ?_
  generalize hM2 : row μ1 (b + 15) _ = μ2
  have k2 : ∀ x : Nat, x ≠ b + 15 → μ2 x = μ1 x := fun x hx => by rw [← hM2]; exact row_ne hx
  have v2 : Eq6 (μ2 (b + 15)) (μ1 (q + 15)) := by rw [← hM2, row_same]; exact icp6
  refine v_aload_n aX0_copyFrom_62 rfl ?_
  refine v_getr aX0_copyFrom_63 fX0_23 hQ.p rfl rfl ?_
  refine v_iconst aX0_copyFrom_66 ?_
  refine v_aload_n aX0_copyFrom_67 rfl ?_
  refine v_getr aX0_copyFrom_68 fX0_23 hB.p rfl rfl ?_
  refine v_iconst aX0_copyFrom_71 ?_
  refine v_bipush (by decide) aX0_copyFrom_72 ?_
  refine v_copy aX0_copyFrom_74 laX0_59 w_acn w_acs w_sysi hQ.p_greatest hB.p_greatest (by omega) (by decide) (by decide) (by decide) (by decide) (by decide) (by decide) (by decide) (Nat.le_of_ble_eq_true rfl) (Nat.le_of_ble_eq_true rfl) ?_
  generalize hM3 : row μ2 (b + 16) _ = μ3
  have k3 : ∀ x : Nat, x ≠ b + 16 → μ3 x = μ2 x := fun x hx => by rw [← hM3]; exact row_ne hx
  have v3 : Eq6 (μ3 (b + 16)) (μ2 (q + 16)) := by rw [← hM3, row_same]; exact icp6
  refine v_aload_n aX0_copyFrom_77 rfl ?_
  refine v_getr aX0_copyFrom_78 fX0_26 hQ.p rfl rfl ?_
  refine v_iconst aX0_copyFrom_81 ?_
  refine v_aload_n aX0_copyFrom_82 rfl ?_
  refine v_getr aX0_copyFrom_83 fX0_26 hB.p rfl rfl ?_
  refine v_iconst aX0_copyFrom_86 ?_
  refine v_bipush (by decide) aX0_copyFrom_87 ?_
  refine v_copy aX0_copyFrom_89 laX0_59 w_acn w_acs w_sysi hQ.p_tolls hB.p_tolls (by omega) (by decide) (by decide) (by decide) (by decide) (by decide) (by decide) (by decide) (Nat.le_of_ble_eq_true rfl) (Nat.le_of_ble_eq_true rfl) ?_
  generalize hM4 : row μ3 (b + 17) _ = μ4
  have k4 : ∀ x : Nat, x ≠ b + 17 → μ4 x = μ3 x := fun x hx => by rw [← hM4]; exact row_ne hx
  have v4 : Eq6 (μ4 (b + 17)) (μ3 (q + 17)) := by rw [← hM4, row_same]; exact icp6
  refine v_aload_n aX0_copyFrom_92 rfl ?_
  refine v_getr aX0_copyFrom_93 fX0_29 hQ.p rfl rfl ?_
  refine v_iconst aX0_copyFrom_96 ?_
  refine v_aload_n aX0_copyFrom_97 rfl ?_
  refine v_getr aX0_copyFrom_98 fX0_29 hB.p rfl rfl ?_
  refine v_iconst aX0_copyFrom_101 ?_
  refine v_bipush (by decide) aX0_copyFrom_102 ?_
  refine v_copy aX0_copyFrom_104 laX0_59 w_acn w_acs w_sysi hQ.p_weights hB.p_weights (by omega) (by decide) (by decide) (by decide) (by decide) (by decide) (by decide) (by decide) (Nat.le_of_ble_eq_true rfl) (Nat.le_of_ble_eq_true rfl) ?_
  generalize hM5 : row μ4 (b + 18) _ = μ5
  have k5 : ∀ x : Nat, x ≠ b + 18 → μ5 x = μ4 x := fun x hx => by rw [← hM5]; exact row_ne hx
  have v5 : Eq6 (μ5 (b + 18)) (μ4 (q + 18)) := by rw [← hM5, row_same]; exact icp6
  refine v_aload_n aX0_copyFrom_107 rfl ?_
  refine v_aload_n aX0_copyFrom_108 rfl ?_
  refine v_gi 6 rfl aX0_copyFrom_109 fX0_36 hQ.p rfl rfl ?_
  refine v_pi 6 rfl aX0_copyFrom_112 fX0_36 nf0_6 ok0_6 hB.p rfl rfl ?_
  refine v_aload_n aX0_copyFrom_115 rfl ?_
  refine v_aload_n aX0_copyFrom_116 rfl ?_
  refine v_gi 7 rfl aX0_copyFrom_117 fX0_40 hQ.p rfl rfl ?_
  refine v_pi 7 rfl aX0_copyFrom_120 fX0_40 nf0_7 ok0_7 hB.p rfl rfl ?_
  refine v_aload_n aX0_copyFrom_123 rfl ?_
  refine v_aload_n aX0_copyFrom_124 rfl ?_
  refine v_gi 8 rfl aX0_copyFrom_125 fX0_65 hQ.p rfl rfl ?_
  refine v_pi 8 rfl aX0_copyFrom_128 fX0_65 nf0_8 ok0_8 hB.p rfl rfl ?_
  refine v_return aX0_copyFrom_131 rfl ⟨Nat.le_refl _, Nat.le_refl _⟩ ?_
  obtain ⟨t1, t2, t3, t4, t5, t6, t7, t8, t9⟩ := ht
  have hq : ∀ x : Nat, (x < b ∨ b + 19 ≤ x) → μ5 x = μ x := fun x h => by rw [k5 x (by omega), k4 x (by omega), k3 x (by omega), k2 x (by omega), k1 x (by omega)]; exact hx x (by omega)
  refine ⟨rfl, rfl, ⟨?_, ?_, ?_, fun i hi j j0 j5 => ?_, ?_, ?_, ?_, ?_, ?_⟩, fun x h => ?_⟩
  · simp [upd2_ap]
    rw [hq q (by omega)]; exact t1
  · have e : b ≠ q := by omega
    simp [upd2_ap, e, Ne.symm e]
    rw [hq q (by omega)]; exact t2
  · have e : b ≠ q := by omega
    simp [upd2_ap, e, Ne.symm e]
    rw [hq q (by omega)]; exact t3
  · rw [upd2_row (by omega), upd2_row (by omega), upd2_row (by omega), k5 _ (by omega), k4 _ (by omega), k3 _ (by omega), k2 _ (by omega), k1 _ (by omega), hr i hi j j0 j5]; exact t4 i hi j j0 j5
  · rw [upd2_row (by omega), upd2_row (by omega), upd2_row (by omega), k5 _ (by omega), k4 _ (by omega), k3 _ (by omega), k2 _ (by omega)]
    intro i i0 i6; rw [v1 i i0 i6, hx _ (by omega)]; exact t5 i i0 i6
  · rw [upd2_row (by omega), upd2_row (by omega), upd2_row (by omega), k5 _ (by omega), k4 _ (by omega), k3 _ (by omega)]
    intro i i0 i6; rw [v2 i i0 i6, k1 _ (by omega), hx _ (by omega)]; exact t6 i i0 i6
  · rw [upd2_row (by omega), upd2_row (by omega), upd2_row (by omega), k5 _ (by omega), k4 _ (by omega)]
    intro i i0 i6; rw [v3 i i0 i6, k2 _ (by omega), k1 _ (by omega), hx _ (by omega)]; exact t7 i i0 i6
  · rw [upd2_row (by omega), upd2_row (by omega), upd2_row (by omega), k5 _ (by omega)]
    intro i i0 i6; rw [v4 i i0 i6, k3 _ (by omega), k2 _ (by omega), k1 _ (by omega), hx _ (by omega)]; exact t8 i i0 i6
  · rw [upd2_row (by omega), upd2_row (by omega), upd2_row (by omega)]
    intro i i0 i6; rw [v5 i i0 i6, k4 _ (by omega), k3 _ (by omega), k2 _ (by omega), k1 _ (by omega), hx _ (by omega)]; exact t9 i i0 i6
  · rw [upd2_row (by omega), upd2_row (by omega), upd2_row (by omega)]; exact hq x h
end BOOK2
end
section
/-! what both sides hold as one value, and what each plain call answers and leaves of it -/
/-- the book inside the model at m -/
def MbAt (μ : Mu) (m : Nat) (t : BSt) : Prop := μ m 0 = t.1 ∧ μ m 3 = t.2.1 ∧ μ m 9 = t.2.2.1 ∧ (∀ z : Int, 0 ≤ z → z < 60 → μ (m + 2) z = t.2.2.2.1 z) ∧ Eq6 (μ (m + 3)) t.2.2.2.2.1 ∧ Eq6 (μ (m + 5)) t.2.2.2.2.2.1 ∧ Eq6 (μ (m + 6)) t.2.2.2.2.2.2.1 ∧ Eq6 (μ (m + 4)) t.2.2.2.2.2.2.2.1 ∧ Eq6 (μ (m + 7)) t.2.2.2.2.2.2.2.2
def MoAt (μ : Mu) (m : Nat) (t : BSt) (g : Int → Int) (n : Int) : Prop := MbAt μ m t ∧ μ (m + 1) = g ∧ μ m 1 = n
def LsAt (μ : Mu) (x : Nat) (t : BSt) (g : Int → Int) (n : Int) : Prop := BkAt μ (x + 3) t ∧ μ (x + 1 + 1) = g ∧ μ (x + 1) 1 = n
theorem MoAt.kept {μ μ' : Mu} {m : Nat} {t : BSt} {g : Int → Int} {n : Int} (h : MoAt μ m t g n) (e : ∀ q : Nat, m ≤ q → q < m + 8 → μ' q = μ q) : MoAt μ' m t g n := by
  obtain ⟨⟨h1, h2, h3, h4, h5, h6, h7, h8, h9⟩, hg, hn⟩ := h
  refine ⟨⟨by rw [e m (by omega) (by omega)]; exact h1, by rw [e m (by omega) (by omega)]; exact h2, by rw [e m (by omega) (by omega)]; exact h3, ?_, ?_, ?_, ?_, ?_, ?_⟩, ?_, by rw [e m (by omega) (by omega)]; exact hn⟩ <;> rw [e _ (by omega) (by omega)] <;> assumption
theorem LsAt.kept {μ μ' : Mu} {x : Nat} {t : BSt} {g : Int → Int} {n : Int} (h : LsAt μ x t g n) (e : ∀ q : Nat, x ≤ q → q < x + 33 → μ' q = μ q) : LsAt μ' x t g n :=
  ⟨h.1.kept fun q q1 q2 => e q (by omega) (by omega), by rw [e _ (by omega) (by omega)]; exact h.2.1, by rw [e _ (by omega) (by omega)]; exact h.2.2⟩
theorem Out.trans {μ μ1 μ2 : Mu} {b n : Nat} (h1 : Out μ μ1 b n) (h2 : Out μ1 μ2 b n) : Out μ μ2 b n := fun q hq => (h2 q hq).trans (h1 q hq)
theorem Out.rf {μ : Mu} {b n : Nat} : Out μ μ b n := fun _ _ => rfl
theorem Out.upd {μ : Mu} {b n a : Nat} {z x : Int} (h : b ≤ a ∧ a < b + n) : Out μ (upd2 μ a z x) b n := fun q hq => upd2_row (by omega)
theorem Out.sub {μ μ' : Mu} {b n b' n' : Nat} (h : Out μ μ' b' n') (e : b ≤ b' ∧ b' + n' ≤ b + n) : Out μ μ' b n := fun q hq => h q (by omega)
theorem MoAt.set_L {μ : Mu} {m : Nat} {t : BSt} {g : Int → Int} {n : Int} (h : MoAt μ m t g n) {z v : Int} : MoAt (upd2 μ (m + 3) z v) m (t.1, t.2.1, t.2.2.1, t.2.2.2.1, iup t.2.2.2.2.1 z v, t.2.2.2.2.2.1, t.2.2.2.2.2.2.1, t.2.2.2.2.2.2.2.1, t.2.2.2.2.2.2.2.2) g n := by
  obtain ⟨⟨h1, h2, h3, h4, h5, h6, h7, h8, h9⟩, hg, hn⟩ := h
  refine ⟨⟨?_, ?_, ?_, ?_, ?_, ?_, ?_, ?_, ?_⟩, ?_, ?_⟩
  · first | (rw [upd2_row (by omega)]; exact h1) | (simp [upd2_ap]; exact h1)
  · first | (rw [upd2_row (by omega)]; exact h2) | (simp [upd2_ap]; exact h2)
  · first | (rw [upd2_row (by omega)]; exact h3) | (simp [upd2_ap]; exact h3)
  · rw [upd2_row (by omega)]; exact h4
  · rw [upd2_iup, row_same]; exact iup_eq6 h5 rfl
  · rw [upd2_row (by omega)]; exact h6
  · rw [upd2_row (by omega)]; exact h7
  · rw [upd2_row (by omega)]; exact h8
  · rw [upd2_row (by omega)]; exact h9
  · rw [upd2_row (by omega)]; exact hg
  · first | (rw [upd2_row (by omega)]; exact hn) | (simp [upd2_ap]; exact hn)
theorem MoAt.set_lo {μ : Mu} {m : Nat} {t : BSt} {g : Int → Int} {n : Int} (h : MoAt μ m t g n) {z v : Int} : MoAt (upd2 μ (m + 5) z v) m (t.1, t.2.1, t.2.2.1, t.2.2.2.1, t.2.2.2.2.1, iup t.2.2.2.2.2.1 z v, t.2.2.2.2.2.2.1, t.2.2.2.2.2.2.2.1, t.2.2.2.2.2.2.2.2) g n := by
  obtain ⟨⟨h1, h2, h3, h4, h5, h6, h7, h8, h9⟩, hg, hn⟩ := h
  refine ⟨⟨?_, ?_, ?_, ?_, ?_, ?_, ?_, ?_, ?_⟩, ?_, ?_⟩
  · first | (rw [upd2_row (by omega)]; exact h1) | (simp [upd2_ap]; exact h1)
  · first | (rw [upd2_row (by omega)]; exact h2) | (simp [upd2_ap]; exact h2)
  · first | (rw [upd2_row (by omega)]; exact h3) | (simp [upd2_ap]; exact h3)
  · rw [upd2_row (by omega)]; exact h4
  · rw [upd2_row (by omega)]; exact h5
  · rw [upd2_iup, row_same]; exact iup_eq6 h6 rfl
  · rw [upd2_row (by omega)]; exact h7
  · rw [upd2_row (by omega)]; exact h8
  · rw [upd2_row (by omega)]; exact h9
  · rw [upd2_row (by omega)]; exact hg
  · first | (rw [upd2_row (by omega)]; exact hn) | (simp [upd2_ap]; exact hn)
theorem MoAt.set_hi {μ : Mu} {m : Nat} {t : BSt} {g : Int → Int} {n : Int} (h : MoAt μ m t g n) {z v : Int} : MoAt (upd2 μ (m + 6) z v) m (t.1, t.2.1, t.2.2.1, t.2.2.2.1, t.2.2.2.2.1, t.2.2.2.2.2.1, iup t.2.2.2.2.2.2.1 z v, t.2.2.2.2.2.2.2.1, t.2.2.2.2.2.2.2.2) g n := by
  obtain ⟨⟨h1, h2, h3, h4, h5, h6, h7, h8, h9⟩, hg, hn⟩ := h
  refine ⟨⟨?_, ?_, ?_, ?_, ?_, ?_, ?_, ?_, ?_⟩, ?_, ?_⟩
  · first | (rw [upd2_row (by omega)]; exact h1) | (simp [upd2_ap]; exact h1)
  · first | (rw [upd2_row (by omega)]; exact h2) | (simp [upd2_ap]; exact h2)
  · first | (rw [upd2_row (by omega)]; exact h3) | (simp [upd2_ap]; exact h3)
  · rw [upd2_row (by omega)]; exact h4
  · rw [upd2_row (by omega)]; exact h5
  · rw [upd2_row (by omega)]; exact h6
  · rw [upd2_iup, row_same]; exact iup_eq6 h7 rfl
  · rw [upd2_row (by omega)]; exact h8
  · rw [upd2_row (by omega)]; exact h9
  · rw [upd2_row (by omega)]; exact hg
  · first | (rw [upd2_row (by omega)]; exact hn) | (simp [upd2_ap]; exact hn)
theorem MoAt.set_tl {μ : Mu} {m : Nat} {t : BSt} {g : Int → Int} {n : Int} (h : MoAt μ m t g n) {z v : Int} : MoAt (upd2 μ (m + 4) z v) m (t.1, t.2.1, t.2.2.1, t.2.2.2.1, t.2.2.2.2.1, t.2.2.2.2.2.1, t.2.2.2.2.2.2.1, iup t.2.2.2.2.2.2.2.1 z v, t.2.2.2.2.2.2.2.2) g n := by
  obtain ⟨⟨h1, h2, h3, h4, h5, h6, h7, h8, h9⟩, hg, hn⟩ := h
  refine ⟨⟨?_, ?_, ?_, ?_, ?_, ?_, ?_, ?_, ?_⟩, ?_, ?_⟩
  · first | (rw [upd2_row (by omega)]; exact h1) | (simp [upd2_ap]; exact h1)
  · first | (rw [upd2_row (by omega)]; exact h2) | (simp [upd2_ap]; exact h2)
  · first | (rw [upd2_row (by omega)]; exact h3) | (simp [upd2_ap]; exact h3)
  · rw [upd2_row (by omega)]; exact h4
  · rw [upd2_row (by omega)]; exact h5
  · rw [upd2_row (by omega)]; exact h6
  · rw [upd2_row (by omega)]; exact h7
  · rw [upd2_iup, row_same]; exact iup_eq6 h8 rfl
  · rw [upd2_row (by omega)]; exact h9
  · rw [upd2_row (by omega)]; exact hg
  · first | (rw [upd2_row (by omega)]; exact hn) | (simp [upd2_ap]; exact hn)
theorem MoAt.set_wt {μ : Mu} {m : Nat} {t : BSt} {g : Int → Int} {n : Int} (h : MoAt μ m t g n) {z v : Int} : MoAt (upd2 μ (m + 7) z v) m (t.1, t.2.1, t.2.2.1, t.2.2.2.1, t.2.2.2.2.1, t.2.2.2.2.2.1, t.2.2.2.2.2.2.1, t.2.2.2.2.2.2.2.1, iup t.2.2.2.2.2.2.2.2 z v) g n := by
  obtain ⟨⟨h1, h2, h3, h4, h5, h6, h7, h8, h9⟩, hg, hn⟩ := h
  refine ⟨⟨?_, ?_, ?_, ?_, ?_, ?_, ?_, ?_, ?_⟩, ?_, ?_⟩
  · first | (rw [upd2_row (by omega)]; exact h1) | (simp [upd2_ap]; exact h1)
  · first | (rw [upd2_row (by omega)]; exact h2) | (simp [upd2_ap]; exact h2)
  · first | (rw [upd2_row (by omega)]; exact h3) | (simp [upd2_ap]; exact h3)
  · rw [upd2_row (by omega)]; exact h4
  · rw [upd2_row (by omega)]; exact h5
  · rw [upd2_row (by omega)]; exact h6
  · rw [upd2_row (by omega)]; exact h7
  · rw [upd2_row (by omega)]; exact h8
  · rw [upd2_iup, row_same]; exact iup_eq6 h9 rfl
  · rw [upd2_row (by omega)]; exact hg
  · first | (rw [upd2_row (by omega)]; exact hn) | (simp [upd2_ap]; exact hn)
theorem MoAt.set_n {μ : Mu} {m : Nat} {t : BSt} {g : Int → Int} {n : Int} (h : MoAt μ m t g n) {v : Int} : MoAt (upd2 μ (m) 0 v) m (v, t.2.1, t.2.2.1, t.2.2.2.1, t.2.2.2.2.1, t.2.2.2.2.2.1, t.2.2.2.2.2.2.1, t.2.2.2.2.2.2.2.1, t.2.2.2.2.2.2.2.2) g n := by
  obtain ⟨⟨h1, h2, h3, h4, h5, h6, h7, h8, h9⟩, hg, hn⟩ := h
  refine ⟨⟨?_, ?_, ?_, ?_, ?_, ?_, ?_, ?_, ?_⟩, ?_, ?_⟩
  · simp [upd2_ap]
  · first | (rw [upd2_row (by omega)]; exact h2) | (simp [upd2_ap]; exact h2)
  · first | (rw [upd2_row (by omega)]; exact h3) | (simp [upd2_ap]; exact h3)
  · rw [upd2_row (by omega)]; exact h4
  · rw [upd2_row (by omega)]; exact h5
  · rw [upd2_row (by omega)]; exact h6
  · rw [upd2_row (by omega)]; exact h7
  · rw [upd2_row (by omega)]; exact h8
  · rw [upd2_row (by omega)]; exact h9
  · rw [upd2_row (by omega)]; exact hg
  · first | (rw [upd2_row (by omega)]; exact hn) | (simp [upd2_ap]; exact hn)
theorem MoAt.set_c {μ : Mu} {m : Nat} {t : BSt} {g : Int → Int} {n : Int} (h : MoAt μ m t g n) {v : Int} : MoAt (upd2 μ (m) 3 v) m (t.1, v, t.2.2.1, t.2.2.2.1, t.2.2.2.2.1, t.2.2.2.2.2.1, t.2.2.2.2.2.2.1, t.2.2.2.2.2.2.2.1, t.2.2.2.2.2.2.2.2) g n := by
  obtain ⟨⟨h1, h2, h3, h4, h5, h6, h7, h8, h9⟩, hg, hn⟩ := h
  refine ⟨⟨?_, ?_, ?_, ?_, ?_, ?_, ?_, ?_, ?_⟩, ?_, ?_⟩
  · first | (rw [upd2_row (by omega)]; exact h1) | (simp [upd2_ap]; exact h1)
  · simp [upd2_ap]
  · first | (rw [upd2_row (by omega)]; exact h3) | (simp [upd2_ap]; exact h3)
  · rw [upd2_row (by omega)]; exact h4
  · rw [upd2_row (by omega)]; exact h5
  · rw [upd2_row (by omega)]; exact h6
  · rw [upd2_row (by omega)]; exact h7
  · rw [upd2_row (by omega)]; exact h8
  · rw [upd2_row (by omega)]; exact h9
  · rw [upd2_row (by omega)]; exact hg
  · first | (rw [upd2_row (by omega)]; exact hn) | (simp [upd2_ap]; exact hn)
theorem MoAt.set_l {μ : Mu} {m : Nat} {t : BSt} {g : Int → Int} {n : Int} (h : MoAt μ m t g n) {v : Int} : MoAt (upd2 μ (m) 9 v) m (t.1, t.2.1, v, t.2.2.2.1, t.2.2.2.2.1, t.2.2.2.2.2.1, t.2.2.2.2.2.2.1, t.2.2.2.2.2.2.2.1, t.2.2.2.2.2.2.2.2) g n := by
  obtain ⟨⟨h1, h2, h3, h4, h5, h6, h7, h8, h9⟩, hg, hn⟩ := h
  refine ⟨⟨?_, ?_, ?_, ?_, ?_, ?_, ?_, ?_, ?_⟩, ?_, ?_⟩
  · first | (rw [upd2_row (by omega)]; exact h1) | (simp [upd2_ap]; exact h1)
  · first | (rw [upd2_row (by omega)]; exact h2) | (simp [upd2_ap]; exact h2)
  · simp [upd2_ap]
  · rw [upd2_row (by omega)]; exact h4
  · rw [upd2_row (by omega)]; exact h5
  · rw [upd2_row (by omega)]; exact h6
  · rw [upd2_row (by omega)]; exact h7
  · rw [upd2_row (by omega)]; exact h8
  · rw [upd2_row (by omega)]; exact h9
  · rw [upd2_row (by omega)]; exact hg
  · first | (rw [upd2_row (by omega)]; exact hn) | (simp [upd2_ap]; exact hn)
theorem MoAt.set_g {μ : Mu} {m : Nat} {t : BSt} {g : Int → Int} {n : Int} (h : MoAt μ m t g n) {z v : Int} : MoAt (upd2 μ (m + 1) z v) m t (iup g z v) n := by
  obtain ⟨⟨h1, h2, h3, h4, h5, h6, h7, h8, h9⟩, hg, hn⟩ := h
  refine ⟨⟨?_, ?_, ?_, ?_, ?_, ?_, ?_, ?_, ?_⟩, ?_, ?_⟩
  · first | (rw [upd2_row (by omega)]; exact h1) | (simp [upd2_ap]; exact h1)
  · first | (rw [upd2_row (by omega)]; exact h2) | (simp [upd2_ap]; exact h2)
  · first | (rw [upd2_row (by omega)]; exact h3) | (simp [upd2_ap]; exact h3)
  · rw [upd2_row (by omega)]; exact h4
  · rw [upd2_row (by omega)]; exact h5
  · rw [upd2_row (by omega)]; exact h6
  · rw [upd2_row (by omega)]; exact h7
  · rw [upd2_row (by omega)]; exact h8
  · rw [upd2_row (by omega)]; exact h9
  · rw [upd2_iup, row_same, hg]
  · first | (rw [upd2_row (by omega)]; exact hn) | (simp [upd2_ap]; exact hn)
theorem MoAt.set_sz {μ : Mu} {m : Nat} {t : BSt} {g : Int → Int} {n : Int} (h : MoAt μ m t g n) {v : Int} : MoAt (upd2 μ (m) 1 v) m t g v := by
  obtain ⟨⟨h1, h2, h3, h4, h5, h6, h7, h8, h9⟩, hg, hn⟩ := h
  refine ⟨⟨?_, ?_, ?_, ?_, ?_, ?_, ?_, ?_, ?_⟩, ?_, ?_⟩
  · first | (rw [upd2_row (by omega)]; exact h1) | (simp [upd2_ap]; exact h1)
  · first | (rw [upd2_row (by omega)]; exact h2) | (simp [upd2_ap]; exact h2)
  · first | (rw [upd2_row (by omega)]; exact h3) | (simp [upd2_ap]; exact h3)
  · rw [upd2_row (by omega)]; exact h4
  · rw [upd2_row (by omega)]; exact h5
  · rw [upd2_row (by omega)]; exact h6
  · rw [upd2_row (by omega)]; exact h7
  · rw [upd2_row (by omega)]; exact h8
  · rw [upd2_row (by omega)]; exact h9
  · rw [upd2_row (by omega)]; exact hg
  · simp [upd2_ap]
theorem LsAt.set_L {μ : Mu} {x : Nat} {t : BSt} {g : Int → Int} {n : Int} (h : LsAt μ x t g n) {z v : Int} : LsAt (upd2 μ (x + 3 + 14) z v) x (t.1, t.2.1, t.2.2.1, t.2.2.2.1, iup t.2.2.2.2.1 z v, t.2.2.2.2.2.1, t.2.2.2.2.2.2.1, t.2.2.2.2.2.2.2.1, t.2.2.2.2.2.2.2.2) g n := by
  obtain ⟨⟨h1, h2, h3, h4, h5, h6, h7, h8, h9⟩, hg, hn⟩ := h
  refine ⟨⟨?_, ?_, ?_, ?_, ?_, ?_, ?_, ?_, ?_⟩, ?_, ?_⟩
  · first | (rw [upd2_row (by omega)]; exact h1) | (simp [upd2_ap]; exact h1)
  · first | (rw [upd2_row (by omega)]; exact h2) | (simp [upd2_ap]; exact h2)
  · first | (rw [upd2_row (by omega)]; exact h3) | (simp [upd2_ap]; exact h3)
  · intro i hi j j0 j5; rw [upd2_row (by omega)]; exact h4 i hi j j0 j5
  · rw [upd2_iup, row_same]; exact iup_eq6 h5 rfl
  · rw [upd2_row (by omega)]; exact h6
  · rw [upd2_row (by omega)]; exact h7
  · rw [upd2_row (by omega)]; exact h8
  · rw [upd2_row (by omega)]; exact h9
  · rw [upd2_row (by omega)]; exact hg
  · first | (rw [upd2_row (by omega)]; exact hn) | (simp [upd2_ap]; exact hn)
theorem LsAt.set_lo {μ : Mu} {x : Nat} {t : BSt} {g : Int → Int} {n : Int} (h : LsAt μ x t g n) {z v : Int} : LsAt (upd2 μ (x + 3 + 15) z v) x (t.1, t.2.1, t.2.2.1, t.2.2.2.1, t.2.2.2.2.1, iup t.2.2.2.2.2.1 z v, t.2.2.2.2.2.2.1, t.2.2.2.2.2.2.2.1, t.2.2.2.2.2.2.2.2) g n := by
  obtain ⟨⟨h1, h2, h3, h4, h5, h6, h7, h8, h9⟩, hg, hn⟩ := h
  refine ⟨⟨?_, ?_, ?_, ?_, ?_, ?_, ?_, ?_, ?_⟩, ?_, ?_⟩
  · first | (rw [upd2_row (by omega)]; exact h1) | (simp [upd2_ap]; exact h1)
  · first | (rw [upd2_row (by omega)]; exact h2) | (simp [upd2_ap]; exact h2)
  · first | (rw [upd2_row (by omega)]; exact h3) | (simp [upd2_ap]; exact h3)
  · intro i hi j j0 j5; rw [upd2_row (by omega)]; exact h4 i hi j j0 j5
  · rw [upd2_row (by omega)]; exact h5
  · rw [upd2_iup, row_same]; exact iup_eq6 h6 rfl
  · rw [upd2_row (by omega)]; exact h7
  · rw [upd2_row (by omega)]; exact h8
  · rw [upd2_row (by omega)]; exact h9
  · rw [upd2_row (by omega)]; exact hg
  · first | (rw [upd2_row (by omega)]; exact hn) | (simp [upd2_ap]; exact hn)
theorem LsAt.set_hi {μ : Mu} {x : Nat} {t : BSt} {g : Int → Int} {n : Int} (h : LsAt μ x t g n) {z v : Int} : LsAt (upd2 μ (x + 3 + 16) z v) x (t.1, t.2.1, t.2.2.1, t.2.2.2.1, t.2.2.2.2.1, t.2.2.2.2.2.1, iup t.2.2.2.2.2.2.1 z v, t.2.2.2.2.2.2.2.1, t.2.2.2.2.2.2.2.2) g n := by
  obtain ⟨⟨h1, h2, h3, h4, h5, h6, h7, h8, h9⟩, hg, hn⟩ := h
  refine ⟨⟨?_, ?_, ?_, ?_, ?_, ?_, ?_, ?_, ?_⟩, ?_, ?_⟩
  · first | (rw [upd2_row (by omega)]; exact h1) | (simp [upd2_ap]; exact h1)
  · first | (rw [upd2_row (by omega)]; exact h2) | (simp [upd2_ap]; exact h2)
  · first | (rw [upd2_row (by omega)]; exact h3) | (simp [upd2_ap]; exact h3)
  · intro i hi j j0 j5; rw [upd2_row (by omega)]; exact h4 i hi j j0 j5
  · rw [upd2_row (by omega)]; exact h5
  · rw [upd2_row (by omega)]; exact h6
  · rw [upd2_iup, row_same]; exact iup_eq6 h7 rfl
  · rw [upd2_row (by omega)]; exact h8
  · rw [upd2_row (by omega)]; exact h9
  · rw [upd2_row (by omega)]; exact hg
  · first | (rw [upd2_row (by omega)]; exact hn) | (simp [upd2_ap]; exact hn)
theorem LsAt.set_tl {μ : Mu} {x : Nat} {t : BSt} {g : Int → Int} {n : Int} (h : LsAt μ x t g n) {z v : Int} : LsAt (upd2 μ (x + 3 + 17) z v) x (t.1, t.2.1, t.2.2.1, t.2.2.2.1, t.2.2.2.2.1, t.2.2.2.2.2.1, t.2.2.2.2.2.2.1, iup t.2.2.2.2.2.2.2.1 z v, t.2.2.2.2.2.2.2.2) g n := by
  obtain ⟨⟨h1, h2, h3, h4, h5, h6, h7, h8, h9⟩, hg, hn⟩ := h
  refine ⟨⟨?_, ?_, ?_, ?_, ?_, ?_, ?_, ?_, ?_⟩, ?_, ?_⟩
  · first | (rw [upd2_row (by omega)]; exact h1) | (simp [upd2_ap]; exact h1)
  · first | (rw [upd2_row (by omega)]; exact h2) | (simp [upd2_ap]; exact h2)
  · first | (rw [upd2_row (by omega)]; exact h3) | (simp [upd2_ap]; exact h3)
  · intro i hi j j0 j5; rw [upd2_row (by omega)]; exact h4 i hi j j0 j5
  · rw [upd2_row (by omega)]; exact h5
  · rw [upd2_row (by omega)]; exact h6
  · rw [upd2_row (by omega)]; exact h7
  · rw [upd2_iup, row_same]; exact iup_eq6 h8 rfl
  · rw [upd2_row (by omega)]; exact h9
  · rw [upd2_row (by omega)]; exact hg
  · first | (rw [upd2_row (by omega)]; exact hn) | (simp [upd2_ap]; exact hn)
theorem LsAt.set_wt {μ : Mu} {x : Nat} {t : BSt} {g : Int → Int} {n : Int} (h : LsAt μ x t g n) {z v : Int} : LsAt (upd2 μ (x + 3 + 18) z v) x (t.1, t.2.1, t.2.2.1, t.2.2.2.1, t.2.2.2.2.1, t.2.2.2.2.2.1, t.2.2.2.2.2.2.1, t.2.2.2.2.2.2.2.1, iup t.2.2.2.2.2.2.2.2 z v) g n := by
  obtain ⟨⟨h1, h2, h3, h4, h5, h6, h7, h8, h9⟩, hg, hn⟩ := h
  refine ⟨⟨?_, ?_, ?_, ?_, ?_, ?_, ?_, ?_, ?_⟩, ?_, ?_⟩
  · first | (rw [upd2_row (by omega)]; exact h1) | (simp [upd2_ap]; exact h1)
  · first | (rw [upd2_row (by omega)]; exact h2) | (simp [upd2_ap]; exact h2)
  · first | (rw [upd2_row (by omega)]; exact h3) | (simp [upd2_ap]; exact h3)
  · intro i hi j j0 j5; rw [upd2_row (by omega)]; exact h4 i hi j j0 j5
  · rw [upd2_row (by omega)]; exact h5
  · rw [upd2_row (by omega)]; exact h6
  · rw [upd2_row (by omega)]; exact h7
  · rw [upd2_row (by omega)]; exact h8
  · rw [upd2_iup, row_same]; exact iup_eq6 h9 rfl
  · rw [upd2_row (by omega)]; exact hg
  · first | (rw [upd2_row (by omega)]; exact hn) | (simp [upd2_ap]; exact hn)
theorem LsAt.set_n {μ : Mu} {x : Nat} {t : BSt} {g : Int → Int} {n : Int} (h : LsAt μ x t g n) {v : Int} : LsAt (upd2 μ (x + 3) 6 v) x (v, t.2.1, t.2.2.1, t.2.2.2.1, t.2.2.2.2.1, t.2.2.2.2.2.1, t.2.2.2.2.2.2.1, t.2.2.2.2.2.2.2.1, t.2.2.2.2.2.2.2.2) g n := by
  obtain ⟨⟨h1, h2, h3, h4, h5, h6, h7, h8, h9⟩, hg, hn⟩ := h
  refine ⟨⟨?_, ?_, ?_, ?_, ?_, ?_, ?_, ?_, ?_⟩, ?_, ?_⟩
  · simp [upd2_ap]
  · first | (rw [upd2_row (by omega)]; exact h2) | (simp [upd2_ap]; exact h2)
  · first | (rw [upd2_row (by omega)]; exact h3) | (simp [upd2_ap]; exact h3)
  · intro i hi j j0 j5; rw [upd2_row (by omega)]; exact h4 i hi j j0 j5
  · rw [upd2_row (by omega)]; exact h5
  · rw [upd2_row (by omega)]; exact h6
  · rw [upd2_row (by omega)]; exact h7
  · rw [upd2_row (by omega)]; exact h8
  · rw [upd2_row (by omega)]; exact h9
  · rw [upd2_row (by omega)]; exact hg
  · first | (rw [upd2_row (by omega)]; exact hn) | (simp [upd2_ap]; exact hn)
theorem LsAt.set_c {μ : Mu} {x : Nat} {t : BSt} {g : Int → Int} {n : Int} (h : LsAt μ x t g n) {v : Int} : LsAt (upd2 μ (x + 3) 7 v) x (t.1, v, t.2.2.1, t.2.2.2.1, t.2.2.2.2.1, t.2.2.2.2.2.1, t.2.2.2.2.2.2.1, t.2.2.2.2.2.2.2.1, t.2.2.2.2.2.2.2.2) g n := by
  obtain ⟨⟨h1, h2, h3, h4, h5, h6, h7, h8, h9⟩, hg, hn⟩ := h
  refine ⟨⟨?_, ?_, ?_, ?_, ?_, ?_, ?_, ?_, ?_⟩, ?_, ?_⟩
  · first | (rw [upd2_row (by omega)]; exact h1) | (simp [upd2_ap]; exact h1)
  · simp [upd2_ap]
  · first | (rw [upd2_row (by omega)]; exact h3) | (simp [upd2_ap]; exact h3)
  · intro i hi j j0 j5; rw [upd2_row (by omega)]; exact h4 i hi j j0 j5
  · rw [upd2_row (by omega)]; exact h5
  · rw [upd2_row (by omega)]; exact h6
  · rw [upd2_row (by omega)]; exact h7
  · rw [upd2_row (by omega)]; exact h8
  · rw [upd2_row (by omega)]; exact h9
  · rw [upd2_row (by omega)]; exact hg
  · first | (rw [upd2_row (by omega)]; exact hn) | (simp [upd2_ap]; exact hn)
theorem LsAt.set_l {μ : Mu} {x : Nat} {t : BSt} {g : Int → Int} {n : Int} (h : LsAt μ x t g n) {v : Int} : LsAt (upd2 μ (x + 3) 8 v) x (t.1, t.2.1, v, t.2.2.2.1, t.2.2.2.2.1, t.2.2.2.2.2.1, t.2.2.2.2.2.2.1, t.2.2.2.2.2.2.2.1, t.2.2.2.2.2.2.2.2) g n := by
  obtain ⟨⟨h1, h2, h3, h4, h5, h6, h7, h8, h9⟩, hg, hn⟩ := h
  refine ⟨⟨?_, ?_, ?_, ?_, ?_, ?_, ?_, ?_, ?_⟩, ?_, ?_⟩
  · first | (rw [upd2_row (by omega)]; exact h1) | (simp [upd2_ap]; exact h1)
  · first | (rw [upd2_row (by omega)]; exact h2) | (simp [upd2_ap]; exact h2)
  · simp [upd2_ap]
  · intro i hi j j0 j5; rw [upd2_row (by omega)]; exact h4 i hi j j0 j5
  · rw [upd2_row (by omega)]; exact h5
  · rw [upd2_row (by omega)]; exact h6
  · rw [upd2_row (by omega)]; exact h7
  · rw [upd2_row (by omega)]; exact h8
  · rw [upd2_row (by omega)]; exact h9
  · rw [upd2_row (by omega)]; exact hg
  · first | (rw [upd2_row (by omega)]; exact hn) | (simp [upd2_ap]; exact hn)
theorem LsAt.set_g {μ : Mu} {x : Nat} {t : BSt} {g : Int → Int} {n : Int} (h : LsAt μ x t g n) {z v : Int} : LsAt (upd2 μ (x + 1 + 1) z v) x t (iup g z v) n := by
  obtain ⟨⟨h1, h2, h3, h4, h5, h6, h7, h8, h9⟩, hg, hn⟩ := h
  refine ⟨⟨?_, ?_, ?_, ?_, ?_, ?_, ?_, ?_, ?_⟩, ?_, ?_⟩
  · first | (rw [upd2_row (by omega)]; exact h1) | (simp [upd2_ap]; exact h1)
  · first | (rw [upd2_row (by omega)]; exact h2) | (simp [upd2_ap]; exact h2)
  · first | (rw [upd2_row (by omega)]; exact h3) | (simp [upd2_ap]; exact h3)
  · intro i hi j j0 j5; rw [upd2_row (by omega)]; exact h4 i hi j j0 j5
  · rw [upd2_row (by omega)]; exact h5
  · rw [upd2_row (by omega)]; exact h6
  · rw [upd2_row (by omega)]; exact h7
  · rw [upd2_row (by omega)]; exact h8
  · rw [upd2_row (by omega)]; exact h9
  · rw [upd2_iup, row_same, hg]
  · first | (rw [upd2_row (by omega)]; exact hn) | (simp [upd2_ap]; exact hn)
theorem LsAt.set_sz {μ : Mu} {x : Nat} {t : BSt} {g : Int → Int} {n : Int} (h : LsAt μ x t g n) {v : Int} : LsAt (upd2 μ (x + 1) 1 v) x t g v := by
  obtain ⟨⟨h1, h2, h3, h4, h5, h6, h7, h8, h9⟩, hg, hn⟩ := h
  refine ⟨⟨?_, ?_, ?_, ?_, ?_, ?_, ?_, ?_, ?_⟩, ?_, ?_⟩
  · first | (rw [upd2_row (by omega)]; exact h1) | (simp [upd2_ap]; exact h1)
  · first | (rw [upd2_row (by omega)]; exact h2) | (simp [upd2_ap]; exact h2)
  · first | (rw [upd2_row (by omega)]; exact h3) | (simp [upd2_ap]; exact h3)
  · intro i hi j j0 j5; rw [upd2_row (by omega)]; exact h4 i hi j j0 j5
  · rw [upd2_row (by omega)]; exact h5
  · rw [upd2_row (by omega)]; exact h6
  · rw [upd2_row (by omega)]; exact h7
  · rw [upd2_row (by omega)]; exact h8
  · rw [upd2_row (by omega)]; exact h9
  · rw [upd2_row (by omega)]; exact hg
  · simp [upd2_ap]
/-- ranges: B bounds the lifts -/
def StOk (t : BSt) (B : Int) : Prop := (2 ≤ t.1 ∧ t.1 ≤ 6) ∧ (0 ≤ t.2.1 ∧ t.2.1 ≤ 12) ∧ (0 ≤ t.2.2.1 ∧ t.2.2.1 ≤ 20) ∧ (∀ k : Int, 0 ≤ k → k < t.2.1 → (0 ≤ t.2.2.2.1 (5 * k) ∧ t.2.2.2.1 (5 * k) < t.1) ∧ (0 ≤ t.2.2.2.1 (5 * k + 1) ∧ t.2.2.2.1 (5 * k + 1) < t.1) ∧ t.2.2.2.1 (5 * k) ≠ t.2.2.2.1 (5 * k + 1) ∧ (0 ≤ t.2.2.2.1 (5 * k + 2) ∧ t.2.2.2.1 (5 * k + 2) ≤ 2) ∧ (0 ≤ t.2.2.2.1 (5 * k + 3) ∧ t.2.2.2.1 (5 * k + 3) ≤ B) ∧ (0 ≤ t.2.2.2.1 (5 * k + 4) ∧ t.2.2.2.1 (5 * k + 4) ≤ B)) ∧ ∀ i : Int, 0 ≤ i → i < 6 → (0 ≤ t.2.2.2.2.1 i ∧ t.2.2.2.2.1 i ≤ B) ∧ (0 ≤ t.2.2.2.2.2.1 i ∧ t.2.2.2.2.2.1 i ≤ t.2.2.2.2.2.2.1 i ∧ t.2.2.2.2.2.2.1 i ≤ 999) ∧ (0 ≤ t.2.2.2.2.2.2.2.1 i ∧ t.2.2.2.2.2.2.2.1 i ≤ 99) ∧ (0 ≤ t.2.2.2.2.2.2.2.2 i ∧ t.2.2.2.2.2.2.2.2 i ≤ 99)
def PadOk (g : Int → Int) (n : Int) : Prop := (0 ≤ n ∧ n ≤ 40) ∧ ∀ i : Int, 0 ≤ i → i < 40 → -1000 ≤ g i ∧ g i ≤ 1000
def sp_sacks (t : BSt) (a : Int) : Int × BSt := if 2 ≤ a ∧ a ≤ 6 then (t.1, (a, 0, t.2.2.1, t.2.2.2.1, (fun _ => 0), (fun _ => 0), (fun _ => 999), t.2.2.2.2.2.2.2.1, t.2.2.2.2.2.2.2.2)) else (-2, t)
def sp_say (g : Int → Int) (n a : Int) : Int × (Int → Int) × Int := if 33 ≤ a ∧ a ≤ 126 then (if n = 40 then (-4, g, n) else (n + 1, iup g n a, n + 1)) else (-2, g, n)
noncomputable def sp_fault (t : BSt) (g : Int → Int) (n : Int) : Int := ffd g t.1 n 41 0
def sp_lnd (t : BSt) (g : Int → Int) (n : Int) : LSt := lnd g n 41 2 (t.2.2.2.1, iup t.2.2.2.2.1 (g 0 - 97) (t.2.2.2.2.1 (g 0 - 97) + 1), t.2.1)
noncomputable def sp_line (t : BSt) (g : Int → Int) (n : Int) : Int × BSt × Int := if 0 ≤ sp_fault t g n then (-5, t, n) else if 12 < t.2.1 + n / 2 then (-4, t, n) else ((sp_lnd t g n).2.2, (t.1, (sp_lnd t g n).2.2, t.2.2.1, (sp_lnd t g n).1, (sp_lnd t g n).2.1, t.2.2.2.2.2.1, t.2.2.2.2.2.2.1, t.2.2.2.2.2.2.2.1, t.2.2.2.2.2.2.2.2), 0)
def sp_strike (t : BSt) : Int × BSt := if t.2.1 = 0 then (-5, t) else (t.2.1 - 1, (t.1, t.2.1 - 1, t.2.2.1, t.2.2.2.1, t.2.2.2.2.1, t.2.2.2.2.2.1, t.2.2.2.2.2.2.1, t.2.2.2.2.2.2.2.1, t.2.2.2.2.2.2.2.2))
def sp_saying (t : BSt) (i w : Int) : Int := if 0 ≤ i ∧ i < t.2.1 then (if 0 ≤ w ∧ w ≤ 4 then t.2.2.2.1 (5 * i + w) else -2) else -1
def sp_toll (t : BSt) (r v : Int) : Int × BSt := if (0 ≤ r ∧ r ≤ 5) ∧ 0 ≤ v ∧ v ≤ 99 then (t.2.2.2.2.2.2.2.1 r, (t.1, t.2.1, t.2.2.1, t.2.2.2.1, t.2.2.2.2.1, t.2.2.2.2.2.1, t.2.2.2.2.2.2.1, iup t.2.2.2.2.2.2.2.1 r v, t.2.2.2.2.2.2.2.2)) else (-2, t)
def sp_known (t : BSt) (s a b : Int) : Int × BSt := if 0 ≤ s ∧ s < t.1 then (if 0 ≤ a ∧ a ≤ b ∧ b ≤ 999 then (1, (t.1, t.2.1, t.2.2.1, t.2.2.2.1, t.2.2.2.2.1, iup t.2.2.2.2.2.1 s a, iup t.2.2.2.2.2.2.1 s b, t.2.2.2.2.2.2.2.1, t.2.2.2.2.2.2.2.2)) else (-2, t)) else (-1, t)
def sp_loss (t : BSt) (v : Int) : Int × BSt := if 0 ≤ v ∧ v ≤ 20 then (t.2.2.1, (t.1, t.2.1, v, t.2.2.2.1, t.2.2.2.2.1, t.2.2.2.2.2.1, t.2.2.2.2.2.2.1, t.2.2.2.2.2.2.2.1, t.2.2.2.2.2.2.2.2)) else (-2, t)
def sp_weight (t : BSt) (s v : Int) : Int × BSt := if 0 ≤ s ∧ s < t.1 then (if 0 ≤ v ∧ v ≤ 99 then (t.2.2.2.2.2.2.2.2 s, (t.1, t.2.1, t.2.2.1, t.2.2.2.1, t.2.2.2.2.1, t.2.2.2.2.2.1, t.2.2.2.2.2.2.1, t.2.2.2.2.2.2.2.1, iup t.2.2.2.2.2.2.2.2 s v)) else (-2, t)) else (-1, t)
def sp_told (t : BSt) (n w : Int) : Int := if w = 0 then n else if w = 1 then t.1 else if w = 2 then t.2.1 else if w = 3 then t.2.2.1 else if 10 ≤ w ∧ w ≤ 15 then t.2.2.2.2.2.2.2.1 (w - 10) else if 20 ≤ w ∧ w < 20 + t.1 then t.2.2.2.2.2.2.2.2 (w - 20) else if 30 ≤ w ∧ w < 30 + t.1 then t.2.2.2.2.1 (w - 30) else if 40 ≤ w ∧ w < 40 + t.1 then t.2.2.2.2.2.1 (w - 40) else if 50 ≤ w ∧ w < 50 + t.1 then t.2.2.2.2.2.2.1 (w - 50) else -2
end
section
/-! the plain calls of the model -/
section MOD1
variable {l : Launch} {G : Glb} {S : Sh} {μ : Mu} {m : Nat} {t : BSt} {g : Int → Int} {n : Int}
set_option maxHeartbeats 4000000 in
set_option maxRecDepth 100000 in
theorem c_X8_in {v a b : Int} (hv : (-2147483648 ≤ v ∧ v < 2147483648)) (ha : (-2147483648 ≤ a ∧ a < 2147483648)) (hb : (-2147483648 ≤ b ∧ b < 2147483648)) : Ct l G cX8_in (yX8_in, 3, (some FieldType.boolean), 0, 0, 0) [vi v, vi a, vi b] S μ (Ri S (b2i (a ≤ v ∧ v ≤ b)) μ) := by
  refine Ct.of (by decide) rfl (by simp [vi, Value.category]) (Nat.le_of_ble_eq_true rfl) ?_
  refine v_iload_n aX8_in_0 rfl ?_
  refine v_iload_n aX8_in_1 rfl ?_
  refine v_icmp_lt 14 rfl aX8_in_2 (by omega) (by omega) (fun c2 => ?_) (fun c2 => ?_)
  · --
    refine v_iconst aX8_in_14 ?_
    refine v_zreturn aX8_in_15 rfl ⟨Nat.le_refl _, Nat.le_refl _⟩ (by first | exact Or.inl rfl | exact Or.inr rfl | exact b2i_01 | omega) ?_
    first
      | exact ⟨by rw [b2i_t (by omega)], rfl, rfl⟩
      | exact ⟨by rw [b2i_f (by omega)], rfl, rfl⟩
  · --
    refine v_iload_n aX8_in_5 rfl ?_
    refine v_iload_n aX8_in_6 rfl ?_
    refine v_icmp_gt 14 rfl aX8_in_7 (by omega) (by omega) (fun c7 => ?_) (fun c7 => ?_)
    · --
      refine v_iconst aX8_in_14 ?_
      refine v_zreturn aX8_in_15 rfl ⟨Nat.le_refl _, Nat.le_refl _⟩ (by first | exact Or.inl rfl | exact Or.inr rfl | exact b2i_01 | omega) ?_
      first
        | exact ⟨by rw [b2i_t (by omega)], rfl, rfl⟩
        | exact ⟨by rw [b2i_f (by omega)], rfl, rfl⟩
    · --
      refine v_iconst aX8_in_10 ?_
      refine v_goto 15 rfl aX8_in_11 ?_
      refine v_zreturn aX8_in_15 rfl ⟨Nat.le_refl _, Nat.le_refl _⟩ (by first | exact Or.inl rfl | exact Or.inr rfl | exact b2i_01 | omega) ?_
      first
        | exact ⟨by rw [b2i_t (by omega)], rfl, rfl⟩
        | exact ⟨by rw [b2i_f (by omega)], rfl, rfl⟩
set_option maxHeartbeats 4000000 in
set_option maxRecDepth 100000 in
theorem c_X8_isSack {s : Int} (hM : ModS S m) (hs : (-2147483648 ≤ s ∧ s < 2147483648)) (hn : 0 ≤ μ m 0 ∧ μ m 0 ≤ 6) : Ct l G cX8_isSack (yX8_isSack, 2, (some FieldType.boolean), 1, 0, 0) [.ref m, vi s] S μ (Ri S (b2i (0 ≤ s ∧ s < μ m 0)) μ) := by
  refine Ct.of (by decide) rfl (by simp [vi, Value.category]) (Nat.le_of_ble_eq_true rfl) ?_
  refine v_iload_n aX8_isSack_0 rfl ?_
  refine v_iconst aX8_isSack_1 ?_
  refine v_aload_n aX8_isSack_2 rfl ?_
  refine v_gi 0 rfl aX8_isSack_3 fX8_7 hM.p rfl rfl ?_
  refine v_iconst aX8_isSack_6 ?_
  refine v_isub aX8_isSack_7 ?_
  refine v_cSi (c_X8_in (by omega) (by omega) (by omega)) aX8_isSack_8 mX8_in sX8_in lX8_79 rfl rfl (Nat.le_of_ble_eq_true rfl) ⟨Nat.le_of_ble_eq_true rfl, Nat.le_of_ble_eq_true rfl⟩ (Nat.le_of_ble_eq_true rfl) ?_
  refine v_zreturn aX8_isSack_11 rfl ⟨Nat.le_refl _, Nat.le_refl _⟩ (by first | exact Or.inl rfl | exact Or.inr rfl | exact b2i_01 | omega) ?_
  exact ⟨congrArg (fun z => some (vi z)) (b2i_c (by omega)), rfl, rfl⟩
set_option maxHeartbeats 4000000 in
set_option maxRecDepth 100000 in
theorem l_X8_sacks {μ0 : Mu} {a w : Int} {P : Pst} (hM : ModS S m) (hp : ∀ μ : Mu, (∀ q : Nat, q ≠ m + 3 → q ≠ m + 5 → q ≠ m + 6 → μ q = μ0 q) → (∀ j : Int, 0 ≤ j → j < 6 → μ (m + 3) j = 0 ∧ μ (m + 5) j = 0 ∧ μ (m + 6) j = 999) → P (some (vi w)) S μ) : ∀ (k : Nat) (i : Int) (μ : Mu), (0 ≤ i ∧ i ≤ 6) → 6 - i < k → (∀ q : Nat, q ≠ m + 3 → q ≠ m + 5 → q ≠ m + 6 → μ q = μ0 q) → (∀ j : Int, 0 ≤ j → j < i → μ (m + 3) j = 0 ∧ μ (m + 5) j = 0 ∧ μ (m + 6) j = 999) → V l G cX8_sacks (yX8_sacks, 4, (some FieldType.int), 1, 0, 0) P (0, 0) S μ 30 [.ref m, vi a, vi w, vi i] [] := by
  intro k
  induction k with
  | zero => intro i μ h0 h1; omega
  | succ k ih =>
    intro i μ h0 h1 hq hj
    refine v_iload_n aX8_sacks_30 rfl ?_
    refine v_bipush (by decide) aX8_sacks_31 ?_
    refine v_icmp_ge 65 rfl aX8_sacks_33 (by omega) (by omega) (fun c33 => ?_) (fun c33 => ?_)
    · --
      refine v_iload_n aX8_sacks_65 rfl ?_
      refine v_ireturn aX8_sacks_66 rfl ⟨Nat.le_refl _, Nat.le_refl _⟩ ?_
      exact hp _ hq (fun j j0 j1 => hj j j0 (by omega))
    · --
      refine v_aload_n aX8_sacks_36 rfl ?_
      refine v_getr aX8_sacks_37 fX8_20 hM.p rfl rfl ?_
      refine v_iload_n aX8_sacks_40 rfl ?_
      refine v_iconst aX8_sacks_41 ?_
      refine v_iast aX8_sacks_42 hM.p_lifts (by omega) (by decide) ?_
      refine v_aload_n aX8_sacks_43 rfl ?_
      refine v_getr aX8_sacks_44 fX8_26 hM.p rfl rfl ?_
      refine v_iload_n aX8_sacks_47 rfl ?_
      refine v_iconst aX8_sacks_48 ?_
      refine v_iast aX8_sacks_49 hM.p_low (by omega) (by decide) ?_
      refine v_aload_n aX8_sacks_50 rfl ?_
      refine v_getr aX8_sacks_51 fX8_29 hM.p rfl rfl ?_
      refine v_iload_n aX8_sacks_54 rfl ?_
      refine v_sipush (by decide) aX8_sacks_55 ?_
      refine v_iast aX8_sacks_58 hM.p_high (by omega) (by decide) ?_
      refine v_iinc aX8_sacks_59 rfl (by decide) rfl ?_
      refine v_goto 30 rfl aX8_sacks_62 ?_
      refine ih (i + 1) _ (by omega) (by omega) (fun q e1 e2 e3 => ?_) (fun j j0 j1 => ?_)
      · rw [upd2_row e3, upd2_row e2, upd2_row e1]; exact hq q e1 e2 e3
      · by_cases e : j = i
        · subst e; simp [upd2_ap]
        · have := hj j j0 (by omega)
          simp [upd2_ap, e, this]
set_option maxHeartbeats 4000000 in
set_option maxRecDepth 100000 in
theorem c_X8_sacks {a : Int} (hM : ModS S m) (h : MoAt μ m t g n) (ha : (-2147483648 ≤ a ∧ a < 2147483648)) : Ct l G cX8_sacks (yX8_sacks, 4, (some FieldType.int), 1, 0, 0) [.ref m, vi a] S μ (Re S (fun z μ' => z = (sp_sacks t a).1 ∧ MoAt μ' m (sp_sacks t a).2 g n ∧ Out μ μ' m 22)) := by
  have f0 : μ m 0 = t.1 := h.1.1
  have f3 : μ m 3 = t.2.1 := h.1.2.1
  have f9 : μ m 9 = t.2.2.1 := h.1.2.2.1
  have f1 : μ m 1 = n := h.2.2
  refine Ct.of (by decide) rfl (by simp [vi, Value.category]) (Nat.le_of_ble_eq_true rfl) ?_
  refine v_iload_n aX8_sacks_0 rfl ?_
  refine v_iconst aX8_sacks_1 ?_
  refine v_bipush (by decide) aX8_sacks_2 ?_
  refine v_cSi (c_X8_in (by omega) (by omega) (by omega)) aX8_sacks_4 mX8_in sX8_in lX8_79 rfl rfl (Nat.le_of_ble_eq_true rfl) ⟨Nat.le_of_ble_eq_true rfl, Nat.le_of_ble_eq_true rfl⟩ (Nat.le_of_ble_eq_true rfl) ?_
  refine v_if_ne_b 13 rfl aX8_sacks_7 (fun c7 => ?_) (fun c7 => ?_)
  · --
    refine v_aload_n aX8_sacks_13 rfl ?_
    refine v_gi 0 rfl aX8_sacks_14 fX8_7 hM.p rfl rfl ?_
    rw [f0]
    refine v_istore_n aX8_sacks_17 (by decide) rfl ?_
    refine v_aload_n aX8_sacks_18 rfl ?_
    refine v_iload_n aX8_sacks_19 rfl ?_
    refine v_pi 0 rfl aX8_sacks_20 fX8_7 nf8_0 ok8_0 hM.p rfl rfl ?_
    refine v_aload_n aX8_sacks_23 rfl ?_
    refine v_iconst aX8_sacks_24 ?_
    refine v_pi 3 rfl aX8_sacks_25 fX8_83 nf8_3 ok8_3 hM.p rfl rfl ?_
    refine v_iconst aX8_sacks_28 ?_
    refine v_istore_n aX8_sacks_29 (by decide) rfl ?_
    unfold sp_sacks
    rw [if_pos c7]
    refine l_X8_sacks (μ0 := upd2 (upd2 μ m 0 a) m 3 0) hM (fun μ' h1 h2 => ⟨_, rfl, rfl, rfl, ?_, ?_⟩) 7 0 _ (by omega) (by omega) (fun _ _ _ _ => rfl) (fun j j0 j1 => by omega)
    · obtain ⟨⟨t1, t2, t3, t4, t5, t6, t7, t8, t9⟩, tg, tn⟩ := h
      refine ⟨⟨?_, ?_, ?_, fun z z0 z6 => ?_, fun j j0 j6 => (h2 j j0 j6).1, fun j j0 j6 => (h2 j j0 j6).2.1, fun j j0 j6 => (h2 j j0 j6).2.2, ?_, ?_⟩, ?_, ?_⟩
      · rw [h1 m (by omega) (by omega) (by omega)]; simp [upd2_ap]
      · rw [h1 m (by omega) (by omega) (by omega)]; simp [upd2_ap]
      · rw [h1 m (by omega) (by omega) (by omega)]; simp [upd2_ap, t3]
      · rw [h1 _ (by omega) (by omega) (by omega), upd2_row (by omega), upd2_row (by omega)]; exact t4 z z0 z6
      · rw [h1 _ (by omega) (by omega) (by omega), upd2_row (by omega), upd2_row (by omega)]; exact t8
      · rw [h1 _ (by omega) (by omega) (by omega), upd2_row (by omega), upd2_row (by omega)]; exact t9
      · rw [h1 _ (by omega) (by omega) (by omega), upd2_row (by omega), upd2_row (by omega)]; exact tg
      · rw [h1 m (by omega) (by omega) (by omega)]; simp [upd2_ap, tn]
    · intro q hq
      rw [h1 _ (by omega) (by omega) (by omega), upd2_row (by omega), upd2_row (by omega)]
  · --
    refine v_bipush (by decide) aX8_sacks_10 ?_
    refine v_ireturn aX8_sacks_12 rfl ⟨Nat.le_refl _, Nat.le_refl _⟩ ?_
    rw [show sp_sacks t a = (-2, t) from if_neg c7]
    exact ⟨_, rfl, rfl, rfl, h, Out.rf⟩
set_option maxHeartbeats 4000000 in
set_option maxRecDepth 100000 in
theorem c_X8_say {a : Int} (hM : ModS S m) (h : MoAt μ m t g n) (ha : (-2147483648 ≤ a ∧ a < 2147483648)) (hp : PadOk g n) : Ct l G cX8_say (yX8_say, 2, (some FieldType.int), 1, 0, 0) [.ref m, vi a] S μ (Re S (fun z μ' => z = (sp_say g n a).1 ∧ MoAt μ' m t (sp_say g n a).2.1 (sp_say g n a).2.2 ∧ Out μ μ' m 22)) := by
  have f0 : μ m 0 = t.1 := h.1.1
  have f3 : μ m 3 = t.2.1 := h.1.2.1
  have f9 : μ m 9 = t.2.2.1 := h.1.2.2.1
  have f1 : μ m 1 = n := h.2.2
  have hn := hp.1
  refine Ct.of (by decide) rfl (by simp [vi, Value.category]) (Nat.le_of_ble_eq_true rfl) ?_
  refine v_iload_n aX8_say_0 rfl ?_
  refine v_bipush (by decide) aX8_say_1 ?_
  refine v_bipush (by decide) aX8_say_3 ?_
  refine v_cSi (c_X8_in (by omega) (by omega) (by omega)) aX8_say_5 mX8_in sX8_in lX8_79 rfl rfl (Nat.le_of_ble_eq_true rfl) ⟨Nat.le_of_ble_eq_true rfl, Nat.le_of_ble_eq_true rfl⟩ (Nat.le_of_ble_eq_true rfl) ?_
  refine v_if_ne_b 14 rfl aX8_say_8 (fun c8 => ?_) (fun c8 => ?_)
  · --
    refine v_aload_n aX8_say_14 rfl ?_
    refine v_gi 1 rfl aX8_say_15 fX8_86 hM.p rfl rfl ?_
    rw [f1]
    refine v_bipush (by decide) aX8_say_18 ?_
    refine v_icmp_ne 26 rfl aX8_say_20 (by omega) (by omega) (fun c20 => ?_) (fun c20 => ?_)
    · --
      refine v_aload_n aX8_say_26 rfl ?_
      refine v_getr aX8_say_27 fX8_13 hM.p rfl rfl ?_
      refine v_aload_n aX8_say_30 rfl ?_
      refine v_gi 1 rfl aX8_say_31 fX8_86 hM.p rfl rfl ?_
      rw [f1]
      refine v_iload_n aX8_say_34 rfl ?_
      refine v_iast aX8_say_35 hM.p_pad (by omega) (by decide) ?_
      refine v_aload_n aX8_say_36 rfl ?_
      refine v_dup rfl aX8_say_37 ?_
      refine v_gi 1 rfl aX8_say_38 fX8_86 hM.p rfl rfl ?_
      rw [upd2_row (by omega), f1]
      refine v_iconst aX8_say_41 ?_
      refine v_iadd aX8_say_42 ?_
      refine v_pi 1 rfl aX8_say_43 fX8_86 nf8_1 ok8_1 hM.p rfl rfl ?_
      refine v_aload_n aX8_say_46 rfl ?_
      refine v_gi 1 rfl aX8_say_47 fX8_86 hM.p rfl rfl ?_
      rw [upd2_same]
      refine v_ireturn aX8_say_50 rfl ⟨Nat.le_refl _, Nat.le_refl _⟩ ?_
      rw [show sp_say g n a = (n + 1, iup g n a, n + 1) from by unfold sp_say; rw [if_pos c8, if_neg (by omega)]]
      exact ⟨_, rfl, rfl, rfl, (h.set_g).set_sz, (Out.upd (by omega)).trans (Out.upd (by omega))⟩
    · --
      refine v_bipush (by decide) aX8_say_23 ?_
      refine v_ireturn aX8_say_25 rfl ⟨Nat.le_refl _, Nat.le_refl _⟩ ?_
      rw [show sp_say g n a = (-4, g, n) from by unfold sp_say; rw [if_pos c8, if_pos (by omega)]]
      exact ⟨_, rfl, rfl, rfl, h, Out.rf⟩
  · --
    refine v_bipush (by decide) aX8_say_11 ?_
    refine v_ireturn aX8_say_13 rfl ⟨Nat.le_refl _, Nat.le_refl _⟩ ?_
    rw [show sp_say g n a = (-2, g, n) from if_neg c8]
    exact ⟨_, rfl, rfl, rfl, h, Out.rf⟩
set_option maxHeartbeats 4000000 in
set_option maxRecDepth 100000 in
theorem c_X8_wipe (hM : ModS S m) (h : MoAt μ m t g n) : Ct l G cX8_wipe (yX8_wipe, 2, (some FieldType.int), 0, 0, 0) [.ref m] S μ (Re S (fun z μ' => z = n ∧ MoAt μ' m t g 0 ∧ Out μ μ' m 22)) := by
  have f0 : μ m 0 = t.1 := h.1.1
  have f3 : μ m 3 = t.2.1 := h.1.2.1
  have f9 : μ m 9 = t.2.2.1 := h.1.2.2.1
  have f1 : μ m 1 = n := h.2.2
  refine Ct.of (by decide) rfl (by simp [vi, Value.category]) (Nat.le_of_ble_eq_true rfl) ?_
  refine v_aload_n aX8_wipe_0 rfl ?_
  refine v_gi 1 rfl aX8_wipe_1 fX8_86 hM.p rfl rfl ?_
  rw [f1]
  refine v_istore_n aX8_wipe_4 (by decide) rfl ?_
  refine v_aload_n aX8_wipe_5 rfl ?_
  refine v_iconst aX8_wipe_6 ?_
  refine v_pi 1 rfl aX8_wipe_7 fX8_86 nf8_1 ok8_1 hM.p rfl rfl ?_
  refine v_iload_n aX8_wipe_10 rfl ?_
  refine v_ireturn aX8_wipe_11 rfl ⟨Nat.le_refl _, Nat.le_refl _⟩ ?_
  exact ⟨_, rfl, rfl, rfl, h.set_sz, Out.upd (by omega)⟩
set_option maxHeartbeats 4000000 in
set_option maxRecDepth 100000 in
theorem l_X8_faultOf {P : Pst} (hM : ModS S m) (h : MoAt μ m t g n) (ht : 2 ≤ t.1 ∧ t.1 ≤ 6) (hp : PadOk g n) : ∀ (k : Nat) (i : Int) (L : List Value), (0 ≤ i ∧ i ≤ n) → n - i < k → (L = [.ref m, vi i] ∨ ∃ a b c, L = [.ref m, vi i, vi a, vi b, vi c]) → (P (some (vi (ffd g t.1 n k i))) S μ) → V l G cX8_faultOf (yX8_faultOf, 5, (some FieldType.int), 2, 0, 0) P (0, 0) S μ 2 L [] := by
  have f0 : μ m 0 = t.1 := h.1.1
  have f3 : μ m 3 = t.2.1 := h.1.2.1
  have f9 : μ m 9 = t.2.2.1 := h.1.2.2.1
  have f1 : μ m 1 = n := h.2.2
  obtain ⟨hn, hg⟩ := id hp
  have fg : μ (m + 1) = g := h.2.1
  intro k
  induction k with
  | zero => intro i L h0 h1; omega
  | succ k ih =>
    intro i L h0 h1 hL hh
    have hL2 : V l G cX8_faultOf (yX8_faultOf, 5, (some FieldType.int), 2, 0, 0) P (0, 0) S μ 2 [.ref m, vi i] [] := by
      clear hL
      unfold ffd at hh
      refine v_iload_n aX8_faultOf_2 rfl ?_
      refine v_aload_n aX8_faultOf_3 rfl ?_
      refine v_gi 1 rfl aX8_faultOf_4 fX8_86 hM.p rfl rfl ?_
      rw [f1]
      refine v_icmp_ge 102 rfl aX8_faultOf_7 (by omega) (by omega) (fun c7 => ?_) (fun c7 => ?_)
      · --
        refine v_aload_n aX8_faultOf_102 rfl ?_
        refine v_gi 1 rfl aX8_faultOf_103 fX8_86 hM.p rfl rfl ?_
        rw [f1]
        refine v_iconst aX8_faultOf_106 ?_
        refine v_irem (by omega) (by omega) aX8_faultOf_107 ?_
        refine v_iconst aX8_faultOf_108 ?_
        refine v_icmp_ne 117 rfl aX8_faultOf_109 (by omega) (by omega) (fun c109 => ?_) (fun c109 => ?_)
        · --
          refine v_aload_n aX8_faultOf_117 rfl ?_
          refine v_gi 1 rfl aX8_faultOf_118 fX8_86 hM.p rfl rfl ?_
          refine v_ireturn aX8_faultOf_121 rfl ⟨Nat.le_refl _, Nat.le_refl _⟩ ?_
          rw [if_neg (by omega)] at hh
          first
            | (rw [if_pos (by omega)] at hh; exact hh)
            | (rw [if_neg (by omega)] at hh; rw [f1]; exact hh)
        · --
          refine v_bipush (by decide) aX8_faultOf_112 ?_
          refine v_goto 121 rfl aX8_faultOf_114 ?_
          refine v_ireturn aX8_faultOf_121 rfl ⟨Nat.le_refl _, Nat.le_refl _⟩ ?_
          rw [if_neg (by omega)] at hh
          first
            | (rw [if_pos (by omega)] at hh; exact hh)
            | (rw [if_neg (by omega)] at hh; rw [f1]; exact hh)
      · --
        have hgi := hg i (by omega) (by omega)
        refine v_aload_n aX8_faultOf_10 rfl ?_
        refine v_getr aX8_faultOf_11 fX8_13 hM.p rfl rfl ?_
        refine v_iload_n aX8_faultOf_14 rfl ?_
        refine v_iald aX8_faultOf_15 hM.p_pad (by omega) (by decide) ?_
        rw [fg]
        refine v_istore_n aX8_faultOf_16 (by decide) rfl ?_
        refine v_iload_n aX8_faultOf_17 rfl ?_
        refine v_bipush (by decide) aX8_faultOf_18 ?_
        refine v_icmp_eq 35 rfl aX8_faultOf_20 (by omega) (by omega) (fun c20 => ?_) (fun c20 => ?_)
        · --
          refine v_iconst aX8_faultOf_35 ?_
          refine v_goto 40 rfl aX8_faultOf_36 ?_
          refine v_istore_n aX8_faultOf_40 (by decide) rfl ?_
          refine v_aload_n aX8_faultOf_41 rfl ?_
          refine v_iload_n aX8_faultOf_42 rfl ?_
          refine v_bipush (by decide) aX8_faultOf_43 ?_
          refine v_isub aX8_faultOf_45 ?_
          refine v_cVi (c_X8_isSack hM (by omega) (by omega)) aX8_faultOf_46 mX8_isSack vX8_isSack lX8_89 hM.p rfl rfl rfl rfl rfl (Nat.le_of_ble_eq_true rfl) ⟨Nat.le_of_ble_eq_true rfl, Nat.le_of_ble_eq_true rfl⟩ (Nat.le_of_ble_eq_true rfl) ?_
          refine v_if_eq_b 73 rfl aX8_faultOf_49 (fun c49 => ?_) (fun c49 => ?_)
          · --
            refine v_iconst aX8_faultOf_73 ?_
            refine v_istore aX8_faultOf_74 (by decide) rfl ?_
            refine v_iload_n aX8_faultOf_76 rfl ?_
            refine v_iconst aX8_faultOf_77 ?_
            refine v_irem (by omega) (by omega) aX8_faultOf_78 ?_
            refine v_if_ne 90 rfl aX8_faultOf_79 (by omega) (fun c79 => ?_) (fun c79 => ?_)
            · --
              refine v_iload_n aX8_faultOf_90 rfl ?_
              refine v_if_ne 96 rfl aX8_faultOf_91 (by omega) (fun c91 => ?_) (fun c91 => ?_)
              · --
                refine v_iinc aX8_faultOf_96 rfl (by decide) rfl ?_
                refine v_goto 2 rfl aX8_faultOf_99 ?_
                refine ih (i + 1) _ (by omega) (by omega) (Or.inr ⟨_, _, _, rfl⟩) ?_
                rw [if_pos (by omega), if_pos (by unfold mayS; first | (rw [if_pos (by omega)]; omega) | (rw [if_neg (by omega)]; omega))] at hh
                exact hh
              · --
                refine v_iload_n aX8_faultOf_94 rfl ?_
                refine v_ireturn aX8_faultOf_95 rfl ⟨Nat.le_refl _, Nat.le_refl _⟩ ?_
                rw [if_pos (by omega), if_neg (by unfold mayS; first | (rw [if_pos (by omega)]; omega) | (rw [if_neg (by omega)]; omega))] at hh
                exact hh
            · --
              refine v_iload aX8_faultOf_82 rfl ?_
              refine v_if_ne 96 rfl aX8_faultOf_84 (by omega) (fun c84 => ?_) (fun c84 => ?_)
              · --
                refine v_iinc aX8_faultOf_96 rfl (by decide) rfl ?_
                refine v_goto 2 rfl aX8_faultOf_99 ?_
                refine ih (i + 1) _ (by omega) (by omega) (Or.inr ⟨_, _, _, rfl⟩) ?_
                rw [if_pos (by omega), if_pos (by unfold mayS; first | (rw [if_pos (by omega)]; omega) | (rw [if_neg (by omega)]; omega))] at hh
                exact hh
              · --
                refine v_goto 94 rfl aX8_faultOf_87 ?_
                refine v_iload_n aX8_faultOf_94 rfl ?_
                refine v_ireturn aX8_faultOf_95 rfl ⟨Nat.le_refl _, Nat.le_refl _⟩ ?_
                rw [if_pos (by omega), if_neg (by unfold mayS; first | (rw [if_pos (by omega)]; omega) | (rw [if_neg (by omega)]; omega))] at hh
                exact hh
          · --
            refine v_iload_n aX8_faultOf_52 rfl ?_
            refine v_iconst aX8_faultOf_53 ?_
            refine v_icmp_lt 69 rfl aX8_faultOf_54 (by omega) (by omega) (fun c54 => ?_) (fun c54 => ?_)
            · --
              refine v_iconst aX8_faultOf_69 ?_
              refine v_goto 74 rfl aX8_faultOf_70 ?_
              refine v_istore aX8_faultOf_74 (by decide) rfl ?_
              refine v_iload_n aX8_faultOf_76 rfl ?_
              refine v_iconst aX8_faultOf_77 ?_
              refine v_irem (by omega) (by omega) aX8_faultOf_78 ?_
              refine v_if_ne 90 rfl aX8_faultOf_79 (by omega) (fun c79 => ?_) (fun c79 => ?_)
              · --
                refine v_iload_n aX8_faultOf_90 rfl ?_
                refine v_if_ne 96 rfl aX8_faultOf_91 (by omega) (fun c91 => ?_) (fun c91 => ?_)
                · --
                  refine v_iinc aX8_faultOf_96 rfl (by decide) rfl ?_
                  refine v_goto 2 rfl aX8_faultOf_99 ?_
                  refine ih (i + 1) _ (by omega) (by omega) (Or.inr ⟨_, _, _, rfl⟩) ?_
                  rw [if_pos (by omega), if_pos (by unfold mayS; first | (rw [if_pos (by omega)]; omega) | (rw [if_neg (by omega)]; omega))] at hh
                  exact hh
                · --
                  refine v_iload_n aX8_faultOf_94 rfl ?_
                  refine v_ireturn aX8_faultOf_95 rfl ⟨Nat.le_refl _, Nat.le_refl _⟩ ?_
                  rw [if_pos (by omega), if_neg (by unfold mayS; first | (rw [if_pos (by omega)]; omega) | (rw [if_neg (by omega)]; omega))] at hh
                  exact hh
              · --
                refine v_iload aX8_faultOf_82 rfl ?_
                refine v_if_ne 96 rfl aX8_faultOf_84 (by omega) (fun c84 => ?_) (fun c84 => ?_)
                · --
                  refine v_iinc aX8_faultOf_96 rfl (by decide) rfl ?_
                  refine v_goto 2 rfl aX8_faultOf_99 ?_
                  refine ih (i + 1) _ (by omega) (by omega) (Or.inr ⟨_, _, _, rfl⟩) ?_
                  rw [if_pos (by omega), if_pos (by unfold mayS; first | (rw [if_pos (by omega)]; omega) | (rw [if_neg (by omega)]; omega))] at hh
                  exact hh
                · --
                  refine v_goto 94 rfl aX8_faultOf_87 ?_
                  refine v_iload_n aX8_faultOf_94 rfl ?_
                  refine v_ireturn aX8_faultOf_95 rfl ⟨Nat.le_refl _, Nat.le_refl _⟩ ?_
                  rw [if_pos (by omega), if_neg (by unfold mayS; first | (rw [if_pos (by omega)]; omega) | (rw [if_neg (by omega)]; omega))] at hh
                  exact hh
            · --
              have hgj := hg (i - 2) (by omega) (by omega)
              refine v_aload_n aX8_faultOf_57 rfl ?_
              refine v_getr aX8_faultOf_58 fX8_13 hM.p rfl rfl ?_
              refine v_iload_n aX8_faultOf_61 rfl ?_
              refine v_iconst aX8_faultOf_62 ?_
              refine v_isub aX8_faultOf_63 ?_
              refine v_iald aX8_faultOf_64 hM.p_pad (by omega) (by decide) ?_
              rw [fg]
              refine v_iload_n aX8_faultOf_65 rfl ?_
              refine v_icmp_eq 73 rfl aX8_faultOf_66 (by omega) (by omega) (fun c66 => ?_) (fun c66 => ?_)
              · --
                refine v_iconst aX8_faultOf_73 ?_
                refine v_istore aX8_faultOf_74 (by decide) rfl ?_
                refine v_iload_n aX8_faultOf_76 rfl ?_
                refine v_iconst aX8_faultOf_77 ?_
                refine v_irem (by omega) (by omega) aX8_faultOf_78 ?_
                refine v_if_ne 90 rfl aX8_faultOf_79 (by omega) (fun c79 => ?_) (fun c79 => ?_)
                · --
                  refine v_iload_n aX8_faultOf_90 rfl ?_
                  refine v_if_ne 96 rfl aX8_faultOf_91 (by omega) (fun c91 => ?_) (fun c91 => ?_)
                  · --
                    refine v_iinc aX8_faultOf_96 rfl (by decide) rfl ?_
                    refine v_goto 2 rfl aX8_faultOf_99 ?_
                    refine ih (i + 1) _ (by omega) (by omega) (Or.inr ⟨_, _, _, rfl⟩) ?_
                    rw [if_pos (by omega), if_pos (by unfold mayS; first | (rw [if_pos (by omega)]; omega) | (rw [if_neg (by omega)]; omega))] at hh
                    exact hh
                  · --
                    refine v_iload_n aX8_faultOf_94 rfl ?_
                    refine v_ireturn aX8_faultOf_95 rfl ⟨Nat.le_refl _, Nat.le_refl _⟩ ?_
                    rw [if_pos (by omega), if_neg (by unfold mayS; first | (rw [if_pos (by omega)]; omega) | (rw [if_neg (by omega)]; omega))] at hh
                    exact hh
                · --
                  refine v_iload aX8_faultOf_82 rfl ?_
                  refine v_if_ne 96 rfl aX8_faultOf_84 (by omega) (fun c84 => ?_) (fun c84 => ?_)
                  · --
                    refine v_iinc aX8_faultOf_96 rfl (by decide) rfl ?_
                    refine v_goto 2 rfl aX8_faultOf_99 ?_
                    refine ih (i + 1) _ (by omega) (by omega) (Or.inr ⟨_, _, _, rfl⟩) ?_
                    rw [if_pos (by omega), if_pos (by unfold mayS; first | (rw [if_pos (by omega)]; omega) | (rw [if_neg (by omega)]; omega))] at hh
                    exact hh
                  · --
                    refine v_goto 94 rfl aX8_faultOf_87 ?_
                    refine v_iload_n aX8_faultOf_94 rfl ?_
                    refine v_ireturn aX8_faultOf_95 rfl ⟨Nat.le_refl _, Nat.le_refl _⟩ ?_
                    rw [if_pos (by omega), if_neg (by unfold mayS; first | (rw [if_pos (by omega)]; omega) | (rw [if_neg (by omega)]; omega))] at hh
                    exact hh
              · --
                refine v_iconst aX8_faultOf_69 ?_
                refine v_goto 74 rfl aX8_faultOf_70 ?_
                refine v_istore aX8_faultOf_74 (by decide) rfl ?_
                refine v_iload_n aX8_faultOf_76 rfl ?_
                refine v_iconst aX8_faultOf_77 ?_
                refine v_irem (by omega) (by omega) aX8_faultOf_78 ?_
                refine v_if_ne 90 rfl aX8_faultOf_79 (by omega) (fun c79 => ?_) (fun c79 => ?_)
                · --
                  refine v_iload_n aX8_faultOf_90 rfl ?_
                  refine v_if_ne 96 rfl aX8_faultOf_91 (by omega) (fun c91 => ?_) (fun c91 => ?_)
                  · --
                    refine v_iinc aX8_faultOf_96 rfl (by decide) rfl ?_
                    refine v_goto 2 rfl aX8_faultOf_99 ?_
                    refine ih (i + 1) _ (by omega) (by omega) (Or.inr ⟨_, _, _, rfl⟩) ?_
                    rw [if_pos (by omega), if_pos (by unfold mayS; first | (rw [if_pos (by omega)]; omega) | (rw [if_neg (by omega)]; omega))] at hh
                    exact hh
                  · --
                    refine v_iload_n aX8_faultOf_94 rfl ?_
                    refine v_ireturn aX8_faultOf_95 rfl ⟨Nat.le_refl _, Nat.le_refl _⟩ ?_
                    rw [if_pos (by omega), if_neg (by unfold mayS; first | (rw [if_pos (by omega)]; omega) | (rw [if_neg (by omega)]; omega))] at hh
                    exact hh
                · --
                  refine v_iload aX8_faultOf_82 rfl ?_
                  refine v_if_ne 96 rfl aX8_faultOf_84 (by omega) (fun c84 => ?_) (fun c84 => ?_)
                  · --
                    refine v_iinc aX8_faultOf_96 rfl (by decide) rfl ?_
                    refine v_goto 2 rfl aX8_faultOf_99 ?_
                    refine ih (i + 1) _ (by omega) (by omega) (Or.inr ⟨_, _, _, rfl⟩) ?_
                    rw [if_pos (by omega), if_pos (by unfold mayS; first | (rw [if_pos (by omega)]; omega) | (rw [if_neg (by omega)]; omega))] at hh
                    exact hh
                  · --
                    refine v_goto 94 rfl aX8_faultOf_87 ?_
                    refine v_iload_n aX8_faultOf_94 rfl ?_
                    refine v_ireturn aX8_faultOf_95 rfl ⟨Nat.le_refl _, Nat.le_refl _⟩ ?_
                    rw [if_pos (by omega), if_neg (by unfold mayS; first | (rw [if_pos (by omega)]; omega) | (rw [if_neg (by omega)]; omega))] at hh
                    exact hh
        · --
          refine v_iload_n aX8_faultOf_23 rfl ?_
          refine v_bipush (by decide) aX8_faultOf_24 ?_
          refine v_icmp_eq 35 rfl aX8_faultOf_26 (by omega) (by omega) (fun c26 => ?_) (fun c26 => ?_)
          · --
            refine v_iconst aX8_faultOf_35 ?_
            refine v_goto 40 rfl aX8_faultOf_36 ?_
            refine v_istore_n aX8_faultOf_40 (by decide) rfl ?_
            refine v_aload_n aX8_faultOf_41 rfl ?_
            refine v_iload_n aX8_faultOf_42 rfl ?_
            refine v_bipush (by decide) aX8_faultOf_43 ?_
            refine v_isub aX8_faultOf_45 ?_
            refine v_cVi (c_X8_isSack hM (by omega) (by omega)) aX8_faultOf_46 mX8_isSack vX8_isSack lX8_89 hM.p rfl rfl rfl rfl rfl (Nat.le_of_ble_eq_true rfl) ⟨Nat.le_of_ble_eq_true rfl, Nat.le_of_ble_eq_true rfl⟩ (Nat.le_of_ble_eq_true rfl) ?_
            refine v_if_eq_b 73 rfl aX8_faultOf_49 (fun c49 => ?_) (fun c49 => ?_)
            · --
              refine v_iconst aX8_faultOf_73 ?_
              refine v_istore aX8_faultOf_74 (by decide) rfl ?_
              refine v_iload_n aX8_faultOf_76 rfl ?_
              refine v_iconst aX8_faultOf_77 ?_
              refine v_irem (by omega) (by omega) aX8_faultOf_78 ?_
              refine v_if_ne 90 rfl aX8_faultOf_79 (by omega) (fun c79 => ?_) (fun c79 => ?_)
              · --
                refine v_iload_n aX8_faultOf_90 rfl ?_
                refine v_if_ne 96 rfl aX8_faultOf_91 (by omega) (fun c91 => ?_) (fun c91 => ?_)
                · --
                  refine v_iinc aX8_faultOf_96 rfl (by decide) rfl ?_
                  refine v_goto 2 rfl aX8_faultOf_99 ?_
                  refine ih (i + 1) _ (by omega) (by omega) (Or.inr ⟨_, _, _, rfl⟩) ?_
                  rw [if_pos (by omega), if_pos (by unfold mayS; first | (rw [if_pos (by omega)]; omega) | (rw [if_neg (by omega)]; omega))] at hh
                  exact hh
                · --
                  refine v_iload_n aX8_faultOf_94 rfl ?_
                  refine v_ireturn aX8_faultOf_95 rfl ⟨Nat.le_refl _, Nat.le_refl _⟩ ?_
                  rw [if_pos (by omega), if_neg (by unfold mayS; first | (rw [if_pos (by omega)]; omega) | (rw [if_neg (by omega)]; omega))] at hh
                  exact hh
              · --
                refine v_iload aX8_faultOf_82 rfl ?_
                refine v_if_ne 96 rfl aX8_faultOf_84 (by omega) (fun c84 => ?_) (fun c84 => ?_)
                · --
                  refine v_iinc aX8_faultOf_96 rfl (by decide) rfl ?_
                  refine v_goto 2 rfl aX8_faultOf_99 ?_
                  refine ih (i + 1) _ (by omega) (by omega) (Or.inr ⟨_, _, _, rfl⟩) ?_
                  rw [if_pos (by omega), if_pos (by unfold mayS; first | (rw [if_pos (by omega)]; omega) | (rw [if_neg (by omega)]; omega))] at hh
                  exact hh
                · --
                  refine v_goto 94 rfl aX8_faultOf_87 ?_
                  refine v_iload_n aX8_faultOf_94 rfl ?_
                  refine v_ireturn aX8_faultOf_95 rfl ⟨Nat.le_refl _, Nat.le_refl _⟩ ?_
                  rw [if_pos (by omega), if_neg (by unfold mayS; first | (rw [if_pos (by omega)]; omega) | (rw [if_neg (by omega)]; omega))] at hh
                  exact hh
            · --
              refine v_iload_n aX8_faultOf_52 rfl ?_
              refine v_iconst aX8_faultOf_53 ?_
              refine v_icmp_lt 69 rfl aX8_faultOf_54 (by omega) (by omega) (fun c54 => ?_) (fun c54 => ?_)
              · --
                refine v_iconst aX8_faultOf_69 ?_
                refine v_goto 74 rfl aX8_faultOf_70 ?_
                refine v_istore aX8_faultOf_74 (by decide) rfl ?_
                refine v_iload_n aX8_faultOf_76 rfl ?_
                refine v_iconst aX8_faultOf_77 ?_
                refine v_irem (by omega) (by omega) aX8_faultOf_78 ?_
                refine v_if_ne 90 rfl aX8_faultOf_79 (by omega) (fun c79 => ?_) (fun c79 => ?_)
                · --
                  refine v_iload_n aX8_faultOf_90 rfl ?_
                  refine v_if_ne 96 rfl aX8_faultOf_91 (by omega) (fun c91 => ?_) (fun c91 => ?_)
                  · --
                    refine v_iinc aX8_faultOf_96 rfl (by decide) rfl ?_
                    refine v_goto 2 rfl aX8_faultOf_99 ?_
                    refine ih (i + 1) _ (by omega) (by omega) (Or.inr ⟨_, _, _, rfl⟩) ?_
                    rw [if_pos (by omega), if_pos (by unfold mayS; first | (rw [if_pos (by omega)]; omega) | (rw [if_neg (by omega)]; omega))] at hh
                    exact hh
                  · --
                    refine v_iload_n aX8_faultOf_94 rfl ?_
                    refine v_ireturn aX8_faultOf_95 rfl ⟨Nat.le_refl _, Nat.le_refl _⟩ ?_
                    rw [if_pos (by omega), if_neg (by unfold mayS; first | (rw [if_pos (by omega)]; omega) | (rw [if_neg (by omega)]; omega))] at hh
                    exact hh
                · --
                  refine v_iload aX8_faultOf_82 rfl ?_
                  refine v_if_ne 96 rfl aX8_faultOf_84 (by omega) (fun c84 => ?_) (fun c84 => ?_)
                  · --
                    refine v_iinc aX8_faultOf_96 rfl (by decide) rfl ?_
                    refine v_goto 2 rfl aX8_faultOf_99 ?_
                    refine ih (i + 1) _ (by omega) (by omega) (Or.inr ⟨_, _, _, rfl⟩) ?_
                    rw [if_pos (by omega), if_pos (by unfold mayS; first | (rw [if_pos (by omega)]; omega) | (rw [if_neg (by omega)]; omega))] at hh
                    exact hh
                  · --
                    refine v_goto 94 rfl aX8_faultOf_87 ?_
                    refine v_iload_n aX8_faultOf_94 rfl ?_
                    refine v_ireturn aX8_faultOf_95 rfl ⟨Nat.le_refl _, Nat.le_refl _⟩ ?_
                    rw [if_pos (by omega), if_neg (by unfold mayS; first | (rw [if_pos (by omega)]; omega) | (rw [if_neg (by omega)]; omega))] at hh
                    exact hh
              · --
                have hgj := hg (i - 2) (by omega) (by omega)
                refine v_aload_n aX8_faultOf_57 rfl ?_
                refine v_getr aX8_faultOf_58 fX8_13 hM.p rfl rfl ?_
                refine v_iload_n aX8_faultOf_61 rfl ?_
                refine v_iconst aX8_faultOf_62 ?_
                refine v_isub aX8_faultOf_63 ?_
                refine v_iald aX8_faultOf_64 hM.p_pad (by omega) (by decide) ?_
                rw [fg]
                refine v_iload_n aX8_faultOf_65 rfl ?_
                refine v_icmp_eq 73 rfl aX8_faultOf_66 (by omega) (by omega) (fun c66 => ?_) (fun c66 => ?_)
                · --
                  refine v_iconst aX8_faultOf_73 ?_
                  refine v_istore aX8_faultOf_74 (by decide) rfl ?_
                  refine v_iload_n aX8_faultOf_76 rfl ?_
                  refine v_iconst aX8_faultOf_77 ?_
                  refine v_irem (by omega) (by omega) aX8_faultOf_78 ?_
                  refine v_if_ne 90 rfl aX8_faultOf_79 (by omega) (fun c79 => ?_) (fun c79 => ?_)
                  · --
                    refine v_iload_n aX8_faultOf_90 rfl ?_
                    refine v_if_ne 96 rfl aX8_faultOf_91 (by omega) (fun c91 => ?_) (fun c91 => ?_)
                    · --
                      refine v_iinc aX8_faultOf_96 rfl (by decide) rfl ?_
                      refine v_goto 2 rfl aX8_faultOf_99 ?_
                      refine ih (i + 1) _ (by omega) (by omega) (Or.inr ⟨_, _, _, rfl⟩) ?_
                      rw [if_pos (by omega), if_pos (by unfold mayS; first | (rw [if_pos (by omega)]; omega) | (rw [if_neg (by omega)]; omega))] at hh
                      exact hh
                    · --
                      refine v_iload_n aX8_faultOf_94 rfl ?_
                      refine v_ireturn aX8_faultOf_95 rfl ⟨Nat.le_refl _, Nat.le_refl _⟩ ?_
                      rw [if_pos (by omega), if_neg (by unfold mayS; first | (rw [if_pos (by omega)]; omega) | (rw [if_neg (by omega)]; omega))] at hh
                      exact hh
                  · --
                    refine v_iload aX8_faultOf_82 rfl ?_
                    refine v_if_ne 96 rfl aX8_faultOf_84 (by omega) (fun c84 => ?_) (fun c84 => ?_)
                    · --
                      refine v_iinc aX8_faultOf_96 rfl (by decide) rfl ?_
                      refine v_goto 2 rfl aX8_faultOf_99 ?_
                      refine ih (i + 1) _ (by omega) (by omega) (Or.inr ⟨_, _, _, rfl⟩) ?_
                      rw [if_pos (by omega), if_pos (by unfold mayS; first | (rw [if_pos (by omega)]; omega) | (rw [if_neg (by omega)]; omega))] at hh
                      exact hh
                    · --
                      refine v_goto 94 rfl aX8_faultOf_87 ?_
                      refine v_iload_n aX8_faultOf_94 rfl ?_
                      refine v_ireturn aX8_faultOf_95 rfl ⟨Nat.le_refl _, Nat.le_refl _⟩ ?_
                      rw [if_pos (by omega), if_neg (by unfold mayS; first | (rw [if_pos (by omega)]; omega) | (rw [if_neg (by omega)]; omega))] at hh
                      exact hh
                · --
                  refine v_iconst aX8_faultOf_69 ?_
                  refine v_goto 74 rfl aX8_faultOf_70 ?_
                  refine v_istore aX8_faultOf_74 (by decide) rfl ?_
                  refine v_iload_n aX8_faultOf_76 rfl ?_
                  refine v_iconst aX8_faultOf_77 ?_
                  refine v_irem (by omega) (by omega) aX8_faultOf_78 ?_
                  refine v_if_ne 90 rfl aX8_faultOf_79 (by omega) (fun c79 => ?_) (fun c79 => ?_)
                  · --
                    refine v_iload_n aX8_faultOf_90 rfl ?_
                    refine v_if_ne 96 rfl aX8_faultOf_91 (by omega) (fun c91 => ?_) (fun c91 => ?_)
                    · --
                      refine v_iinc aX8_faultOf_96 rfl (by decide) rfl ?_
                      refine v_goto 2 rfl aX8_faultOf_99 ?_
                      refine ih (i + 1) _ (by omega) (by omega) (Or.inr ⟨_, _, _, rfl⟩) ?_
                      rw [if_pos (by omega), if_pos (by unfold mayS; first | (rw [if_pos (by omega)]; omega) | (rw [if_neg (by omega)]; omega))] at hh
                      exact hh
                    · --
                      refine v_iload_n aX8_faultOf_94 rfl ?_
                      refine v_ireturn aX8_faultOf_95 rfl ⟨Nat.le_refl _, Nat.le_refl _⟩ ?_
                      rw [if_pos (by omega), if_neg (by unfold mayS; first | (rw [if_pos (by omega)]; omega) | (rw [if_neg (by omega)]; omega))] at hh
                      exact hh
                  · --
                    refine v_iload aX8_faultOf_82 rfl ?_
                    refine v_if_ne 96 rfl aX8_faultOf_84 (by omega) (fun c84 => ?_) (fun c84 => ?_)
                    · --
                      refine v_iinc aX8_faultOf_96 rfl (by decide) rfl ?_
                      refine v_goto 2 rfl aX8_faultOf_99 ?_
                      refine ih (i + 1) _ (by omega) (by omega) (Or.inr ⟨_, _, _, rfl⟩) ?_
                      rw [if_pos (by omega), if_pos (by unfold mayS; first | (rw [if_pos (by omega)]; omega) | (rw [if_neg (by omega)]; omega))] at hh
                      exact hh
                    · --
                      refine v_goto 94 rfl aX8_faultOf_87 ?_
                      refine v_iload_n aX8_faultOf_94 rfl ?_
                      refine v_ireturn aX8_faultOf_95 rfl ⟨Nat.le_refl _, Nat.le_refl _⟩ ?_
                      rw [if_pos (by omega), if_neg (by unfold mayS; first | (rw [if_pos (by omega)]; omega) | (rw [if_neg (by omega)]; omega))] at hh
                      exact hh
          · --
            refine v_iload_n aX8_faultOf_29 rfl ?_
            refine v_bipush (by decide) aX8_faultOf_30 ?_
            refine v_icmp_ne 39 rfl aX8_faultOf_32 (by omega) (by omega) (fun c32 => ?_) (fun c32 => ?_)
            · --
              refine v_iconst aX8_faultOf_39 ?_
              refine v_istore_n aX8_faultOf_40 (by decide) rfl ?_
              refine v_aload_n aX8_faultOf_41 rfl ?_
              refine v_iload_n aX8_faultOf_42 rfl ?_
              refine v_bipush (by decide) aX8_faultOf_43 ?_
              refine v_isub aX8_faultOf_45 ?_
              refine v_cVi (c_X8_isSack hM (by omega) (by omega)) aX8_faultOf_46 mX8_isSack vX8_isSack lX8_89 hM.p rfl rfl rfl rfl rfl (Nat.le_of_ble_eq_true rfl) ⟨Nat.le_of_ble_eq_true rfl, Nat.le_of_ble_eq_true rfl⟩ (Nat.le_of_ble_eq_true rfl) ?_
              refine v_if_eq_b 73 rfl aX8_faultOf_49 (fun c49 => ?_) (fun c49 => ?_)
              · --
                refine v_iconst aX8_faultOf_73 ?_
                refine v_istore aX8_faultOf_74 (by decide) rfl ?_
                refine v_iload_n aX8_faultOf_76 rfl ?_
                refine v_iconst aX8_faultOf_77 ?_
                refine v_irem (by omega) (by omega) aX8_faultOf_78 ?_
                refine v_if_ne 90 rfl aX8_faultOf_79 (by omega) (fun c79 => ?_) (fun c79 => ?_)
                · --
                  refine v_iload_n aX8_faultOf_90 rfl ?_
                  refine v_if_ne 96 rfl aX8_faultOf_91 (by omega) (fun c91 => ?_) (fun c91 => ?_)
                  · --
                    refine v_iinc aX8_faultOf_96 rfl (by decide) rfl ?_
                    refine v_goto 2 rfl aX8_faultOf_99 ?_
                    refine ih (i + 1) _ (by omega) (by omega) (Or.inr ⟨_, _, _, rfl⟩) ?_
                    rw [if_pos (by omega), if_pos (by unfold mayS; first | (rw [if_pos (by omega)]; omega) | (rw [if_neg (by omega)]; omega))] at hh
                    exact hh
                  · --
                    refine v_iload_n aX8_faultOf_94 rfl ?_
                    refine v_ireturn aX8_faultOf_95 rfl ⟨Nat.le_refl _, Nat.le_refl _⟩ ?_
                    rw [if_pos (by omega), if_neg (by unfold mayS; first | (rw [if_pos (by omega)]; omega) | (rw [if_neg (by omega)]; omega))] at hh
                    exact hh
                · --
                  refine v_iload aX8_faultOf_82 rfl ?_
                  refine v_if_ne 96 rfl aX8_faultOf_84 (by omega) (fun c84 => ?_) (fun c84 => ?_)
                  · --
                    refine v_iinc aX8_faultOf_96 rfl (by decide) rfl ?_
                    refine v_goto 2 rfl aX8_faultOf_99 ?_
                    refine ih (i + 1) _ (by omega) (by omega) (Or.inr ⟨_, _, _, rfl⟩) ?_
                    rw [if_pos (by omega), if_pos (by unfold mayS; first | (rw [if_pos (by omega)]; omega) | (rw [if_neg (by omega)]; omega))] at hh
                    exact hh
                  · --
                    refine v_goto 94 rfl aX8_faultOf_87 ?_
                    refine v_iload_n aX8_faultOf_94 rfl ?_
                    refine v_ireturn aX8_faultOf_95 rfl ⟨Nat.le_refl _, Nat.le_refl _⟩ ?_
                    rw [if_pos (by omega), if_neg (by unfold mayS; first | (rw [if_pos (by omega)]; omega) | (rw [if_neg (by omega)]; omega))] at hh
                    exact hh
              · --
                refine v_iload_n aX8_faultOf_52 rfl ?_
                refine v_iconst aX8_faultOf_53 ?_
                refine v_icmp_lt 69 rfl aX8_faultOf_54 (by omega) (by omega) (fun c54 => ?_) (fun c54 => ?_)
                · --
                  refine v_iconst aX8_faultOf_69 ?_
                  refine v_goto 74 rfl aX8_faultOf_70 ?_
                  refine v_istore aX8_faultOf_74 (by decide) rfl ?_
                  refine v_iload_n aX8_faultOf_76 rfl ?_
                  refine v_iconst aX8_faultOf_77 ?_
                  refine v_irem (by omega) (by omega) aX8_faultOf_78 ?_
                  refine v_if_ne 90 rfl aX8_faultOf_79 (by omega) (fun c79 => ?_) (fun c79 => ?_)
                  · --
                    refine v_iload_n aX8_faultOf_90 rfl ?_
                    refine v_if_ne 96 rfl aX8_faultOf_91 (by omega) (fun c91 => ?_) (fun c91 => ?_)
                    · --
                      refine v_iinc aX8_faultOf_96 rfl (by decide) rfl ?_
                      refine v_goto 2 rfl aX8_faultOf_99 ?_
                      refine ih (i + 1) _ (by omega) (by omega) (Or.inr ⟨_, _, _, rfl⟩) ?_
                      rw [if_pos (by omega), if_pos (by unfold mayS; first | (rw [if_pos (by omega)]; omega) | (rw [if_neg (by omega)]; omega))] at hh
                      exact hh
                    · --
                      refine v_iload_n aX8_faultOf_94 rfl ?_
                      refine v_ireturn aX8_faultOf_95 rfl ⟨Nat.le_refl _, Nat.le_refl _⟩ ?_
                      rw [if_pos (by omega), if_neg (by unfold mayS; first | (rw [if_pos (by omega)]; omega) | (rw [if_neg (by omega)]; omega))] at hh
                      exact hh
                  · --
                    refine v_iload aX8_faultOf_82 rfl ?_
                    refine v_if_ne 96 rfl aX8_faultOf_84 (by omega) (fun c84 => ?_) (fun c84 => ?_)
                    · --
                      refine v_iinc aX8_faultOf_96 rfl (by decide) rfl ?_
                      refine v_goto 2 rfl aX8_faultOf_99 ?_
                      refine ih (i + 1) _ (by omega) (by omega) (Or.inr ⟨_, _, _, rfl⟩) ?_
                      rw [if_pos (by omega), if_pos (by unfold mayS; first | (rw [if_pos (by omega)]; omega) | (rw [if_neg (by omega)]; omega))] at hh
                      exact hh
                    · --
                      refine v_goto 94 rfl aX8_faultOf_87 ?_
                      refine v_iload_n aX8_faultOf_94 rfl ?_
                      refine v_ireturn aX8_faultOf_95 rfl ⟨Nat.le_refl _, Nat.le_refl _⟩ ?_
                      rw [if_pos (by omega), if_neg (by unfold mayS; first | (rw [if_pos (by omega)]; omega) | (rw [if_neg (by omega)]; omega))] at hh
                      exact hh
                · --
                  have hgj := hg (i - 2) (by omega) (by omega)
                  refine v_aload_n aX8_faultOf_57 rfl ?_
                  refine v_getr aX8_faultOf_58 fX8_13 hM.p rfl rfl ?_
                  refine v_iload_n aX8_faultOf_61 rfl ?_
                  refine v_iconst aX8_faultOf_62 ?_
                  refine v_isub aX8_faultOf_63 ?_
                  refine v_iald aX8_faultOf_64 hM.p_pad (by omega) (by decide) ?_
                  rw [fg]
                  refine v_iload_n aX8_faultOf_65 rfl ?_
                  refine v_icmp_eq 73 rfl aX8_faultOf_66 (by omega) (by omega) (fun c66 => ?_) (fun c66 => ?_)
                  · --
                    refine v_iconst aX8_faultOf_73 ?_
                    refine v_istore aX8_faultOf_74 (by decide) rfl ?_
                    refine v_iload_n aX8_faultOf_76 rfl ?_
                    refine v_iconst aX8_faultOf_77 ?_
                    refine v_irem (by omega) (by omega) aX8_faultOf_78 ?_
                    refine v_if_ne 90 rfl aX8_faultOf_79 (by omega) (fun c79 => ?_) (fun c79 => ?_)
                    · --
                      refine v_iload_n aX8_faultOf_90 rfl ?_
                      refine v_if_ne 96 rfl aX8_faultOf_91 (by omega) (fun c91 => ?_) (fun c91 => ?_)
                      · --
                        refine v_iinc aX8_faultOf_96 rfl (by decide) rfl ?_
                        refine v_goto 2 rfl aX8_faultOf_99 ?_
                        refine ih (i + 1) _ (by omega) (by omega) (Or.inr ⟨_, _, _, rfl⟩) ?_
                        rw [if_pos (by omega), if_pos (by unfold mayS; first | (rw [if_pos (by omega)]; omega) | (rw [if_neg (by omega)]; omega))] at hh
                        exact hh
                      · --
                        refine v_iload_n aX8_faultOf_94 rfl ?_
                        refine v_ireturn aX8_faultOf_95 rfl ⟨Nat.le_refl _, Nat.le_refl _⟩ ?_
                        rw [if_pos (by omega), if_neg (by unfold mayS; first | (rw [if_pos (by omega)]; omega) | (rw [if_neg (by omega)]; omega))] at hh
                        exact hh
                    · --
                      refine v_iload aX8_faultOf_82 rfl ?_
                      refine v_if_ne 96 rfl aX8_faultOf_84 (by omega) (fun c84 => ?_) (fun c84 => ?_)
                      · --
                        refine v_iinc aX8_faultOf_96 rfl (by decide) rfl ?_
                        refine v_goto 2 rfl aX8_faultOf_99 ?_
                        refine ih (i + 1) _ (by omega) (by omega) (Or.inr ⟨_, _, _, rfl⟩) ?_
                        rw [if_pos (by omega), if_pos (by unfold mayS; first | (rw [if_pos (by omega)]; omega) | (rw [if_neg (by omega)]; omega))] at hh
                        exact hh
                      · --
                        refine v_goto 94 rfl aX8_faultOf_87 ?_
                        refine v_iload_n aX8_faultOf_94 rfl ?_
                        refine v_ireturn aX8_faultOf_95 rfl ⟨Nat.le_refl _, Nat.le_refl _⟩ ?_
                        rw [if_pos (by omega), if_neg (by unfold mayS; first | (rw [if_pos (by omega)]; omega) | (rw [if_neg (by omega)]; omega))] at hh
                        exact hh
                  · --
                    refine v_iconst aX8_faultOf_69 ?_
                    refine v_goto 74 rfl aX8_faultOf_70 ?_
                    refine v_istore aX8_faultOf_74 (by decide) rfl ?_
                    refine v_iload_n aX8_faultOf_76 rfl ?_
                    refine v_iconst aX8_faultOf_77 ?_
                    refine v_irem (by omega) (by omega) aX8_faultOf_78 ?_
                    refine v_if_ne 90 rfl aX8_faultOf_79 (by omega) (fun c79 => ?_) (fun c79 => ?_)
                    · --
                      refine v_iload_n aX8_faultOf_90 rfl ?_
                      refine v_if_ne 96 rfl aX8_faultOf_91 (by omega) (fun c91 => ?_) (fun c91 => ?_)
                      · --
                        refine v_iinc aX8_faultOf_96 rfl (by decide) rfl ?_
                        refine v_goto 2 rfl aX8_faultOf_99 ?_
                        refine ih (i + 1) _ (by omega) (by omega) (Or.inr ⟨_, _, _, rfl⟩) ?_
                        rw [if_pos (by omega), if_pos (by unfold mayS; first | (rw [if_pos (by omega)]; omega) | (rw [if_neg (by omega)]; omega))] at hh
                        exact hh
                      · --
                        refine v_iload_n aX8_faultOf_94 rfl ?_
                        refine v_ireturn aX8_faultOf_95 rfl ⟨Nat.le_refl _, Nat.le_refl _⟩ ?_
                        rw [if_pos (by omega), if_neg (by unfold mayS; first | (rw [if_pos (by omega)]; omega) | (rw [if_neg (by omega)]; omega))] at hh
                        exact hh
                    · --
                      refine v_iload aX8_faultOf_82 rfl ?_
                      refine v_if_ne 96 rfl aX8_faultOf_84 (by omega) (fun c84 => ?_) (fun c84 => ?_)
                      · --
                        refine v_iinc aX8_faultOf_96 rfl (by decide) rfl ?_
                        refine v_goto 2 rfl aX8_faultOf_99 ?_
                        refine ih (i + 1) _ (by omega) (by omega) (Or.inr ⟨_, _, _, rfl⟩) ?_
                        rw [if_pos (by omega), if_pos (by unfold mayS; first | (rw [if_pos (by omega)]; omega) | (rw [if_neg (by omega)]; omega))] at hh
                        exact hh
                      · --
                        refine v_goto 94 rfl aX8_faultOf_87 ?_
                        refine v_iload_n aX8_faultOf_94 rfl ?_
                        refine v_ireturn aX8_faultOf_95 rfl ⟨Nat.le_refl _, Nat.le_refl _⟩ ?_
                        rw [if_pos (by omega), if_neg (by unfold mayS; first | (rw [if_pos (by omega)]; omega) | (rw [if_neg (by omega)]; omega))] at hh
                        exact hh
            · --
              refine v_iconst aX8_faultOf_35 ?_
              refine v_goto 40 rfl aX8_faultOf_36 ?_
              refine v_istore_n aX8_faultOf_40 (by decide) rfl ?_
              refine v_aload_n aX8_faultOf_41 rfl ?_
              refine v_iload_n aX8_faultOf_42 rfl ?_
              refine v_bipush (by decide) aX8_faultOf_43 ?_
              refine v_isub aX8_faultOf_45 ?_
              refine v_cVi (c_X8_isSack hM (by omega) (by omega)) aX8_faultOf_46 mX8_isSack vX8_isSack lX8_89 hM.p rfl rfl rfl rfl rfl (Nat.le_of_ble_eq_true rfl) ⟨Nat.le_of_ble_eq_true rfl, Nat.le_of_ble_eq_true rfl⟩ (Nat.le_of_ble_eq_true rfl) ?_
              refine v_if_eq_b 73 rfl aX8_faultOf_49 (fun c49 => ?_) (fun c49 => ?_)
              · --
                refine v_iconst aX8_faultOf_73 ?_
                refine v_istore aX8_faultOf_74 (by decide) rfl ?_
                refine v_iload_n aX8_faultOf_76 rfl ?_
                refine v_iconst aX8_faultOf_77 ?_
                refine v_irem (by omega) (by omega) aX8_faultOf_78 ?_
                refine v_if_ne 90 rfl aX8_faultOf_79 (by omega) (fun c79 => ?_) (fun c79 => ?_)
                · --
                  refine v_iload_n aX8_faultOf_90 rfl ?_
                  refine v_if_ne 96 rfl aX8_faultOf_91 (by omega) (fun c91 => ?_) (fun c91 => ?_)
                  · --
                    refine v_iinc aX8_faultOf_96 rfl (by decide) rfl ?_
                    refine v_goto 2 rfl aX8_faultOf_99 ?_
                    refine ih (i + 1) _ (by omega) (by omega) (Or.inr ⟨_, _, _, rfl⟩) ?_
                    rw [if_pos (by omega), if_pos (by unfold mayS; first | (rw [if_pos (by omega)]; omega) | (rw [if_neg (by omega)]; omega))] at hh
                    exact hh
                  · --
                    refine v_iload_n aX8_faultOf_94 rfl ?_
                    refine v_ireturn aX8_faultOf_95 rfl ⟨Nat.le_refl _, Nat.le_refl _⟩ ?_
                    rw [if_pos (by omega), if_neg (by unfold mayS; first | (rw [if_pos (by omega)]; omega) | (rw [if_neg (by omega)]; omega))] at hh
                    exact hh
                · --
                  refine v_iload aX8_faultOf_82 rfl ?_
                  refine v_if_ne 96 rfl aX8_faultOf_84 (by omega) (fun c84 => ?_) (fun c84 => ?_)
                  · --
                    refine v_iinc aX8_faultOf_96 rfl (by decide) rfl ?_
                    refine v_goto 2 rfl aX8_faultOf_99 ?_
                    refine ih (i + 1) _ (by omega) (by omega) (Or.inr ⟨_, _, _, rfl⟩) ?_
                    rw [if_pos (by omega), if_pos (by unfold mayS; first | (rw [if_pos (by omega)]; omega) | (rw [if_neg (by omega)]; omega))] at hh
                    exact hh
                  · --
                    refine v_goto 94 rfl aX8_faultOf_87 ?_
                    refine v_iload_n aX8_faultOf_94 rfl ?_
                    refine v_ireturn aX8_faultOf_95 rfl ⟨Nat.le_refl _, Nat.le_refl _⟩ ?_
                    rw [if_pos (by omega), if_neg (by unfold mayS; first | (rw [if_pos (by omega)]; omega) | (rw [if_neg (by omega)]; omega))] at hh
                    exact hh
              · --
                refine v_iload_n aX8_faultOf_52 rfl ?_
                refine v_iconst aX8_faultOf_53 ?_
                refine v_icmp_lt 69 rfl aX8_faultOf_54 (by omega) (by omega) (fun c54 => ?_) (fun c54 => ?_)
                · --
                  refine v_iconst aX8_faultOf_69 ?_
                  refine v_goto 74 rfl aX8_faultOf_70 ?_
                  refine v_istore aX8_faultOf_74 (by decide) rfl ?_
                  refine v_iload_n aX8_faultOf_76 rfl ?_
                  refine v_iconst aX8_faultOf_77 ?_
                  refine v_irem (by omega) (by omega) aX8_faultOf_78 ?_
                  refine v_if_ne 90 rfl aX8_faultOf_79 (by omega) (fun c79 => ?_) (fun c79 => ?_)
                  · --
                    refine v_iload_n aX8_faultOf_90 rfl ?_
                    refine v_if_ne 96 rfl aX8_faultOf_91 (by omega) (fun c91 => ?_) (fun c91 => ?_)
                    · --
                      refine v_iinc aX8_faultOf_96 rfl (by decide) rfl ?_
                      refine v_goto 2 rfl aX8_faultOf_99 ?_
                      refine ih (i + 1) _ (by omega) (by omega) (Or.inr ⟨_, _, _, rfl⟩) ?_
                      rw [if_pos (by omega), if_pos (by unfold mayS; first | (rw [if_pos (by omega)]; omega) | (rw [if_neg (by omega)]; omega))] at hh
                      exact hh
                    · --
                      refine v_iload_n aX8_faultOf_94 rfl ?_
                      refine v_ireturn aX8_faultOf_95 rfl ⟨Nat.le_refl _, Nat.le_refl _⟩ ?_
                      rw [if_pos (by omega), if_neg (by unfold mayS; first | (rw [if_pos (by omega)]; omega) | (rw [if_neg (by omega)]; omega))] at hh
                      exact hh
                  · --
                    refine v_iload aX8_faultOf_82 rfl ?_
                    refine v_if_ne 96 rfl aX8_faultOf_84 (by omega) (fun c84 => ?_) (fun c84 => ?_)
                    · --
                      refine v_iinc aX8_faultOf_96 rfl (by decide) rfl ?_
                      refine v_goto 2 rfl aX8_faultOf_99 ?_
                      refine ih (i + 1) _ (by omega) (by omega) (Or.inr ⟨_, _, _, rfl⟩) ?_
                      rw [if_pos (by omega), if_pos (by unfold mayS; first | (rw [if_pos (by omega)]; omega) | (rw [if_neg (by omega)]; omega))] at hh
                      exact hh
                    · --
                      refine v_goto 94 rfl aX8_faultOf_87 ?_
                      refine v_iload_n aX8_faultOf_94 rfl ?_
                      refine v_ireturn aX8_faultOf_95 rfl ⟨Nat.le_refl _, Nat.le_refl _⟩ ?_
                      rw [if_pos (by omega), if_neg (by unfold mayS; first | (rw [if_pos (by omega)]; omega) | (rw [if_neg (by omega)]; omega))] at hh
                      exact hh
                · --
                  have hgj := hg (i - 2) (by omega) (by omega)
                  refine v_aload_n aX8_faultOf_57 rfl ?_
                  refine v_getr aX8_faultOf_58 fX8_13 hM.p rfl rfl ?_
                  refine v_iload_n aX8_faultOf_61 rfl ?_
                  refine v_iconst aX8_faultOf_62 ?_
                  refine v_isub aX8_faultOf_63 ?_
                  refine v_iald aX8_faultOf_64 hM.p_pad (by omega) (by decide) ?_
                  rw [fg]
                  refine v_iload_n aX8_faultOf_65 rfl ?_
                  refine v_icmp_eq 73 rfl aX8_faultOf_66 (by omega) (by omega) (fun c66 => ?_) (fun c66 => ?_)
                  · --
                    refine v_iconst aX8_faultOf_73 ?_
                    refine v_istore aX8_faultOf_74 (by decide) rfl ?_
                    refine v_iload_n aX8_faultOf_76 rfl ?_
                    refine v_iconst aX8_faultOf_77 ?_
                    refine v_irem (by omega) (by omega) aX8_faultOf_78 ?_
                    refine v_if_ne 90 rfl aX8_faultOf_79 (by omega) (fun c79 => ?_) (fun c79 => ?_)
                    · --
                      refine v_iload_n aX8_faultOf_90 rfl ?_
                      refine v_if_ne 96 rfl aX8_faultOf_91 (by omega) (fun c91 => ?_) (fun c91 => ?_)
                      · --
                        refine v_iinc aX8_faultOf_96 rfl (by decide) rfl ?_
                        refine v_goto 2 rfl aX8_faultOf_99 ?_
                        refine ih (i + 1) _ (by omega) (by omega) (Or.inr ⟨_, _, _, rfl⟩) ?_
                        rw [if_pos (by omega), if_pos (by unfold mayS; first | (rw [if_pos (by omega)]; omega) | (rw [if_neg (by omega)]; omega))] at hh
                        exact hh
                      · --
                        refine v_iload_n aX8_faultOf_94 rfl ?_
                        refine v_ireturn aX8_faultOf_95 rfl ⟨Nat.le_refl _, Nat.le_refl _⟩ ?_
                        rw [if_pos (by omega), if_neg (by unfold mayS; first | (rw [if_pos (by omega)]; omega) | (rw [if_neg (by omega)]; omega))] at hh
                        exact hh
                    · --
                      refine v_iload aX8_faultOf_82 rfl ?_
                      refine v_if_ne 96 rfl aX8_faultOf_84 (by omega) (fun c84 => ?_) (fun c84 => ?_)
                      · --
                        refine v_iinc aX8_faultOf_96 rfl (by decide) rfl ?_
                        refine v_goto 2 rfl aX8_faultOf_99 ?_
                        refine ih (i + 1) _ (by omega) (by omega) (Or.inr ⟨_, _, _, rfl⟩) ?_
                        rw [if_pos (by omega), if_pos (by unfold mayS; first | (rw [if_pos (by omega)]; omega) | (rw [if_neg (by omega)]; omega))] at hh
                        exact hh
                      · --
                        refine v_goto 94 rfl aX8_faultOf_87 ?_
                        refine v_iload_n aX8_faultOf_94 rfl ?_
                        refine v_ireturn aX8_faultOf_95 rfl ⟨Nat.le_refl _, Nat.le_refl _⟩ ?_
                        rw [if_pos (by omega), if_neg (by unfold mayS; first | (rw [if_pos (by omega)]; omega) | (rw [if_neg (by omega)]; omega))] at hh
                        exact hh
                  · --
                    refine v_iconst aX8_faultOf_69 ?_
                    refine v_goto 74 rfl aX8_faultOf_70 ?_
                    refine v_istore aX8_faultOf_74 (by decide) rfl ?_
                    refine v_iload_n aX8_faultOf_76 rfl ?_
                    refine v_iconst aX8_faultOf_77 ?_
                    refine v_irem (by omega) (by omega) aX8_faultOf_78 ?_
                    refine v_if_ne 90 rfl aX8_faultOf_79 (by omega) (fun c79 => ?_) (fun c79 => ?_)
                    · --
                      refine v_iload_n aX8_faultOf_90 rfl ?_
                      refine v_if_ne 96 rfl aX8_faultOf_91 (by omega) (fun c91 => ?_) (fun c91 => ?_)
                      · --
                        refine v_iinc aX8_faultOf_96 rfl (by decide) rfl ?_
                        refine v_goto 2 rfl aX8_faultOf_99 ?_
                        refine ih (i + 1) _ (by omega) (by omega) (Or.inr ⟨_, _, _, rfl⟩) ?_
                        rw [if_pos (by omega), if_pos (by unfold mayS; first | (rw [if_pos (by omega)]; omega) | (rw [if_neg (by omega)]; omega))] at hh
                        exact hh
                      · --
                        refine v_iload_n aX8_faultOf_94 rfl ?_
                        refine v_ireturn aX8_faultOf_95 rfl ⟨Nat.le_refl _, Nat.le_refl _⟩ ?_
                        rw [if_pos (by omega), if_neg (by unfold mayS; first | (rw [if_pos (by omega)]; omega) | (rw [if_neg (by omega)]; omega))] at hh
                        exact hh
                    · --
                      refine v_iload aX8_faultOf_82 rfl ?_
                      refine v_if_ne 96 rfl aX8_faultOf_84 (by omega) (fun c84 => ?_) (fun c84 => ?_)
                      · --
                        refine v_iinc aX8_faultOf_96 rfl (by decide) rfl ?_
                        refine v_goto 2 rfl aX8_faultOf_99 ?_
                        refine ih (i + 1) _ (by omega) (by omega) (Or.inr ⟨_, _, _, rfl⟩) ?_
                        rw [if_pos (by omega), if_pos (by unfold mayS; first | (rw [if_pos (by omega)]; omega) | (rw [if_neg (by omega)]; omega))] at hh
                        exact hh
                      · --
                        refine v_goto 94 rfl aX8_faultOf_87 ?_
                        refine v_iload_n aX8_faultOf_94 rfl ?_
                        refine v_ireturn aX8_faultOf_95 rfl ⟨Nat.le_refl _, Nat.le_refl _⟩ ?_
                        rw [if_pos (by omega), if_neg (by unfold mayS; first | (rw [if_pos (by omega)]; omega) | (rw [if_neg (by omega)]; omega))] at hh
                        exact hh
    rcases hL with rfl | ⟨a, b, c, rfl⟩
    · exact hL2
    · exact v_take 2 rfl hL2
set_option maxHeartbeats 4000000 in
set_option maxRecDepth 100000 in
theorem c_X8_faultOf (hM : ModS S m) (h : MoAt μ m t g n) (ht : 2 ≤ t.1 ∧ t.1 ≤ 6) (hp : PadOk g n) : Ct l G cX8_faultOf (yX8_faultOf, 5, (some FieldType.int), 2, 0, 0) [.ref m] S μ (Ri S (sp_fault t g n) μ) := by
  have f0 : μ m 0 = t.1 := h.1.1
  have f3 : μ m 3 = t.2.1 := h.1.2.1
  have f9 : μ m 9 = t.2.2.1 := h.1.2.2.1
  have f1 : μ m 1 = n := h.2.2
  obtain ⟨hn, hg⟩ := id hp
  have fg : μ (m + 1) = g := h.2.1
  refine Ct.of (by decide) rfl (by simp [vi, Value.category]) (Nat.le_of_ble_eq_true rfl) ?_
  refine v_iconst aX8_faultOf_0 ?_
  refine v_istore_n aX8_faultOf_1 (by decide) rfl ?_
  exact l_X8_faultOf hM h ht hp 41 0 _ (by omega) (by omega) (Or.inl rfl) ⟨rfl, rfl, rfl⟩
set_option maxHeartbeats 4000000 in
set_option maxRecDepth 100000 in
theorem c_X8_fault (hM : ModS S m) (h : MoAt μ m t g n) (ht : 2 ≤ t.1 ∧ t.1 ≤ 6) (hp : PadOk g n) : Ct l G cX8_fault (yX8_fault, 1, (some FieldType.int), 3, 0, 0) [.ref m] S μ (Re S (fun z μ' => z = sp_fault t g n ∧ MoAt μ' m t g n ∧ Out μ μ' m 22)) := by
  have f0 : μ m 0 = t.1 := h.1.1
  have f3 : μ m 3 = t.2.1 := h.1.2.1
  have f9 : μ m 9 = t.2.2.1 := h.1.2.2.1
  have f1 : μ m 1 = n := h.2.2
  obtain ⟨hn, hg⟩ := id hp
  have fg : μ (m + 1) = g := h.2.1
  refine Ct.of (by decide) rfl (by simp [vi, Value.category]) (Nat.le_of_ble_eq_true rfl) ?_
  refine v_aload_n aX8_fault_0 rfl ?_
  refine v_cVi (c_X8_faultOf hM h ht hp) aX8_fault_1 mX8_faultOf vX8_faultOf lX8_93 hM.p rfl rfl rfl rfl rfl (Nat.le_of_ble_eq_true rfl) ⟨Nat.le_of_ble_eq_true rfl, Nat.le_of_ble_eq_true rfl⟩ (Nat.le_of_ble_eq_true rfl) ?_
  refine v_ireturn aX8_fault_4 rfl ⟨Nat.le_refl _, Nat.le_refl _⟩ ?_
  exact ⟨_, rfl, rfl, rfl, h, Out.rf⟩
set_option maxHeartbeats 4000000 in
set_option maxRecDepth 100000 in
theorem c_X8_strike (hM : ModS S m) (h : MoAt μ m t g n) (hc : 0 ≤ t.2.1 ∧ t.2.1 ≤ 12) : Ct l G cX8_strike (yX8_strike, 1, (some FieldType.int), 0, 0, 0) [.ref m] S μ (Re S (fun z μ' => z = (sp_strike t).1 ∧ MoAt μ' m (sp_strike t).2 g n ∧ Out μ μ' m 22)) := by
  have f0 : μ m 0 = t.1 := h.1.1
  have f3 : μ m 3 = t.2.1 := h.1.2.1
  have f9 : μ m 9 = t.2.2.1 := h.1.2.2.1
  have f1 : μ m 1 = n := h.2.2
  refine Ct.of (by decide) rfl (by simp [vi, Value.category]) (Nat.le_of_ble_eq_true rfl) ?_
  refine v_aload_n aX8_strike_0 rfl ?_
  refine v_gi 3 rfl aX8_strike_1 fX8_83 hM.p rfl rfl ?_
  rw [f3]
  refine v_if_ne 10 rfl aX8_strike_4 (by omega) (fun c4 => ?_) (fun c4 => ?_)
  · --
    refine v_aload_n aX8_strike_10 rfl ?_
    refine v_dup rfl aX8_strike_11 ?_
    refine v_gi 3 rfl aX8_strike_12 fX8_83 hM.p rfl rfl ?_
    rw [f3]
    refine v_iconst aX8_strike_15 ?_
    refine v_isub aX8_strike_16 ?_
    refine v_pi 3 rfl aX8_strike_17 fX8_83 nf8_3 ok8_3 hM.p rfl rfl ?_
    refine v_aload_n aX8_strike_20 rfl ?_
    refine v_gi 3 rfl aX8_strike_21 fX8_83 hM.p rfl rfl ?_
    rw [upd2_same]
    refine v_ireturn aX8_strike_24 rfl ⟨Nat.le_refl _, Nat.le_refl _⟩ ?_
    unfold sp_strike
    rw [if_neg (by omega)]
    exact ⟨_, rfl, rfl, rfl, h.set_c, Out.upd (by omega)⟩
  · --
    refine v_bipush (by decide) aX8_strike_7 ?_
    refine v_ireturn aX8_strike_9 rfl ⟨Nat.le_refl _, Nat.le_refl _⟩ ?_
    rw [show sp_strike t = (-5, t) from if_pos (by omega)]
    exact ⟨_, rfl, rfl, rfl, h, Out.rf⟩
set_option maxHeartbeats 4000000 in
set_option maxRecDepth 100000 in
theorem c_X8_saying {i w : Int} (hM : ModS S m) (h : MoAt μ m t g n) (hi : (-2147483648 ≤ i ∧ i < 2147483648)) (hw : (-2147483648 ≤ w ∧ w < 2147483648)) (hc : 0 ≤ t.2.1 ∧ t.2.1 ≤ 12) : Ct l G cX8_saying (yX8_saying, 3, (some FieldType.int), 1, 0, 0) [.ref m, vi i, vi w] S μ (Re S (fun z μ' => z = sp_saying t i w ∧ MoAt μ' m t g n ∧ Out μ μ' m 22)) := by
  have f0 : μ m 0 = t.1 := h.1.1
  have f3 : μ m 3 = t.2.1 := h.1.2.1
  have f9 : μ m 9 = t.2.2.1 := h.1.2.2.1
  have f1 : μ m 1 = n := h.2.2
  refine Ct.of (by decide) rfl (by simp [vi, Value.category]) (Nat.le_of_ble_eq_true rfl) ?_
  refine v_iload_n aX8_saying_0 rfl ?_
  refine v_iconst aX8_saying_1 ?_
  refine v_aload_n aX8_saying_2 rfl ?_
  refine v_gi 3 rfl aX8_saying_3 fX8_83 hM.p rfl rfl ?_
  rw [f3]
  refine v_iconst aX8_saying_6 ?_
  refine v_isub aX8_saying_7 ?_
  refine v_cSi (c_X8_in (by omega) (by omega) (by omega)) aX8_saying_8 mX8_in sX8_in lX8_79 rfl rfl (Nat.le_of_ble_eq_true rfl) ⟨Nat.le_of_ble_eq_true rfl, Nat.le_of_ble_eq_true rfl⟩ (Nat.le_of_ble_eq_true rfl) ?_
  refine v_if_ne_b 16 rfl aX8_saying_11 (fun c11 => ?_) (fun c11 => ?_)
  · --
    refine v_iload_n aX8_saying_16 rfl ?_
    refine v_iconst aX8_saying_17 ?_
    refine v_iconst aX8_saying_18 ?_
    refine v_cSi (c_X8_in (by omega) (by omega) (by omega)) aX8_saying_19 mX8_in sX8_in lX8_79 rfl rfl (Nat.le_of_ble_eq_true rfl) ⟨Nat.le_of_ble_eq_true rfl, Nat.le_of_ble_eq_true rfl⟩ (Nat.le_of_ble_eq_true rfl) ?_
    refine v_if_eq_b 38 rfl aX8_saying_22 (fun c22 => ?_) (fun c22 => ?_)
    · --
      refine v_bipush (by decide) aX8_saying_38 ?_
      refine v_ireturn aX8_saying_40 rfl ⟨Nat.le_refl _, Nat.le_refl _⟩ ?_
      unfold sp_saying
      rw [if_pos (by omega)]
      first
        | (rw [if_pos c22]; exact ⟨_, rfl, rfl, h.1.2.2.2.1 _ (by omega) (by omega), h, Out.rf⟩)
        | (rw [if_neg c22]; exact ⟨_, rfl, rfl, rfl, h, Out.rf⟩)
    · --
      refine v_aload_n aX8_saying_25 rfl ?_
      refine v_getr aX8_saying_26 fX8_17 hM.p rfl rfl ?_
      refine v_iconst aX8_saying_29 ?_
      refine v_iload_n aX8_saying_30 rfl ?_
      refine v_imul aX8_saying_31 ?_
      refine v_iload_n aX8_saying_32 rfl ?_
      refine v_iadd aX8_saying_33 ?_
      refine v_iald aX8_saying_34 hM.p_book (by omega) (by decide) ?_
      refine v_goto 40 rfl aX8_saying_35 ?_
      refine v_ireturn aX8_saying_40 rfl ⟨Nat.le_refl _, Nat.le_refl _⟩ ?_
      unfold sp_saying
      rw [if_pos (by omega)]
      first
        | (rw [if_pos c22]; exact ⟨_, rfl, rfl, h.1.2.2.2.1 _ (by omega) (by omega), h, Out.rf⟩)
        | (rw [if_neg c22]; exact ⟨_, rfl, rfl, rfl, h, Out.rf⟩)
  · --
    refine v_iconst aX8_saying_14 ?_
    refine v_ireturn aX8_saying_15 rfl ⟨Nat.le_refl _, Nat.le_refl _⟩ ?_
    rw [show sp_saying t i w = -1 from if_neg (by omega)]
    exact ⟨_, rfl, rfl, rfl, h, Out.rf⟩
set_option maxHeartbeats 4000000 in
set_option maxRecDepth 100000 in
theorem c_X8_toll {r v : Int} (hM : ModS S m) (h : MoAt μ m t g n) (hr : (-2147483648 ≤ r ∧ r < 2147483648)) (hv : (-2147483648 ≤ v ∧ v < 2147483648)) : Ct l G cX8_toll (yX8_toll, 4, (some FieldType.int), 1, 0, 0) [.ref m, vi r, vi v] S μ (Re S (fun z μ' => z = (sp_toll t r v).1 ∧ MoAt μ' m (sp_toll t r v).2 g n ∧ Out μ μ' m 22)) := by
  have f0 : μ m 0 = t.1 := h.1.1
  have f3 : μ m 3 = t.2.1 := h.1.2.1
  have f9 : μ m 9 = t.2.2.1 := h.1.2.2.1
  have f1 : μ m 1 = n := h.2.2
  refine Ct.of (by decide) rfl (by simp [vi, Value.category]) (Nat.le_of_ble_eq_true rfl) ?_
  refine v_iload_n aX8_toll_0 rfl ?_
  refine v_iconst aX8_toll_1 ?_
  refine v_iconst aX8_toll_2 ?_
  refine v_cSi (c_X8_in (by omega) (by omega) (by omega)) aX8_toll_3 mX8_in sX8_in lX8_79 rfl rfl (Nat.le_of_ble_eq_true rfl) ⟨Nat.le_of_ble_eq_true rfl, Nat.le_of_ble_eq_true rfl⟩ (Nat.le_of_ble_eq_true rfl) ?_
  refine v_if_eq_b 19 rfl aX8_toll_6 (fun c6 => ?_) (fun c6 => ?_)
  · --
    refine v_bipush (by decide) aX8_toll_19 ?_
    refine v_ireturn aX8_toll_21 rfl ⟨Nat.le_refl _, Nat.le_refl _⟩ ?_
    rw [show sp_toll t r v = (-2, t) from if_neg (by omega)]
    exact ⟨_, rfl, rfl, rfl, h, Out.rf⟩
  · --
    refine v_iload_n aX8_toll_9 rfl ?_
    refine v_iconst aX8_toll_10 ?_
    refine v_bipush (by decide) aX8_toll_11 ?_
    refine v_cSi (c_X8_in (by omega) (by omega) (by omega)) aX8_toll_13 mX8_in sX8_in lX8_79 rfl rfl (Nat.le_of_ble_eq_true rfl) ⟨Nat.le_of_ble_eq_true rfl, Nat.le_of_ble_eq_true rfl⟩ (Nat.le_of_ble_eq_true rfl) ?_
    refine v_if_ne_b 22 rfl aX8_toll_16 (fun c16 => ?_) (fun c16 => ?_)
    · --
      refine v_aload_n aX8_toll_22 rfl ?_
      refine v_getr aX8_toll_23 fX8_23 hM.p rfl rfl ?_
      refine v_iload_n aX8_toll_26 rfl ?_
      refine v_iald aX8_toll_27 hM.p_tolls (by omega) (by decide) ?_
      refine v_istore_n aX8_toll_28 (by decide) rfl ?_
      refine v_aload_n aX8_toll_29 rfl ?_
      refine v_getr aX8_toll_30 fX8_23 hM.p rfl rfl ?_
      refine v_iload_n aX8_toll_33 rfl ?_
      refine v_iload_n aX8_toll_34 rfl ?_
      refine v_iast aX8_toll_35 hM.p_tolls (by omega) (by decide) ?_
      refine v_iload_n aX8_toll_36 rfl ?_
      refine v_ireturn aX8_toll_37 rfl ⟨Nat.le_refl _, Nat.le_refl _⟩ ?_
      unfold sp_toll
      rw [if_pos ⟨by omega, by omega⟩]
      exact ⟨_, rfl, rfl, h.1.2.2.2.2.2.2.2.1 r (by omega) (by omega), h.set_tl, Out.upd (by omega)⟩
    · --
      refine v_bipush (by decide) aX8_toll_19 ?_
      refine v_ireturn aX8_toll_21 rfl ⟨Nat.le_refl _, Nat.le_refl _⟩ ?_
      rw [show sp_toll t r v = (-2, t) from if_neg (by omega)]
      exact ⟨_, rfl, rfl, rfl, h, Out.rf⟩
set_option maxHeartbeats 4000000 in
set_option maxRecDepth 100000 in
theorem c_X8_known {s a b : Int} (hM : ModS S m) (h : MoAt μ m t g n) (hs : (-2147483648 ≤ s ∧ s < 2147483648)) (ha : (-2147483648 ≤ a ∧ a < 2147483648)) (hb : (-2147483648 ≤ b ∧ b < 2147483648)) (ht : 2 ≤ t.1 ∧ t.1 ≤ 6) : Ct l G cX8_known (yX8_known, 4, (some FieldType.int), 2, 0, 0) [.ref m, vi s, vi a, vi b] S μ (Re S (fun z μ' => z = (sp_known t s a b).1 ∧ MoAt μ' m (sp_known t s a b).2 g n ∧ Out μ μ' m 22)) := by
  have f0 : μ m 0 = t.1 := h.1.1
  have f3 : μ m 3 = t.2.1 := h.1.2.1
  have f9 : μ m 9 = t.2.2.1 := h.1.2.2.1
  have f1 : μ m 1 = n := h.2.2
  refine Ct.of (by decide) rfl (by simp [vi, Value.category]) (Nat.le_of_ble_eq_true rfl) ?_
  refine v_aload_n aX8_known_0 rfl ?_
  refine v_iload_n aX8_known_1 rfl ?_
  refine v_cVi (c_X8_isSack hM (by omega) (by omega)) aX8_known_2 mX8_isSack vX8_isSack lX8_89 hM.p rfl rfl rfl rfl rfl (Nat.le_of_ble_eq_true rfl) ⟨Nat.le_of_ble_eq_true rfl, Nat.le_of_ble_eq_true rfl⟩ (Nat.le_of_ble_eq_true rfl) ?_
  refine v_if_ne_b 10 rfl aX8_known_5 (fun c5 => ?_) (fun c5 => ?_)
  · --
    refine v_iload_n aX8_known_10 rfl ?_
    refine v_iconst aX8_known_11 ?_
    refine v_sipush (by decide) aX8_known_12 ?_
    refine v_cSi (c_X8_in (by omega) (by omega) (by omega)) aX8_known_15 mX8_in sX8_in lX8_79 rfl rfl (Nat.le_of_ble_eq_true rfl) ⟨Nat.le_of_ble_eq_true rfl, Nat.le_of_ble_eq_true rfl⟩ (Nat.le_of_ble_eq_true rfl) ?_
    refine v_if_eq_b 32 rfl aX8_known_18 (fun c18 => ?_) (fun c18 => ?_)
    · --
      refine v_bipush (by decide) aX8_known_32 ?_
      refine v_ireturn aX8_known_34 rfl ⟨Nat.le_refl _, Nat.le_refl _⟩ ?_
      unfold sp_known
      rw [if_pos (by omega), if_neg (by omega)]
      exact ⟨_, rfl, rfl, rfl, h, Out.rf⟩
    · --
      refine v_iload_n aX8_known_21 rfl ?_
      refine v_iload_n aX8_known_22 rfl ?_
      refine v_sipush (by decide) aX8_known_23 ?_
      refine v_cSi (c_X8_in (by omega) (by omega) (by omega)) aX8_known_26 mX8_in sX8_in lX8_79 rfl rfl (Nat.le_of_ble_eq_true rfl) ⟨Nat.le_of_ble_eq_true rfl, Nat.le_of_ble_eq_true rfl⟩ (Nat.le_of_ble_eq_true rfl) ?_
      refine v_if_ne_b 35 rfl aX8_known_29 (fun c29 => ?_) (fun c29 => ?_)
      · --
        refine v_aload_n aX8_known_35 rfl ?_
        refine v_getr aX8_known_36 fX8_26 hM.p rfl rfl ?_
        refine v_iload_n aX8_known_39 rfl ?_
        refine v_iload_n aX8_known_40 rfl ?_
        refine v_iast aX8_known_41 hM.p_low (by omega) (by decide) ?_
        refine v_aload_n aX8_known_42 rfl ?_
        refine v_getr aX8_known_43 fX8_29 hM.p rfl rfl ?_
        refine v_iload_n aX8_known_46 rfl ?_
        refine v_iload_n aX8_known_47 rfl ?_
        refine v_iast aX8_known_48 hM.p_high (by omega) (by decide) ?_
        refine v_iconst aX8_known_49 ?_
        refine v_ireturn aX8_known_50 rfl ⟨Nat.le_refl _, Nat.le_refl _⟩ ?_
        unfold sp_known
        rw [if_pos (by omega), if_pos (by omega)]
        exact ⟨_, rfl, rfl, rfl, (h.set_lo).set_hi, (Out.upd (by omega)).trans (Out.upd (by omega))⟩
      · --
        refine v_bipush (by decide) aX8_known_32 ?_
        refine v_ireturn aX8_known_34 rfl ⟨Nat.le_refl _, Nat.le_refl _⟩ ?_
        unfold sp_known
        rw [if_pos (by omega), if_neg (by omega)]
        exact ⟨_, rfl, rfl, rfl, h, Out.rf⟩
  · --
    refine v_iconst aX8_known_8 ?_
    refine v_ireturn aX8_known_9 rfl ⟨Nat.le_refl _, Nat.le_refl _⟩ ?_
    rw [show sp_known t s a b = (-1, t) from if_neg (by omega)]
    exact ⟨_, rfl, rfl, rfl, h, Out.rf⟩
set_option maxHeartbeats 4000000 in
set_option maxRecDepth 100000 in
theorem c_X8_loss {v : Int} (hM : ModS S m) (h : MoAt μ m t g n) (hv : (-2147483648 ≤ v ∧ v < 2147483648)) : Ct l G cX8_loss (yX8_loss, 3, (some FieldType.int), 1, 0, 0) [.ref m, vi v] S μ (Re S (fun z μ' => z = (sp_loss t v).1 ∧ MoAt μ' m (sp_loss t v).2 g n ∧ Out μ μ' m 22)) := by
  have f0 : μ m 0 = t.1 := h.1.1
  have f3 : μ m 3 = t.2.1 := h.1.2.1
  have f9 : μ m 9 = t.2.2.1 := h.1.2.2.1
  have f1 : μ m 1 = n := h.2.2
  refine Ct.of (by decide) rfl (by simp [vi, Value.category]) (Nat.le_of_ble_eq_true rfl) ?_
  refine v_iload_n aX8_loss_0 rfl ?_
  refine v_iconst aX8_loss_1 ?_
  refine v_bipush (by decide) aX8_loss_2 ?_
  refine v_cSi (c_X8_in (by omega) (by omega) (by omega)) aX8_loss_4 mX8_in sX8_in lX8_79 rfl rfl (Nat.le_of_ble_eq_true rfl) ⟨Nat.le_of_ble_eq_true rfl, Nat.le_of_ble_eq_true rfl⟩ (Nat.le_of_ble_eq_true rfl) ?_
  refine v_if_ne_b 13 rfl aX8_loss_7 (fun c7 => ?_) (fun c7 => ?_)
  · --
    refine v_aload_n aX8_loss_13 rfl ?_
    refine v_gi 9 rfl aX8_loss_14 fX8_168 hM.p rfl rfl ?_
    refine v_istore_n aX8_loss_17 (by decide) rfl ?_
    refine v_aload_n aX8_loss_18 rfl ?_
    refine v_iload_n aX8_loss_19 rfl ?_
    refine v_pi 9 rfl aX8_loss_20 fX8_168 nf8_9 ok8_9 hM.p rfl rfl ?_
    refine v_iload_n aX8_loss_23 rfl ?_
    refine v_ireturn aX8_loss_24 rfl ⟨Nat.le_refl _, Nat.le_refl _⟩ ?_
    unfold sp_loss
    rw [if_pos (by omega)]
    exact ⟨_, rfl, rfl, f9, h.set_l, Out.upd (by omega)⟩
  · --
    refine v_bipush (by decide) aX8_loss_10 ?_
    refine v_ireturn aX8_loss_12 rfl ⟨Nat.le_refl _, Nat.le_refl _⟩ ?_
    rw [show sp_loss t v = (-2, t) from if_neg (by omega)]
    exact ⟨_, rfl, rfl, rfl, h, Out.rf⟩
set_option maxHeartbeats 4000000 in
set_option maxRecDepth 100000 in
theorem c_X8_weight {s v : Int} (hM : ModS S m) (h : MoAt μ m t g n) (hs : (-2147483648 ≤ s ∧ s < 2147483648)) (hv : (-2147483648 ≤ v ∧ v < 2147483648)) (ht : 2 ≤ t.1 ∧ t.1 ≤ 6) : Ct l G cX8_weight (yX8_weight, 4, (some FieldType.int), 2, 0, 0) [.ref m, vi s, vi v] S μ (Re S (fun z μ' => z = (sp_weight t s v).1 ∧ MoAt μ' m (sp_weight t s v).2 g n ∧ Out μ μ' m 22)) := by
  have f0 : μ m 0 = t.1 := h.1.1
  have f3 : μ m 3 = t.2.1 := h.1.2.1
  have f9 : μ m 9 = t.2.2.1 := h.1.2.2.1
  have f1 : μ m 1 = n := h.2.2
  refine Ct.of (by decide) rfl (by simp [vi, Value.category]) (Nat.le_of_ble_eq_true rfl) ?_
  refine v_aload_n aX8_weight_0 rfl ?_
  refine v_iload_n aX8_weight_1 rfl ?_
  refine v_cVi (c_X8_isSack hM (by omega) (by omega)) aX8_weight_2 mX8_isSack vX8_isSack lX8_89 hM.p rfl rfl rfl rfl rfl (Nat.le_of_ble_eq_true rfl) ⟨Nat.le_of_ble_eq_true rfl, Nat.le_of_ble_eq_true rfl⟩ (Nat.le_of_ble_eq_true rfl) ?_
  refine v_if_ne_b 10 rfl aX8_weight_5 (fun c5 => ?_) (fun c5 => ?_)
  · --
    refine v_iload_n aX8_weight_10 rfl ?_
    refine v_iconst aX8_weight_11 ?_
    refine v_bipush (by decide) aX8_weight_12 ?_
    refine v_cSi (c_X8_in (by omega) (by omega) (by omega)) aX8_weight_14 mX8_in sX8_in lX8_79 rfl rfl (Nat.le_of_ble_eq_true rfl) ⟨Nat.le_of_ble_eq_true rfl, Nat.le_of_ble_eq_true rfl⟩ (Nat.le_of_ble_eq_true rfl) ?_
    refine v_if_ne_b 23 rfl aX8_weight_17 (fun c17 => ?_) (fun c17 => ?_)
    · --
      refine v_aload_n aX8_weight_23 rfl ?_
      refine v_getr aX8_weight_24 fX8_32 hM.p rfl rfl ?_
      refine v_iload_n aX8_weight_27 rfl ?_
      refine v_iald aX8_weight_28 hM.p_weights (by omega) (by decide) ?_
      refine v_istore_n aX8_weight_29 (by decide) rfl ?_
      refine v_aload_n aX8_weight_30 rfl ?_
      refine v_getr aX8_weight_31 fX8_32 hM.p rfl rfl ?_
      refine v_iload_n aX8_weight_34 rfl ?_
      refine v_iload_n aX8_weight_35 rfl ?_
      refine v_iast aX8_weight_36 hM.p_weights (by omega) (by decide) ?_
      refine v_iload_n aX8_weight_37 rfl ?_
      refine v_ireturn aX8_weight_38 rfl ⟨Nat.le_refl _, Nat.le_refl _⟩ ?_
      unfold sp_weight
      rw [if_pos (by omega), if_pos (by omega)]
      exact ⟨_, rfl, rfl, h.1.2.2.2.2.2.2.2.2 s (by omega) (by omega), h.set_wt, Out.upd (by omega)⟩
    · --
      refine v_bipush (by decide) aX8_weight_20 ?_
      refine v_ireturn aX8_weight_22 rfl ⟨Nat.le_refl _, Nat.le_refl _⟩ ?_
      unfold sp_weight
      rw [if_pos (by omega), if_neg (by omega)]
      exact ⟨_, rfl, rfl, rfl, h, Out.rf⟩
  · --
    refine v_iconst aX8_weight_8 ?_
    refine v_ireturn aX8_weight_9 rfl ⟨Nat.le_refl _, Nat.le_refl _⟩ ?_
    rw [show sp_weight t s v = (-1, t) from if_neg (by omega)]
    exact ⟨_, rfl, rfl, rfl, h, Out.rf⟩
end MOD1
end
section
/-! the model: line, told, image, restore -/
theorem tq (w : Int) : w = 10 * w.tdiv 10 + w.tmod 10 ∧ (0 ≤ w → 0 ≤ w.tmod 10 ∧ w.tmod 10 < 10) ∧ (w < 0 → -10 < w.tmod 10 ∧ w.tmod 10 ≤ 0) := by
  refine ⟨(Int.mul_tdiv_add_tmod w 10).symm, fun h => ⟨Int.tmod_nonneg 10 h, Int.tmod_lt_of_pos w (by decide)⟩, fun h => ?_⟩
  have h1 : (-w).tmod 10 = -(w.tmod 10) := Int.neg_tmod w 10
  have h2 : 0 ≤ (-w).tmod 10 := Int.tmod_nonneg 10 (by omega)
  have h3 : (-w).tmod 10 < 10 := Int.tmod_lt_of_pos (-w) (by decide)
  omega
/-- an image i in the row of images -/
def MiAt (f : Int → Int) (i : Int) (t : BSt) : Prop := (∀ z : Int, 0 ≤ z → z < 60 → f (93 * i + z) = t.2.2.2.1 z) ∧ (∀ k : Int, 0 ≤ k → k < 6 → f (93 * i + 60 + k) = t.2.2.2.2.1 k ∧ f (93 * i + 66 + k) = t.2.2.2.2.2.2.2.1 k ∧ f (93 * i + 72 + k) = t.2.2.2.2.2.1 k ∧ f (93 * i + 78 + k) = t.2.2.2.2.2.2.1 k ∧ f (93 * i + 84 + k) = t.2.2.2.2.2.2.2.2 k) ∧ f (93 * i + 90) = t.1 ∧ f (93 * i + 91) = t.2.1 ∧ f (93 * i + 92) = t.2.2.1
section MOD2
variable {l : Launch} {G : Glb} {S : Sh} {μ : Mu} {m : Nat} {t : BSt} {g : Int → Int} {n : Int}
set_option maxHeartbeats 4000000 in
set_option maxRecDepth 100000 in
theorem c_X8_told {w : Int} (hM : ModS S m) (h : MoAt μ m t g n) (hw : (-2147483648 ≤ w ∧ w < 2147483648)) (ht : 2 ≤ t.1 ∧ t.1 ≤ 6) : Ct l G cX8_told (yX8_told, 3, (some FieldType.int), 2, 0, 0) [.ref m, vi w] S μ (Re S (fun z μ' => z = sp_told t n w ∧ MoAt μ' m t g n ∧ Out μ μ' m 22)) := by
  have f0 : μ m 0 = t.1 := h.1.1
  have f3 : μ m 3 = t.2.1 := h.1.2.1
  have f9 : μ m 9 = t.2.2.1 := h.1.2.2.1
  have f1 : μ m 1 = n := h.2.2
  have hq := tq w
  refine Ct.of (by decide) rfl (by simp [vi, Value.category]) (Nat.le_of_ble_eq_true rfl) ?_
  refine v_iload_n aX8_told_0 rfl ?_
  refine v_bipush (by decide) aX8_told_1 ?_
  refine v_bipush (by decide) aX8_told_3 ?_
  refine v_cSi (c_X8_in (by omega) (by omega) (by omega)) aX8_told_5 mX8_in sX8_in lX8_79 rfl rfl (Nat.le_of_ble_eq_true rfl) ⟨Nat.le_of_ble_eq_true rfl, Nat.le_of_ble_eq_true rfl⟩ (Nat.le_of_ble_eq_true rfl) ?_
  refine v_if_eq_b 21 rfl aX8_told_8 (fun c8 => ?_) (fun c8 => ?_)
  · --
    refine v_iload_n aX8_told_21 rfl ?_
    refine v_bipush (by decide) aX8_told_22 ?_
    refine v_iremT (by omega) (by omega) aX8_told_24 ?_
    refine v_istore_n aX8_told_25 (by decide) rfl ?_
    refine v_iload_n aX8_told_26 rfl ?_
    refine v_iconst aX8_told_27 ?_
    refine v_iconst aX8_told_28 ?_
    refine v_cSi (c_X8_in (by omega) (by omega) (by omega)) aX8_told_29 mX8_in sX8_in lX8_79 rfl rfl (Nat.le_of_ble_eq_true rfl) ⟨Nat.le_of_ble_eq_true rfl, Nat.le_of_ble_eq_true rfl⟩ (Nat.le_of_ble_eq_true rfl) ?_
    refine v_if_ne_b 46 rfl aX8_told_32 (fun c32 => ?_) (fun c32 => ?_)
    · --
      refine v_iload_n aX8_told_46 rfl ?_
      refine v_bipush (by decide) aX8_told_47 ?_
      refine v_idivT (by omega) (by omega) aX8_told_49 ?_
      rcases (show w.tdiv 10 < 0 ∨ 5 < w.tdiv 10 ∨ w.tdiv 10 = 0 ∨ w.tdiv 10 = 1 ∨ w.tdiv 10 = 2 ∨ w.tdiv 10 = 3 ∨ w.tdiv 10 = 4 ∨ w.tdiv 10 = 5 by omega) with t50 | t50 | t50 | t50 | t50 | t50 | t50 | t50
      · --
        refine v_tableOut 166 aX8_told_50 (by omega) (Or.inl t50) rfl ?_
        refine v_bipush (by decide) aX8_told_166 ?_
        refine v_ireturn aX8_told_168 rfl ⟨Nat.le_refl _, Nat.le_refl _⟩ ?_
        refine ⟨_, rfl, rfl, ?_, h, Out.rf⟩
        unfold sp_told
        repeat rw [if_neg (by omega)]
      · --
        refine v_tableOut 166 aX8_told_50 (by omega) (Or.inr t50) rfl ?_
        refine v_bipush (by decide) aX8_told_166 ?_
        refine v_ireturn aX8_told_168 rfl ⟨Nat.le_refl _, Nat.le_refl _⟩ ?_
        refine ⟨_, rfl, rfl, ?_, h, Out.rf⟩
        unfold sp_told
        repeat rw [if_neg (by omega)]
      · --
        refine v_tableIn 88 aX8_told_50 (by omega) (by omega) (by omega) (by rw [t50]; rfl) rfl ?_
        refine v_iload_n aX8_told_88 rfl ?_
        refine v_if_ne 99 rfl aX8_told_89 (by omega) (fun c89 => ?_) (fun c89 => ?_)
        · --
          refine v_iload_n aX8_told_99 rfl ?_
          refine v_iconst aX8_told_100 ?_
          refine v_icmp_ne 111 rfl aX8_told_101 (by omega) (by omega) (fun c101 => ?_) (fun c101 => ?_)
          · --
            refine v_iload_n aX8_told_111 rfl ?_
            refine v_iconst aX8_told_112 ?_
            refine v_icmp_ne 123 rfl aX8_told_113 (by omega) (by omega) (fun c113 => ?_) (fun c113 => ?_)
            · --
              refine v_iload_n aX8_told_123 rfl ?_
              refine v_iconst aX8_told_124 ?_
              refine v_icmp_ne 135 rfl aX8_told_125 (by omega) (by omega) (fun c125 => ?_) (fun c125 => ?_)
              · --
                refine v_bipush (by decide) aX8_told_135 ?_
                refine v_ireturn aX8_told_137 rfl ⟨Nat.le_refl _, Nat.le_refl _⟩ ?_
                refine ⟨_, rfl, rfl, ?_, h, Out.rf⟩
                unfold sp_told
                first
                  | (rw [if_pos (by omega)]; exact f1)
                  | (rw [if_neg (by omega), if_pos (by omega)]; exact f0)
                  | (rw [if_neg (by omega), if_neg (by omega), if_pos (by omega)]; exact f3)
                  | (rw [if_neg (by omega), if_neg (by omega), if_neg (by omega), if_pos (by omega)]; exact f9)
                  | (repeat rw [if_neg (by omega)])
              · --
                refine v_aload_n aX8_told_128 rfl ?_
                refine v_gi 9 rfl aX8_told_129 fX8_168 hM.p rfl rfl ?_
                refine v_goto 137 rfl aX8_told_132 ?_
                refine v_ireturn aX8_told_137 rfl ⟨Nat.le_refl _, Nat.le_refl _⟩ ?_
                refine ⟨_, rfl, rfl, ?_, h, Out.rf⟩
                unfold sp_told
                first
                  | (rw [if_pos (by omega)]; exact f1)
                  | (rw [if_neg (by omega), if_pos (by omega)]; exact f0)
                  | (rw [if_neg (by omega), if_neg (by omega), if_pos (by omega)]; exact f3)
                  | (rw [if_neg (by omega), if_neg (by omega), if_neg (by omega), if_pos (by omega)]; exact f9)
                  | (repeat rw [if_neg (by omega)])
            · --
              refine v_aload_n aX8_told_116 rfl ?_
              refine v_gi 3 rfl aX8_told_117 fX8_83 hM.p rfl rfl ?_
              refine v_goto 137 rfl aX8_told_120 ?_
              refine v_ireturn aX8_told_137 rfl ⟨Nat.le_refl _, Nat.le_refl _⟩ ?_
              refine ⟨_, rfl, rfl, ?_, h, Out.rf⟩
              unfold sp_told
              first
                | (rw [if_pos (by omega)]; exact f1)
                | (rw [if_neg (by omega), if_pos (by omega)]; exact f0)
                | (rw [if_neg (by omega), if_neg (by omega), if_pos (by omega)]; exact f3)
                | (rw [if_neg (by omega), if_neg (by omega), if_neg (by omega), if_pos (by omega)]; exact f9)
                | (repeat rw [if_neg (by omega)])
          · --
            refine v_aload_n aX8_told_104 rfl ?_
            refine v_gi 0 rfl aX8_told_105 fX8_7 hM.p rfl rfl ?_
            refine v_goto 137 rfl aX8_told_108 ?_
            refine v_ireturn aX8_told_137 rfl ⟨Nat.le_refl _, Nat.le_refl _⟩ ?_
            refine ⟨_, rfl, rfl, ?_, h, Out.rf⟩
            unfold sp_told
            first
              | (rw [if_pos (by omega)]; exact f1)
              | (rw [if_neg (by omega), if_pos (by omega)]; exact f0)
              | (rw [if_neg (by omega), if_neg (by omega), if_pos (by omega)]; exact f3)
              | (rw [if_neg (by omega), if_neg (by omega), if_neg (by omega), if_pos (by omega)]; exact f9)
              | (repeat rw [if_neg (by omega)])
        · --
          refine v_aload_n aX8_told_92 rfl ?_
          refine v_gi 1 rfl aX8_told_93 fX8_86 hM.p rfl rfl ?_
          refine v_goto 137 rfl aX8_told_96 ?_
          refine v_ireturn aX8_told_137 rfl ⟨Nat.le_refl _, Nat.le_refl _⟩ ?_
          refine ⟨_, rfl, rfl, ?_, h, Out.rf⟩
          unfold sp_told
          first
            | (rw [if_pos (by omega)]; exact f1)
            | (rw [if_neg (by omega), if_pos (by omega)]; exact f0)
            | (rw [if_neg (by omega), if_neg (by omega), if_pos (by omega)]; exact f3)
            | (rw [if_neg (by omega), if_neg (by omega), if_neg (by omega), if_pos (by omega)]; exact f9)
            | (repeat rw [if_neg (by omega)])
      · --
        refine v_tableIn 166 aX8_told_50 (by omega) (by omega) (by omega) (by rw [t50]; rfl) rfl ?_
        refine v_bipush (by decide) aX8_told_166 ?_
        refine v_ireturn aX8_told_168 rfl ⟨Nat.le_refl _, Nat.le_refl _⟩ ?_
        refine ⟨_, rfl, rfl, ?_, h, Out.rf⟩
        unfold sp_told
        repeat rw [if_neg (by omega)]
      · --
        refine v_tableIn 138 aX8_told_50 (by omega) (by omega) (by omega) (by rw [t50]; rfl) rfl ?_
        refine v_aload_n aX8_told_138 rfl ?_
        refine v_getr aX8_told_139 fX8_32 hM.p rfl rfl ?_
        refine v_iload_n aX8_told_142 rfl ?_
        refine v_iald aX8_told_143 hM.p_weights (by omega) (by decide) ?_
        refine v_ireturn aX8_told_144 rfl ⟨Nat.le_refl _, Nat.le_refl _⟩ ?_
        refine ⟨_, rfl, rfl, ?_, h, Out.rf⟩
        unfold sp_told
        rw [if_neg (by omega), if_neg (by omega), if_neg (by omega), if_neg (by omega), if_neg (by omega), if_pos (by omega), h.1.2.2.2.2.2.2.2.2 _ (by omega) (by omega)]
        exact congrArg _ (by omega)
      · --
        refine v_tableIn 145 aX8_told_50 (by omega) (by omega) (by omega) (by rw [t50]; rfl) rfl ?_
        refine v_aload_n aX8_told_145 rfl ?_
        refine v_getr aX8_told_146 fX8_20 hM.p rfl rfl ?_
        refine v_iload_n aX8_told_149 rfl ?_
        refine v_iald aX8_told_150 hM.p_lifts (by omega) (by decide) ?_
        refine v_ireturn aX8_told_151 rfl ⟨Nat.le_refl _, Nat.le_refl _⟩ ?_
        refine ⟨_, rfl, rfl, ?_, h, Out.rf⟩
        unfold sp_told
        rw [if_neg (by omega), if_neg (by omega), if_neg (by omega), if_neg (by omega), if_neg (by omega), if_neg (by omega), if_pos (by omega), h.1.2.2.2.2.1 _ (by omega) (by omega)]
        exact congrArg _ (by omega)
      · --
        refine v_tableIn 152 aX8_told_50 (by omega) (by omega) (by omega) (by rw [t50]; rfl) rfl ?_
        refine v_aload_n aX8_told_152 rfl ?_
        refine v_getr aX8_told_153 fX8_26 hM.p rfl rfl ?_
        refine v_iload_n aX8_told_156 rfl ?_
        refine v_iald aX8_told_157 hM.p_low (by omega) (by decide) ?_
        refine v_ireturn aX8_told_158 rfl ⟨Nat.le_refl _, Nat.le_refl _⟩ ?_
        refine ⟨_, rfl, rfl, ?_, h, Out.rf⟩
        unfold sp_told
        rw [if_neg (by omega), if_neg (by omega), if_neg (by omega), if_neg (by omega), if_neg (by omega), if_neg (by omega), if_neg (by omega), if_pos (by omega), h.1.2.2.2.2.2.1 _ (by omega) (by omega)]
        exact congrArg _ (by omega)
      · --
        refine v_tableIn 159 aX8_told_50 (by omega) (by omega) (by omega) (by rw [t50]; rfl) rfl ?_
        refine v_aload_n aX8_told_159 rfl ?_
        refine v_getr aX8_told_160 fX8_29 hM.p rfl rfl ?_
        refine v_iload_n aX8_told_163 rfl ?_
        refine v_iald aX8_told_164 hM.p_high (by omega) (by decide) ?_
        refine v_ireturn aX8_told_165 rfl ⟨Nat.le_refl _, Nat.le_refl _⟩ ?_
        refine ⟨_, rfl, rfl, ?_, h, Out.rf⟩
        unfold sp_told
        rw [if_neg (by omega), if_neg (by omega), if_neg (by omega), if_neg (by omega), if_neg (by omega), if_neg (by omega), if_neg (by omega), if_neg (by omega), if_pos (by omega), h.1.2.2.2.2.2.2.1 _ (by omega) (by omega)]
        exact congrArg _ (by omega)
    · --
      refine v_aload_n aX8_told_35 rfl ?_
      refine v_iload_n aX8_told_36 rfl ?_
      refine v_cVi (c_X8_isSack hM (by omega) (by omega)) aX8_told_37 mX8_isSack vX8_isSack lX8_89 hM.p rfl rfl rfl rfl rfl (Nat.le_of_ble_eq_true rfl) ⟨Nat.le_of_ble_eq_true rfl, Nat.le_of_ble_eq_true rfl⟩ (Nat.le_of_ble_eq_true rfl) ?_
      refine v_if_ne_b 46 rfl aX8_told_40 (fun c40 => ?_) (fun c40 => ?_)
      · --
        refine v_iload_n aX8_told_46 rfl ?_
        refine v_bipush (by decide) aX8_told_47 ?_
        refine v_idivT (by omega) (by omega) aX8_told_49 ?_
        rcases (show w.tdiv 10 < 0 ∨ 5 < w.tdiv 10 ∨ w.tdiv 10 = 0 ∨ w.tdiv 10 = 1 ∨ w.tdiv 10 = 2 ∨ w.tdiv 10 = 3 ∨ w.tdiv 10 = 4 ∨ w.tdiv 10 = 5 by omega) with t50 | t50 | t50 | t50 | t50 | t50 | t50 | t50
        · --
          refine v_tableOut 166 aX8_told_50 (by omega) (Or.inl t50) rfl ?_
          refine v_bipush (by decide) aX8_told_166 ?_
          refine v_ireturn aX8_told_168 rfl ⟨Nat.le_refl _, Nat.le_refl _⟩ ?_
          refine ⟨_, rfl, rfl, ?_, h, Out.rf⟩
          unfold sp_told
          repeat rw [if_neg (by omega)]
        · --
          refine v_tableOut 166 aX8_told_50 (by omega) (Or.inr t50) rfl ?_
          refine v_bipush (by decide) aX8_told_166 ?_
          refine v_ireturn aX8_told_168 rfl ⟨Nat.le_refl _, Nat.le_refl _⟩ ?_
          refine ⟨_, rfl, rfl, ?_, h, Out.rf⟩
          unfold sp_told
          repeat rw [if_neg (by omega)]
        · --
          refine v_tableIn 88 aX8_told_50 (by omega) (by omega) (by omega) (by rw [t50]; rfl) rfl ?_
          refine v_iload_n aX8_told_88 rfl ?_
          refine v_if_ne 99 rfl aX8_told_89 (by omega) (fun c89 => ?_) (fun c89 => ?_)
          · --
            refine v_iload_n aX8_told_99 rfl ?_
            refine v_iconst aX8_told_100 ?_
            refine v_icmp_ne 111 rfl aX8_told_101 (by omega) (by omega) (fun c101 => ?_) (fun c101 => ?_)
            · --
              refine v_iload_n aX8_told_111 rfl ?_
              refine v_iconst aX8_told_112 ?_
              refine v_icmp_ne 123 rfl aX8_told_113 (by omega) (by omega) (fun c113 => ?_) (fun c113 => ?_)
              · --
                refine v_iload_n aX8_told_123 rfl ?_
                refine v_iconst aX8_told_124 ?_
                refine v_icmp_ne 135 rfl aX8_told_125 (by omega) (by omega) (fun c125 => ?_) (fun c125 => ?_)
                · --
                  refine v_bipush (by decide) aX8_told_135 ?_
                  refine v_ireturn aX8_told_137 rfl ⟨Nat.le_refl _, Nat.le_refl _⟩ ?_
                  refine ⟨_, rfl, rfl, ?_, h, Out.rf⟩
                  unfold sp_told
                  first
                    | (rw [if_pos (by omega)]; exact f1)
                    | (rw [if_neg (by omega), if_pos (by omega)]; exact f0)
                    | (rw [if_neg (by omega), if_neg (by omega), if_pos (by omega)]; exact f3)
                    | (rw [if_neg (by omega), if_neg (by omega), if_neg (by omega), if_pos (by omega)]; exact f9)
                    | (repeat rw [if_neg (by omega)])
                · --
                  refine v_aload_n aX8_told_128 rfl ?_
                  refine v_gi 9 rfl aX8_told_129 fX8_168 hM.p rfl rfl ?_
                  refine v_goto 137 rfl aX8_told_132 ?_
                  refine v_ireturn aX8_told_137 rfl ⟨Nat.le_refl _, Nat.le_refl _⟩ ?_
                  refine ⟨_, rfl, rfl, ?_, h, Out.rf⟩
                  unfold sp_told
                  first
                    | (rw [if_pos (by omega)]; exact f1)
                    | (rw [if_neg (by omega), if_pos (by omega)]; exact f0)
                    | (rw [if_neg (by omega), if_neg (by omega), if_pos (by omega)]; exact f3)
                    | (rw [if_neg (by omega), if_neg (by omega), if_neg (by omega), if_pos (by omega)]; exact f9)
                    | (repeat rw [if_neg (by omega)])
              · --
                refine v_aload_n aX8_told_116 rfl ?_
                refine v_gi 3 rfl aX8_told_117 fX8_83 hM.p rfl rfl ?_
                refine v_goto 137 rfl aX8_told_120 ?_
                refine v_ireturn aX8_told_137 rfl ⟨Nat.le_refl _, Nat.le_refl _⟩ ?_
                refine ⟨_, rfl, rfl, ?_, h, Out.rf⟩
                unfold sp_told
                first
                  | (rw [if_pos (by omega)]; exact f1)
                  | (rw [if_neg (by omega), if_pos (by omega)]; exact f0)
                  | (rw [if_neg (by omega), if_neg (by omega), if_pos (by omega)]; exact f3)
                  | (rw [if_neg (by omega), if_neg (by omega), if_neg (by omega), if_pos (by omega)]; exact f9)
                  | (repeat rw [if_neg (by omega)])
            · --
              refine v_aload_n aX8_told_104 rfl ?_
              refine v_gi 0 rfl aX8_told_105 fX8_7 hM.p rfl rfl ?_
              refine v_goto 137 rfl aX8_told_108 ?_
              refine v_ireturn aX8_told_137 rfl ⟨Nat.le_refl _, Nat.le_refl _⟩ ?_
              refine ⟨_, rfl, rfl, ?_, h, Out.rf⟩
              unfold sp_told
              first
                | (rw [if_pos (by omega)]; exact f1)
                | (rw [if_neg (by omega), if_pos (by omega)]; exact f0)
                | (rw [if_neg (by omega), if_neg (by omega), if_pos (by omega)]; exact f3)
                | (rw [if_neg (by omega), if_neg (by omega), if_neg (by omega), if_pos (by omega)]; exact f9)
                | (repeat rw [if_neg (by omega)])
          · --
            refine v_aload_n aX8_told_92 rfl ?_
            refine v_gi 1 rfl aX8_told_93 fX8_86 hM.p rfl rfl ?_
            refine v_goto 137 rfl aX8_told_96 ?_
            refine v_ireturn aX8_told_137 rfl ⟨Nat.le_refl _, Nat.le_refl _⟩ ?_
            refine ⟨_, rfl, rfl, ?_, h, Out.rf⟩
            unfold sp_told
            first
              | (rw [if_pos (by omega)]; exact f1)
              | (rw [if_neg (by omega), if_pos (by omega)]; exact f0)
              | (rw [if_neg (by omega), if_neg (by omega), if_pos (by omega)]; exact f3)
              | (rw [if_neg (by omega), if_neg (by omega), if_neg (by omega), if_pos (by omega)]; exact f9)
              | (repeat rw [if_neg (by omega)])
        · --
          refine v_tableIn 166 aX8_told_50 (by omega) (by omega) (by omega) (by rw [t50]; rfl) rfl ?_
          refine v_bipush (by decide) aX8_told_166 ?_
          refine v_ireturn aX8_told_168 rfl ⟨Nat.le_refl _, Nat.le_refl _⟩ ?_
          refine ⟨_, rfl, rfl, ?_, h, Out.rf⟩
          unfold sp_told
          repeat rw [if_neg (by omega)]
        · --
          refine v_tableIn 138 aX8_told_50 (by omega) (by omega) (by omega) (by rw [t50]; rfl) rfl ?_
          refine v_aload_n aX8_told_138 rfl ?_
          refine v_getr aX8_told_139 fX8_32 hM.p rfl rfl ?_
          refine v_iload_n aX8_told_142 rfl ?_
          refine v_iald aX8_told_143 hM.p_weights (by omega) (by decide) ?_
          refine v_ireturn aX8_told_144 rfl ⟨Nat.le_refl _, Nat.le_refl _⟩ ?_
          refine ⟨_, rfl, rfl, ?_, h, Out.rf⟩
          unfold sp_told
          rw [if_neg (by omega), if_neg (by omega), if_neg (by omega), if_neg (by omega), if_neg (by omega), if_pos (by omega), h.1.2.2.2.2.2.2.2.2 _ (by omega) (by omega)]
          exact congrArg _ (by omega)
        · --
          refine v_tableIn 145 aX8_told_50 (by omega) (by omega) (by omega) (by rw [t50]; rfl) rfl ?_
          refine v_aload_n aX8_told_145 rfl ?_
          refine v_getr aX8_told_146 fX8_20 hM.p rfl rfl ?_
          refine v_iload_n aX8_told_149 rfl ?_
          refine v_iald aX8_told_150 hM.p_lifts (by omega) (by decide) ?_
          refine v_ireturn aX8_told_151 rfl ⟨Nat.le_refl _, Nat.le_refl _⟩ ?_
          refine ⟨_, rfl, rfl, ?_, h, Out.rf⟩
          unfold sp_told
          rw [if_neg (by omega), if_neg (by omega), if_neg (by omega), if_neg (by omega), if_neg (by omega), if_neg (by omega), if_pos (by omega), h.1.2.2.2.2.1 _ (by omega) (by omega)]
          exact congrArg _ (by omega)
        · --
          refine v_tableIn 152 aX8_told_50 (by omega) (by omega) (by omega) (by rw [t50]; rfl) rfl ?_
          refine v_aload_n aX8_told_152 rfl ?_
          refine v_getr aX8_told_153 fX8_26 hM.p rfl rfl ?_
          refine v_iload_n aX8_told_156 rfl ?_
          refine v_iald aX8_told_157 hM.p_low (by omega) (by decide) ?_
          refine v_ireturn aX8_told_158 rfl ⟨Nat.le_refl _, Nat.le_refl _⟩ ?_
          refine ⟨_, rfl, rfl, ?_, h, Out.rf⟩
          unfold sp_told
          rw [if_neg (by omega), if_neg (by omega), if_neg (by omega), if_neg (by omega), if_neg (by omega), if_neg (by omega), if_neg (by omega), if_pos (by omega), h.1.2.2.2.2.2.1 _ (by omega) (by omega)]
          exact congrArg _ (by omega)
        · --
          refine v_tableIn 159 aX8_told_50 (by omega) (by omega) (by omega) (by rw [t50]; rfl) rfl ?_
          refine v_aload_n aX8_told_159 rfl ?_
          refine v_getr aX8_told_160 fX8_29 hM.p rfl rfl ?_
          refine v_iload_n aX8_told_163 rfl ?_
          refine v_iald aX8_told_164 hM.p_high (by omega) (by decide) ?_
          refine v_ireturn aX8_told_165 rfl ⟨Nat.le_refl _, Nat.le_refl _⟩ ?_
          refine ⟨_, rfl, rfl, ?_, h, Out.rf⟩
          unfold sp_told
          rw [if_neg (by omega), if_neg (by omega), if_neg (by omega), if_neg (by omega), if_neg (by omega), if_neg (by omega), if_neg (by omega), if_neg (by omega), if_pos (by omega), h.1.2.2.2.2.2.2.1 _ (by omega) (by omega)]
          exact congrArg _ (by omega)
      · --
        refine v_bipush (by decide) aX8_told_43 ?_
        refine v_ireturn aX8_told_45 rfl ⟨Nat.le_refl _, Nat.le_refl _⟩ ?_
        refine ⟨_, rfl, rfl, ?_, h, Out.rf⟩
        unfold sp_told
        repeat rw [if_neg (by omega)]
  · --
    refine v_aload_n aX8_told_11 rfl ?_
    refine v_getr aX8_told_12 fX8_23 hM.p rfl rfl ?_
    refine v_iload_n aX8_told_15 rfl ?_
    refine v_bipush (by decide) aX8_told_16 ?_
    refine v_isub aX8_told_18 ?_
    refine v_iald aX8_told_19 hM.p_tolls (by omega) (by decide) ?_
    refine v_ireturn aX8_told_20 rfl ⟨Nat.le_refl _, Nat.le_refl _⟩ ?_
    refine ⟨_, rfl, rfl, ?_, h, Out.rf⟩
    unfold sp_told
    rw [if_neg (by omega), if_neg (by omega), if_neg (by omega), if_neg (by omega), if_pos (by omega)]
    exact h.1.2.2.2.2.2.2.2.1 _ (by omega) (by omega)
set_option maxHeartbeats 4000000 in
set_option maxRecDepth 100000 in
theorem l2_X8_image {i : Int} {μ0 : Mu} {P : Pst} (hM : ModS S m) (hi : 0 ≤ i ∧ i ≤ 1) (hh : ∀ μ : Mu, (∀ q : Nat, q ≠ m + 20 → μ q = μ0 q) → (∀ k : Int, 0 ≤ k → k < 6 → μ (m + 20) (93 * i + 60 + k) = μ0 (m + 3) k ∧ μ (m + 20) (93 * i + 66 + k) = μ0 (m + 4) k ∧ μ (m + 20) (93 * i + 72 + k) = μ0 (m + 5) k ∧ μ (m + 20) (93 * i + 78 + k) = μ0 (m + 6) k ∧ μ (m + 20) (93 * i + 84 + k) = μ0 (m + 7) k) → (∀ w : Int, (w < 93 * i + 60 ∨ 93 * i + 90 ≤ w) → μ (m + 20) w = μ0 (m + 20) w) → V l G cX8_image (yX8_image, 4, (some FieldType.int), 1, 0, 0) P (0, 0) S μ 144 [.ref m, vi i, vi (93 * i), vi 6] []) : ∀ (N : Nat) (k : Int) (μ : Mu), (0 ≤ k ∧ k ≤ 6) → 6 - k < N → (∀ q : Nat, q ≠ m + 20 → μ q = μ0 q) → (∀ j : Int, 0 ≤ j → j < k → μ (m + 20) (93 * i + 60 + j) = μ0 (m + 3) j ∧ μ (m + 20) (93 * i + 66 + j) = μ0 (m + 4) j ∧ μ (m + 20) (93 * i + 72 + j) = μ0 (m + 5) j ∧ μ (m + 20) (93 * i + 78 + j) = μ0 (m + 6) j ∧ μ (m + 20) (93 * i + 84 + j) = μ0 (m + 7) j) → (∀ w : Int, (w < 93 * i + 60 ∨ 93 * i + 90 ≤ w) → μ (m + 20) w = μ0 (m + 20) w) → V l G cX8_image (yX8_image, 4, (some FieldType.int), 1, 0, 0) P (0, 0) S μ 47 [.ref m, vi i, vi (93 * i), vi k] [] := by
  intro N
  induction N with
  | zero => intro k μ h0 h1; omega
  | succ N ih =>
    intro k μ h0 h1 hq hj hw
    refine v_iload_n aX8_image_47 rfl ?_
    refine v_bipush (by decide) aX8_image_48 ?_
    refine v_icmp_ge 144 rfl aX8_image_50 (by omega) (by omega) (fun c50 => ?_) (fun c50 => ?_)
    · --
      obtain rfl : k = 6 := by omega
      exact hh μ hq hj hw
    · --
      refine v_aload_n aX8_image_53 rfl ?_
      refine v_getr aX8_image_54 fX8_73 hM.p rfl rfl ?_
      refine v_iload_n aX8_image_57 rfl ?_
      refine v_bipush (by decide) aX8_image_58 ?_
      refine v_iadd aX8_image_60 ?_
      refine v_iload_n aX8_image_61 rfl ?_
      refine v_iadd aX8_image_62 ?_
      refine v_aload_n aX8_image_63 rfl ?_
      refine v_getr aX8_image_64 fX8_20 hM.p rfl rfl ?_
      refine v_iload_n aX8_image_67 rfl ?_
      refine v_iald aX8_image_68 hM.p_lifts (by omega) (by decide) ?_
      refine v_iast aX8_image_69 hM.p_image (by omega) (by decide) ?_
      refine v_aload_n aX8_image_70 rfl ?_
      refine v_getr aX8_image_71 fX8_73 hM.p rfl rfl ?_
      refine v_iload_n aX8_image_74 rfl ?_
      refine v_bipush (by decide) aX8_image_75 ?_
      refine v_iadd aX8_image_77 ?_
      refine v_iload_n aX8_image_78 rfl ?_
      refine v_iadd aX8_image_79 ?_
      refine v_aload_n aX8_image_80 rfl ?_
      refine v_getr aX8_image_81 fX8_23 hM.p rfl rfl ?_
      refine v_iload_n aX8_image_84 rfl ?_
      refine v_iald aX8_image_85 hM.p_tolls (by omega) (by decide) ?_
      refine v_iast aX8_image_86 hM.p_image (by omega) (by decide) ?_
      refine v_aload_n aX8_image_87 rfl ?_
      refine v_getr aX8_image_88 fX8_73 hM.p rfl rfl ?_
      refine v_iload_n aX8_image_91 rfl ?_
      refine v_bipush (by decide) aX8_image_92 ?_
      refine v_iadd aX8_image_94 ?_
      refine v_iload_n aX8_image_95 rfl ?_
      refine v_iadd aX8_image_96 ?_
      refine v_aload_n aX8_image_97 rfl ?_
      refine v_getr aX8_image_98 fX8_26 hM.p rfl rfl ?_
      refine v_iload_n aX8_image_101 rfl ?_
      refine v_iald aX8_image_102 hM.p_low (by omega) (by decide) ?_
      refine v_iast aX8_image_103 hM.p_image (by omega) (by decide) ?_
      refine v_aload_n aX8_image_104 rfl ?_
      refine v_getr aX8_image_105 fX8_73 hM.p rfl rfl ?_
      refine v_iload_n aX8_image_108 rfl ?_
      refine v_bipush (by decide) aX8_image_109 ?_
      refine v_iadd aX8_image_111 ?_
      refine v_iload_n aX8_image_112 rfl ?_
      refine v_iadd aX8_image_113 ?_
      refine v_aload_n aX8_image_114 rfl ?_
      refine v_getr aX8_image_115 fX8_29 hM.p rfl rfl ?_
      refine v_iload_n aX8_image_118 rfl ?_
      refine v_iald aX8_image_119 hM.p_high (by omega) (by decide) ?_
      refine v_iast aX8_image_120 hM.p_image (by omega) (by decide) ?_
      refine v_aload_n aX8_image_121 rfl ?_
      refine v_getr aX8_image_122 fX8_73 hM.p rfl rfl ?_
      refine v_iload_n aX8_image_125 rfl ?_
      refine v_bipush (by decide) aX8_image_126 ?_
      refine v_iadd aX8_image_128 ?_
      refine v_iload_n aX8_image_129 rfl ?_
      refine v_iadd aX8_image_130 ?_
      refine v_aload_n aX8_image_131 rfl ?_
      refine v_getr aX8_image_132 fX8_32 hM.p rfl rfl ?_
      refine v_iload_n aX8_image_135 rfl ?_
      refine v_iald aX8_image_136 hM.p_weights (by omega) (by decide) ?_
      refine v_iast aX8_image_137 hM.p_image (by omega) (by decide) ?_
      refine v_iinc aX8_image_138 rfl (by decide) rfl ?_
      refine v_goto 47 rfl aX8_image_141 ?_
      refine ih (k + 1) _ (by omega) (by omega) (fun q e => ?_) (fun j j0 j1 => ?_) (fun w h9 => ?_)
      · rw [upd2_row e, upd2_row e, upd2_row e, upd2_row e, upd2_row e]; exact hq q e
      · by_cases e : j = k
        · subst e
          refine ⟨?_, ?_, ?_, ?_, ?_⟩
          · rw [upd2_ap, if_neg (by omega), upd2_ap, if_neg (by omega), upd2_ap, if_neg (by omega), upd2_ap, if_neg (by omega), upd2_same, hq _ (by omega)]
          · rw [upd2_ap, if_neg (by omega), upd2_ap, if_neg (by omega), upd2_ap, if_neg (by omega), upd2_same, upd2_row (by omega), hq _ (by omega)]
          · rw [upd2_ap, if_neg (by omega), upd2_ap, if_neg (by omega), upd2_same, upd2_row (by omega), upd2_row (by omega), hq _ (by omega)]
          · rw [upd2_ap, if_neg (by omega), upd2_same, upd2_row (by omega), upd2_row (by omega), upd2_row (by omega), hq _ (by omega)]
          · rw [upd2_same, upd2_row (by omega), upd2_row (by omega), upd2_row (by omega), upd2_row (by omega), hq _ (by omega)]
        · obtain ⟨j1, j2, j3, j4, j5⟩ := hj j j0 (by omega)
          refine ⟨?_, ?_, ?_, ?_, ?_⟩ <;> rw [upd2_ap, if_neg (by omega), upd2_ap, if_neg (by omega), upd2_ap, if_neg (by omega), upd2_ap, if_neg (by omega), upd2_ap, if_neg (by omega)] <;> assumption
      · rw [upd2_ap, if_neg (by omega), upd2_ap, if_neg (by omega), upd2_ap, if_neg (by omega), upd2_ap, if_neg (by omega), upd2_ap, if_neg (by omega)]; exact hw w h9
set_option maxHeartbeats 4000000 in
set_option maxRecDepth 100000 in
theorem l1_X8_image {i : Int} {μ0 : Mu} {P : Pst} (hM : ModS S m) (hi : 0 ≤ i ∧ i ≤ 1) (hh : ∀ μ : Mu, (∀ q : Nat, q ≠ m + 20 → μ q = μ0 q) → (∀ k : Int, 0 ≤ k → k < 60 → μ (m + 20) (93 * i + k) = μ0 (m + 2) k) → (∀ w : Int, (w < 93 * i ∨ 93 * i + 60 ≤ w) → μ (m + 20) w = μ0 (m + 20) w) → V l G cX8_image (yX8_image, 4, (some FieldType.int), 1, 0, 0) P (0, 0) S μ 45 [.ref m, vi i, vi (93 * i), vi 60] []) : ∀ (N : Nat) (k : Int) (μ : Mu), (0 ≤ k ∧ k ≤ 60) → 60 - k < N → (∀ q : Nat, q ≠ m + 20 → μ q = μ0 q) → (∀ j : Int, 0 ≤ j → j < k → μ (m + 20) (93 * i + j) = μ0 (m + 2) j) → (∀ w : Int, (w < 93 * i ∨ 93 * i + 60 ≤ w) → μ (m + 20) w = μ0 (m + 20) w) → V l G cX8_image (yX8_image, 4, (some FieldType.int), 1, 0, 0) P (0, 0) S μ 19 [.ref m, vi i, vi (93 * i), vi k] [] := by
  intro N
  induction N with
  | zero => intro k μ h0 h1; omega
  | succ N ih =>
    intro k μ h0 h1 hq hj hw
    refine v_iload_n aX8_image_19 rfl ?_
    refine v_bipush (by decide) aX8_image_20 ?_
    refine v_icmp_ge 45 rfl aX8_image_22 (by omega) (by omega) (fun c22 => ?_) (fun c22 => ?_)
    · --
      obtain rfl : k = 60 := by omega
      exact hh μ hq hj hw
    · --
      refine v_aload_n aX8_image_25 rfl ?_
      refine v_getr aX8_image_26 fX8_73 hM.p rfl rfl ?_
      refine v_iload_n aX8_image_29 rfl ?_
      refine v_iload_n aX8_image_30 rfl ?_
      refine v_iadd aX8_image_31 ?_
      refine v_aload_n aX8_image_32 rfl ?_
      refine v_getr aX8_image_33 fX8_17 hM.p rfl rfl ?_
      refine v_iload_n aX8_image_36 rfl ?_
      refine v_iald aX8_image_37 hM.p_book (by omega) (by decide) ?_
      refine v_iast aX8_image_38 hM.p_image (by omega) (by decide) ?_
      refine v_iinc aX8_image_39 rfl (by decide) rfl ?_
      refine v_goto 19 rfl aX8_image_42 ?_
      refine ih (k + 1) _ (by omega) (by omega) (fun q e => ?_) (fun j j0 j1 => ?_) (fun w h9 => ?_)
      · rw [upd2_row e]; exact hq q e
      · by_cases e : j = k
        · subst e
          rw [upd2_same, hq _ (by omega)]
        · rw [upd2_ap, if_neg (by omega)]; exact hj j j0 (by omega)
      · rw [upd2_ap, if_neg (by omega)]; exact hw w h9
set_option maxHeartbeats 4000000 in
set_option maxRecDepth 100000 in
theorem c_X8_image {i : Int} (hM : ModS S m) (h : MoAt μ m t g n) (hi : (-2147483648 ≤ i ∧ i < 2147483648)) : Ct l G cX8_image (yX8_image, 4, (some FieldType.int), 1, 0, 0) [.ref m, vi i] S μ (Re S (fun z μ' => (0 ≤ i ∧ i ≤ 1 → z = 1 ∧ MiAt (μ' (m + 20)) i t ∧ (∀ w : Int, (w < 93 * i ∨ 93 * i + 93 ≤ w) → μ' (m + 20) w = μ (m + 20) w) ∧ μ' (m + 21) = iup (μ (m + 21)) i 1 ∧ ∀ q : Nat, q ≠ m + 20 → q ≠ m + 21 → μ' q = μ q) ∧ (¬ (0 ≤ i ∧ i ≤ 1) → z = -2 ∧ μ' = μ))) := by
  have f0 : μ m 0 = t.1 := h.1.1
  have f3 : μ m 3 = t.2.1 := h.1.2.1
  have f9 : μ m 9 = t.2.2.1 := h.1.2.2.1
  have f1 : μ m 1 = n := h.2.2
  refine Ct.of (by decide) rfl (by simp [vi, Value.category]) (Nat.le_of_ble_eq_true rfl) ?_
  refine v_iload_n aX8_image_0 rfl ?_
  refine v_iconst aX8_image_1 ?_
  refine v_iconst aX8_image_2 ?_
  refine v_cSi (c_X8_in (by omega) (by omega) (by omega)) aX8_image_3 mX8_in sX8_in lX8_79 rfl rfl (Nat.le_of_ble_eq_true rfl) ⟨Nat.le_of_ble_eq_true rfl, Nat.le_of_ble_eq_true rfl⟩ (Nat.le_of_ble_eq_true rfl) ?_
  refine v_if_ne_b 12 rfl aX8_image_6 (fun c6 => ?_) (fun c6 => ?_)
  · --
    refine v_bipush (by decide) aX8_image_12 ?_
    refine v_iload_n aX8_image_14 rfl ?_
    refine v_imul aX8_image_15 ?_
    refine v_istore_n aX8_image_16 (by decide) rfl ?_
    refine v_iconst aX8_image_17 ?_
    refine v_istore_n aX8_image_18 (by decide) rfl ?_
    refine l1_X8_image (μ0 := μ) hM c6 (fun μ1 a1 a2 a3 => ?_) 61 0 _ (by omega) (by omega) (fun _ _ => rfl) (fun j j0 j1 => by omega) (fun _ _ => rfl)
    refine v_iconst aX8_image_45 ?_
    refine v_istore_n aX8_image_46 (by decide) rfl ?_
    refine l2_X8_image (μ0 := μ1) hM c6 (fun μ2 b1 b2 b3 => ?_) 7 0 _ (by omega) (by omega) (fun _ _ => rfl) (fun j j0 j1 => by omega) (fun _ _ => rfl)
    refine v_aload_n aX8_image_144 rfl ?_
    refine v_getr aX8_image_145 fX8_73 hM.p rfl rfl ?_
    refine v_iload_n aX8_image_148 rfl ?_
    refine v_bipush (by decide) aX8_image_149 ?_
    refine v_iadd aX8_image_151 ?_
    refine v_aload_n aX8_image_152 rfl ?_
    refine v_gi 0 rfl aX8_image_153 fX8_7 hM.p rfl rfl ?_
    rw [b1 m (by omega), a1 m (by omega)]
    refine v_iast aX8_image_156 hM.p_image (by omega) (by decide) ?_
    refine v_aload_n aX8_image_157 rfl ?_
    refine v_getr aX8_image_158 fX8_73 hM.p rfl rfl ?_
    refine v_iload_n aX8_image_161 rfl ?_
    refine v_bipush (by decide) aX8_image_162 ?_
    refine v_iadd aX8_image_164 ?_
    refine v_aload_n aX8_image_165 rfl ?_
    refine v_gi 3 rfl aX8_image_166 fX8_83 hM.p rfl rfl ?_
    rw [upd2_row (by omega), b1 m (by omega), a1 m (by omega)]
    refine v_iast aX8_image_169 hM.p_image (by omega) (by decide) ?_
    refine v_aload_n aX8_image_170 rfl ?_
    refine v_getr aX8_image_171 fX8_73 hM.p rfl rfl ?_
    refine v_iload_n aX8_image_174 rfl ?_
    refine v_bipush (by decide) aX8_image_175 ?_
    refine v_iadd aX8_image_177 ?_
    refine v_aload_n aX8_image_178 rfl ?_
    refine v_gi 9 rfl aX8_image_179 fX8_168 hM.p rfl rfl ?_
    rw [upd2_row (by omega), upd2_row (by omega), b1 m (by omega), a1 m (by omega)]
    refine v_iast aX8_image_182 hM.p_image (by omega) (by decide) ?_
    refine v_aload_n aX8_image_183 rfl ?_
    refine v_getr aX8_image_184 fX8_76 hM.p rfl rfl ?_
    refine v_iload_n aX8_image_187 rfl ?_
    refine v_iconst aX8_image_188 ?_
    refine v_zast aX8_image_189 hM.p_isKept (by omega) (by decide) (by first | exact Or.inl rfl | exact Or.inr rfl | exact b2i_01 | omega) ?_
    refine v_iconst aX8_image_190 ?_
    refine v_ireturn aX8_image_191 rfl ⟨Nat.le_refl _, Nat.le_refl _⟩ ?_
    obtain ⟨⟨t1, t2, t3, t4, t5, t6, t7, t8, t9⟩, tg, tn⟩ := h
    refine ⟨_, rfl, rfl, fun _ => ⟨rfl, ⟨fun z z0 z6 => ?_, fun k k0 k6 => ?_, ?_, ?_, ?_⟩, fun w hw => ?_, ?_, fun q q1 q2 => ?_⟩, fun q => absurd c6 q⟩
    · rw [upd2_row (by omega), upd2_ap, if_neg (by omega), upd2_ap, if_neg (by omega), upd2_ap, if_neg (by omega), b3 _ (by omega), a2 z z0 z6]; exact t4 z z0 z6
    · obtain ⟨k1, k2, k3, k4, k5⟩ := b2 k k0 k6
      rw [a1 _ (by omega)] at k1 k2 k3 k4 k5
      refine ⟨?_, ?_, ?_, ?_, ?_⟩ <;> rw [upd2_row (by omega), upd2_ap, if_neg (by omega), upd2_ap, if_neg (by omega), upd2_ap, if_neg (by omega)]
      · rw [k1]; exact t5 k k0 k6
      · rw [k2]; exact t8 k k0 k6
      · rw [k3]; exact t6 k k0 k6
      · rw [k4]; exact t7 k k0 k6
      · rw [k5]; exact t9 k k0 k6
    · rw [upd2_row (by omega), upd2_ap, if_neg (by omega), upd2_ap, if_neg (by omega), upd2_same]; exact t1
    · rw [upd2_row (by omega), upd2_ap, if_neg (by omega), upd2_same]; exact t2
    · rw [upd2_row (by omega), upd2_same]; exact t3
    · rw [upd2_row (by omega), upd2_ap, if_neg (by omega), upd2_ap, if_neg (by omega), upd2_ap, if_neg (by omega), b3 _ (by omega), a3 _ (by omega)]
    · rw [upd2_iup, row_same, upd2_row (by omega), upd2_row (by omega), upd2_row (by omega), b1 _ (by omega), a1 _ (by omega)]
    · rw [upd2_row q2, upd2_row q1, upd2_row q1, upd2_row q1, b1 _ q1, a1 _ q1]
  · --
    refine v_bipush (by decide) aX8_image_9 ?_
    refine v_ireturn aX8_image_11 rfl ⟨Nat.le_refl _, Nat.le_refl _⟩ ?_
    exact ⟨_, rfl, rfl, fun q => absurd q c6, fun _ => ⟨rfl, rfl⟩⟩
set_option maxHeartbeats 4000000 in
set_option maxRecDepth 100000 in
theorem l1_X8_restore {i : Int} {μ0 : Mu} {P : Pst} (hM : ModS S m) (hi : 0 ≤ i ∧ i ≤ 1) (hh : ∀ μ : Mu, (∀ q : Nat, q ≠ m + 2 → μ q = μ0 q) → (∀ k : Int, 0 ≤ k → k < 60 → μ (m + 2) k = μ0 (m + 20) (93 * i + k)) → V l G cX8_restore (yX8_restore, 4, (some FieldType.int), 1, 0, 0) P (0, 0) S μ 57 [.ref m, vi i, vi (93 * i), vi 60] []) : ∀ (N : Nat) (k : Int) (μ : Mu), (0 ≤ k ∧ k ≤ 60) → 60 - k < N → (∀ q : Nat, q ≠ m + 2 → μ q = μ0 q) → (∀ j : Int, 0 ≤ j → j < k → μ (m + 2) j = μ0 (m + 20) (93 * i + j)) → V l G cX8_restore (yX8_restore, 4, (some FieldType.int), 1, 0, 0) P (0, 0) S μ 31 [.ref m, vi i, vi (93 * i), vi k] [] := by
  intro N
  induction N with
  | zero => intro k μ h0 h1; omega
  | succ N ih =>
    intro k μ h0 h1 hq hj
    refine v_iload_n aX8_restore_31 rfl ?_
    refine v_bipush (by decide) aX8_restore_32 ?_
    refine v_icmp_ge 57 rfl aX8_restore_34 (by omega) (by omega) (fun c34 => ?_) (fun c34 => ?_)
    · --
      obtain rfl : k = 60 := by omega
      exact hh μ hq hj
    · --
      refine v_aload_n aX8_restore_37 rfl ?_
      refine v_getr aX8_restore_38 fX8_17 hM.p rfl rfl ?_
      refine v_iload_n aX8_restore_41 rfl ?_
      refine v_aload_n aX8_restore_42 rfl ?_
      refine v_getr aX8_restore_43 fX8_73 hM.p rfl rfl ?_
      refine v_iload_n aX8_restore_46 rfl ?_
      refine v_iload_n aX8_restore_47 rfl ?_
      refine v_iadd aX8_restore_48 ?_
      refine v_iald aX8_restore_49 hM.p_image (by omega) (by decide) ?_
      refine v_iast aX8_restore_50 hM.p_book (by omega) (by decide) ?_
      refine v_iinc aX8_restore_51 rfl (by decide) rfl ?_
      refine v_goto 31 rfl aX8_restore_54 ?_
      refine ih (k + 1) _ (by omega) (by omega) (fun q e => ?_) (fun j j0 j1 => ?_)
      · rw [upd2_row e]; exact hq q e
      · by_cases e : j = k
        · subst e
          rw [upd2_same, hq _ (by omega)]
        · rw [upd2_ap, if_neg (by omega)]; exact hj j j0 (by omega)
set_option maxHeartbeats 4000000 in
set_option maxRecDepth 100000 in
theorem l2_X8_restore {i : Int} {μ0 : Mu} {P : Pst} (hM : ModS S m) (hi : 0 ≤ i ∧ i ≤ 1) (hh : ∀ μ : Mu, (∀ q : Nat, q ≠ m + 3 → q ≠ m + 4 → q ≠ m + 5 → q ≠ m + 6 → q ≠ m + 7 → μ q = μ0 q) → (∀ k : Int, 0 ≤ k → k < 6 → μ (m + 3) k = μ0 (m + 20) (93 * i + 60 + k) ∧ μ (m + 4) k = μ0 (m + 20) (93 * i + 66 + k) ∧ μ (m + 5) k = μ0 (m + 20) (93 * i + 72 + k) ∧ μ (m + 6) k = μ0 (m + 20) (93 * i + 78 + k) ∧ μ (m + 7) k = μ0 (m + 20) (93 * i + 84 + k)) → V l G cX8_restore (yX8_restore, 4, (some FieldType.int), 1, 0, 0) P (0, 0) S μ 156 [.ref m, vi i, vi (93 * i), vi 6] []) : ∀ (N : Nat) (k : Int) (μ : Mu), (0 ≤ k ∧ k ≤ 6) → 6 - k < N → (∀ q : Nat, q ≠ m + 3 → q ≠ m + 4 → q ≠ m + 5 → q ≠ m + 6 → q ≠ m + 7 → μ q = μ0 q) → (∀ j : Int, 0 ≤ j → j < k → μ (m + 3) j = μ0 (m + 20) (93 * i + 60 + j) ∧ μ (m + 4) j = μ0 (m + 20) (93 * i + 66 + j) ∧ μ (m + 5) j = μ0 (m + 20) (93 * i + 72 + j) ∧ μ (m + 6) j = μ0 (m + 20) (93 * i + 78 + j) ∧ μ (m + 7) j = μ0 (m + 20) (93 * i + 84 + j)) → V l G cX8_restore (yX8_restore, 4, (some FieldType.int), 1, 0, 0) P (0, 0) S μ 59 [.ref m, vi i, vi (93 * i), vi k] [] := by
  intro N
  induction N with
  | zero => intro k μ h0 h1; omega
  | succ N ih =>
    intro k μ h0 h1 hq hj
    refine v_iload_n aX8_restore_59 rfl ?_
    refine v_bipush (by decide) aX8_restore_60 ?_
    refine v_icmp_ge 156 rfl aX8_restore_62 (by omega) (by omega) (fun c62 => ?_) (fun c62 => ?_)
    · --
      obtain rfl : k = 6 := by omega
      exact hh μ hq hj
    · --
      refine v_aload_n aX8_restore_65 rfl ?_
      refine v_getr aX8_restore_66 fX8_20 hM.p rfl rfl ?_
      refine v_iload_n aX8_restore_69 rfl ?_
      refine v_aload_n aX8_restore_70 rfl ?_
      refine v_getr aX8_restore_71 fX8_73 hM.p rfl rfl ?_
      refine v_iload_n aX8_restore_74 rfl ?_
      refine v_bipush (by decide) aX8_restore_75 ?_
      refine v_iadd aX8_restore_77 ?_
      refine v_iload_n aX8_restore_78 rfl ?_
      refine v_iadd aX8_restore_79 ?_
      refine v_iald aX8_restore_80 hM.p_image (by omega) (by decide) ?_
      refine v_iast aX8_restore_81 hM.p_lifts (by omega) (by decide) ?_
      refine v_aload_n aX8_restore_82 rfl ?_
      refine v_getr aX8_restore_83 fX8_23 hM.p rfl rfl ?_
      refine v_iload_n aX8_restore_86 rfl ?_
      refine v_aload_n aX8_restore_87 rfl ?_
      refine v_getr aX8_restore_88 fX8_73 hM.p rfl rfl ?_
      refine v_iload_n aX8_restore_91 rfl ?_
      refine v_bipush (by decide) aX8_restore_92 ?_
      refine v_iadd aX8_restore_94 ?_
      refine v_iload_n aX8_restore_95 rfl ?_
      refine v_iadd aX8_restore_96 ?_
      refine v_iald aX8_restore_97 hM.p_image (by omega) (by decide) ?_
      rw [upd2_row (by omega)]
      refine v_iast aX8_restore_98 hM.p_tolls (by omega) (by decide) ?_
      refine v_aload_n aX8_restore_99 rfl ?_
      refine v_getr aX8_restore_100 fX8_26 hM.p rfl rfl ?_
      refine v_iload_n aX8_restore_103 rfl ?_
      refine v_aload_n aX8_restore_104 rfl ?_
      refine v_getr aX8_restore_105 fX8_73 hM.p rfl rfl ?_
      refine v_iload_n aX8_restore_108 rfl ?_
      refine v_bipush (by decide) aX8_restore_109 ?_
      refine v_iadd aX8_restore_111 ?_
      refine v_iload_n aX8_restore_112 rfl ?_
      refine v_iadd aX8_restore_113 ?_
      refine v_iald aX8_restore_114 hM.p_image (by omega) (by decide) ?_
      rw [upd2_row (by omega), upd2_row (by omega)]
      refine v_iast aX8_restore_115 hM.p_low (by omega) (by decide) ?_
      refine v_aload_n aX8_restore_116 rfl ?_
      refine v_getr aX8_restore_117 fX8_29 hM.p rfl rfl ?_
      refine v_iload_n aX8_restore_120 rfl ?_
      refine v_aload_n aX8_restore_121 rfl ?_
      refine v_getr aX8_restore_122 fX8_73 hM.p rfl rfl ?_
      refine v_iload_n aX8_restore_125 rfl ?_
      refine v_bipush (by decide) aX8_restore_126 ?_
      refine v_iadd aX8_restore_128 ?_
      refine v_iload_n aX8_restore_129 rfl ?_
      refine v_iadd aX8_restore_130 ?_
      refine v_iald aX8_restore_131 hM.p_image (by omega) (by decide) ?_
      rw [upd2_row (by omega), upd2_row (by omega), upd2_row (by omega)]
      refine v_iast aX8_restore_132 hM.p_high (by omega) (by decide) ?_
      refine v_aload_n aX8_restore_133 rfl ?_
      refine v_getr aX8_restore_134 fX8_32 hM.p rfl rfl ?_
      refine v_iload_n aX8_restore_137 rfl ?_
      refine v_aload_n aX8_restore_138 rfl ?_
      refine v_getr aX8_restore_139 fX8_73 hM.p rfl rfl ?_
      refine v_iload_n aX8_restore_142 rfl ?_
      refine v_bipush (by decide) aX8_restore_143 ?_
      refine v_iadd aX8_restore_145 ?_
      refine v_iload_n aX8_restore_146 rfl ?_
      refine v_iadd aX8_restore_147 ?_
      refine v_iald aX8_restore_148 hM.p_image (by omega) (by decide) ?_
      rw [upd2_row (by omega), upd2_row (by omega), upd2_row (by omega), upd2_row (by omega)]
      refine v_iast aX8_restore_149 hM.p_weights (by omega) (by decide) ?_
      refine v_iinc aX8_restore_150 rfl (by decide) rfl ?_
      refine v_goto 59 rfl aX8_restore_153 ?_
      have e20 : μ (m + 20) = μ0 (m + 20) := hq _ (by omega) (by omega) (by omega) (by omega) (by omega)
      refine ih (k + 1) _ (by omega) (by omega) (fun q e1 e2 e3 e4 e5 => ?_) (fun j j0 j1 => ?_)
      · rw [upd2_row e5, upd2_row e4, upd2_row e3, upd2_row e2, upd2_row e1]; exact hq q e1 e2 e3 e4 e5
      · by_cases e : j = k
        · subst e
          refine ⟨?_, ?_, ?_, ?_, ?_⟩
          · rw [upd2_row (by omega), upd2_row (by omega), upd2_row (by omega), upd2_row (by omega), upd2_same, e20]
          · rw [upd2_row (by omega), upd2_row (by omega), upd2_row (by omega), upd2_same, e20]
          · rw [upd2_row (by omega), upd2_row (by omega), upd2_same, e20]
          · rw [upd2_row (by omega), upd2_same, e20]
          · rw [upd2_same, e20]
        · obtain ⟨j1, j2, j3, j4, j5⟩ := hj j j0 (by omega)
          refine ⟨?_, ?_, ?_, ?_, ?_⟩ <;> rw [upd2_ap, if_neg (by omega), upd2_ap, if_neg (by omega), upd2_ap, if_neg (by omega), upd2_ap, if_neg (by omega), upd2_ap, if_neg (by omega)] <;> assumption
set_option maxHeartbeats 4000000 in
set_option maxRecDepth 100000 in
theorem c_X8_restore {i : Int} (hM : ModS S m) (h : MoAt μ m t g n) (hi : (-2147483648 ≤ i ∧ i < 2147483648)) (hkp : μ (m + 21) i = 0 ∨ μ (m + 21) i = 1) : Ct l G cX8_restore (yX8_restore, 4, (some FieldType.int), 1, 0, 0) [.ref m, vi i] S μ (Re S (fun z μ' => (0 ≤ i ∧ i ≤ 1 → μ (m + 21) i = 1 → z = 1 ∧ (∀ t' : BSt, MiAt (μ (m + 20)) i t' → MoAt μ' m t' g n) ∧ ∀ q : Nat, (q < m ∨ m + 8 ≤ q) → μ' q = μ q) ∧ (0 ≤ i ∧ i ≤ 1 → μ (m + 21) i = 0 → z = -3 ∧ μ' = μ) ∧ (¬ (0 ≤ i ∧ i ≤ 1) → z = -2 ∧ μ' = μ))) := by
  have f0 : μ m 0 = t.1 := h.1.1
  have f3 : μ m 3 = t.2.1 := h.1.2.1
  have f9 : μ m 9 = t.2.2.1 := h.1.2.2.1
  have f1 : μ m 1 = n := h.2.2
  refine Ct.of (by decide) rfl (by simp [vi, Value.category]) (Nat.le_of_ble_eq_true rfl) ?_
  refine v_iload_n aX8_restore_0 rfl ?_
  refine v_iconst aX8_restore_1 ?_
  refine v_iconst aX8_restore_2 ?_
  refine v_cSi (c_X8_in (by omega) (by omega) (by omega)) aX8_restore_3 mX8_in sX8_in lX8_79 rfl rfl (Nat.le_of_ble_eq_true rfl) ⟨Nat.le_of_ble_eq_true rfl, Nat.le_of_ble_eq_true rfl⟩ (Nat.le_of_ble_eq_true rfl) ?_
  refine v_if_ne_b 12 rfl aX8_restore_6 (fun c6 => ?_) (fun c6 => ?_)
  · --
    refine v_aload_n aX8_restore_12 rfl ?_
    refine v_getr aX8_restore_13 fX8_76 hM.p rfl rfl ?_
    refine v_iload_n aX8_restore_16 rfl ?_
    refine v_zald aX8_restore_17 hM.p_isKept (by omega) (by decide) ?_
    refine v_if_ne 24 rfl aX8_restore_18 (by omega) (fun c18 => ?_) (fun c18 => ?_)
    · --
      refine v_bipush (by decide) aX8_restore_24 ?_
      refine v_iload_n aX8_restore_26 rfl ?_
      refine v_imul aX8_restore_27 ?_
      refine v_istore_n aX8_restore_28 (by decide) rfl ?_
      refine v_iconst aX8_restore_29 ?_
      refine v_istore_n aX8_restore_30 (by decide) rfl ?_
      refine l1_X8_restore (μ0 := μ) hM c6 (fun μ1 a1 a2 => ?_) 61 0 _ (by omega) (by omega) (fun _ _ => rfl) (fun j j0 j1 => by omega)
      refine v_iconst aX8_restore_57 ?_
      refine v_istore_n aX8_restore_58 (by decide) rfl ?_
      refine l2_X8_restore (μ0 := μ1) hM c6 (fun μ2 b1 b2 => ?_) 7 0 _ (by omega) (by omega) (fun _ _ _ _ _ _ => rfl) (fun j j0 j1 => by omega)
      have e20 : μ2 (m + 20) = μ (m + 20) := by rw [b1 _ (by omega) (by omega) (by omega) (by omega) (by omega), a1 _ (by omega)]
      have e21 : μ1 (m + 20) = μ (m + 20) := a1 _ (by omega)
      refine v_aload_n aX8_restore_156 rfl ?_
      refine v_aload_n aX8_restore_157 rfl ?_
      refine v_getr aX8_restore_158 fX8_73 hM.p rfl rfl ?_
      refine v_iload_n aX8_restore_161 rfl ?_
      refine v_bipush (by decide) aX8_restore_162 ?_
      refine v_iadd aX8_restore_164 ?_
      refine v_iald aX8_restore_165 hM.p_image (by omega) (by decide) ?_
      rw [e20]
      refine v_pi 0 rfl aX8_restore_166 fX8_7 nf8_0 ok8_0 hM.p rfl rfl ?_
      refine v_aload_n aX8_restore_169 rfl ?_
      refine v_aload_n aX8_restore_170 rfl ?_
      refine v_getr aX8_restore_171 fX8_73 hM.p rfl rfl ?_
      refine v_iload_n aX8_restore_174 rfl ?_
      refine v_bipush (by decide) aX8_restore_175 ?_
      refine v_iadd aX8_restore_177 ?_
      refine v_iald aX8_restore_178 hM.p_image (by omega) (by decide) ?_
      rw [upd2_row (by omega), e20]
      refine v_pi 3 rfl aX8_restore_179 fX8_83 nf8_3 ok8_3 hM.p rfl rfl ?_
      refine v_aload_n aX8_restore_182 rfl ?_
      refine v_aload_n aX8_restore_183 rfl ?_
      refine v_getr aX8_restore_184 fX8_73 hM.p rfl rfl ?_
      refine v_iload_n aX8_restore_187 rfl ?_
      refine v_bipush (by decide) aX8_restore_188 ?_
      refine v_iadd aX8_restore_190 ?_
      refine v_iald aX8_restore_191 hM.p_image (by omega) (by decide) ?_
      rw [upd2_row (by omega), upd2_row (by omega), e20]
      refine v_pi 9 rfl aX8_restore_192 fX8_168 nf8_9 ok8_9 hM.p rfl rfl ?_
      refine v_iconst aX8_restore_195 ?_
      refine v_ireturn aX8_restore_196 rfl ⟨Nat.le_refl _, Nat.le_refl _⟩ ?_
      refine ⟨_, rfl, rfl, fun _ _ => ⟨rfl, fun t' hi' => ?_, fun q hq => ?_⟩, fun _ q => by omega, fun q => absurd c6 q⟩
      · obtain ⟨i1, i2, i3, i4, i5⟩ := hi'
        obtain ⟨-, tg, tn⟩ := h
        refine ⟨⟨?_, ?_, ?_, fun z z0 z6 => ?_, fun k k0 k6 => ?_, fun k k0 k6 => ?_, fun k k0 k6 => ?_, fun k k0 k6 => ?_, fun k k0 k6 => ?_⟩, ?_, ?_⟩
        · simp [upd2_ap]; exact i3
        · simp [upd2_ap]; exact i4
        · simp [upd2_ap]; exact i5
        · rw [upd2_row (by omega), upd2_row (by omega), upd2_row (by omega), b1 _ (by omega) (by omega) (by omega) (by omega) (by omega), a2 z z0 z6]; exact i1 z z0 z6
        · rw [upd2_row (by omega), upd2_row (by omega), upd2_row (by omega), (b2 k k0 k6).1, e21]; exact (i2 k k0 k6).1
        · rw [upd2_row (by omega), upd2_row (by omega), upd2_row (by omega), (b2 k k0 k6).2.2.1, e21]; exact (i2 k k0 k6).2.2.1
        · rw [upd2_row (by omega), upd2_row (by omega), upd2_row (by omega), (b2 k k0 k6).2.2.2.1, e21]; exact (i2 k k0 k6).2.2.2.1
        · rw [upd2_row (by omega), upd2_row (by omega), upd2_row (by omega), (b2 k k0 k6).2.1, e21]; exact (i2 k k0 k6).2.1
        · rw [upd2_row (by omega), upd2_row (by omega), upd2_row (by omega), (b2 k k0 k6).2.2.2.2, e21]; exact (i2 k k0 k6).2.2.2.2
        · rw [upd2_row (by omega), upd2_row (by omega), upd2_row (by omega), b1 _ (by omega) (by omega) (by omega) (by omega) (by omega), a1 _ (by omega)]; exact tg
        · simp [upd2_ap]
          rw [b1 _ (by omega) (by omega) (by omega) (by omega) (by omega), a1 _ (by omega)]; exact tn
      · rw [upd2_row (by omega), upd2_row (by omega), upd2_row (by omega), b1 _ (by omega) (by omega) (by omega) (by omega) (by omega), a1 _ (by omega)]
    · --
      refine v_bipush (by decide) aX8_restore_21 ?_
      refine v_ireturn aX8_restore_23 rfl ⟨Nat.le_refl _, Nat.le_refl _⟩ ?_
      exact ⟨_, rfl, rfl, fun _ q => by omega, fun _ _ => ⟨rfl, rfl⟩, fun q => absurd c6 q⟩
  · --
    refine v_bipush (by decide) aX8_restore_9 ?_
    refine v_ireturn aX8_restore_11 rfl ⟨Nat.le_refl _, Nat.le_refl _⟩ ?_
    exact ⟨_, rfl, rfl, fun q => absurd q c6, fun q => absurd q c6, fun _ => ⟨rfl, rfl⟩⟩
/-- the model after a part of a line -/
def MIn (μ0 μ : Mu) (m : Nat) (u : LSt) : Prop := (∀ z : Int, 0 ≤ z → z < 60 → μ (m + 2) z = u.1 z) ∧ Eq6 (μ (m + 3)) u.2.1 ∧ μ m = iup (μ0 m) 3 u.2.2 ∧ ∀ q : Nat, q ≠ m → q ≠ m + 2 → q ≠ m + 3 → μ q = μ0 q
end MOD2
end
