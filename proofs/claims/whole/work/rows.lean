section
-- ===== PART A: goes FIRST, ahead of the names: the tables' words, and 'selects' of the private methods out of them =====
/-- a private method of a class that the tables say can be made, by its rows of tables_1 -/
def lw_okq (q : MethodName × Nat) : Prop := (q.1.cls ≠ "java/lang/invoke/MethodHandle" ∧ q.1.cls ≠ "java/lang/invoke/VarHandle") ∧ Cond.instantiable q.1.cls q.2 ∈ tables_1 ∧ Cond.privateMethod q.1 ∈ tables_1 ∧ Cond.instanceMethod q.1 ∈ tables_1
theorem lw_p0 : lw_okq (⟨"WayMarks", "beforeAct", "()V"⟩, 9) := ⟨⟨by decide +kernel, by decide +kernel⟩, List.mem_of_getElem? (i := 15) (by decide +kernel), List.mem_of_getElem? (i := 283) (by decide +kernel), List.mem_of_getElem? (i := 284) (by decide +kernel)⟩
theorem lw_p1 : lw_okq (⟨"WayMarks$Past", "keep", "(LWayMarks$Net;)V"⟩, 3) := ⟨⟨by decide +kernel, by decide +kernel⟩, List.mem_of_getElem? (i := 91) (by decide +kernel), List.mem_of_getElem? (i := 287) (by decide +kernel), List.mem_of_getElem? (i := 288) (by decide +kernel)⟩
theorem lw_p2 : lw_okq (⟨"WayMarks$Net", "become", "(LWayMarks$Net;)V"⟩, 12) := ⟨⟨by decide +kernel, by decide +kernel⟩, List.mem_of_getElem? (i := 23) (by decide +kernel), List.mem_of_getElem? (i := 291) (by decide +kernel), List.mem_of_getElem? (i := 292) (by decide +kernel)⟩
theorem lw_p3 : lw_okq (⟨"WayMarks$Net", "roadCanBe", "(III)Z"⟩, 12) := ⟨⟨by decide +kernel, by decide +kernel⟩, List.mem_of_getElem? (i := 23) (by decide +kernel), List.mem_of_getElem? (i := 305) (by decide +kernel), List.mem_of_getElem? (i := 306) (by decide +kernel)⟩
theorem lw_p4 : lw_okq (⟨"WayMarks$Net", "isPost", "(I)Z"⟩, 12) := ⟨⟨by decide +kernel, by decide +kernel⟩, List.mem_of_getElem? (i := 23) (by decide +kernel), List.mem_of_getElem? (i := 309) (by decide +kernel), List.mem_of_getElem? (i := 310) (by decide +kernel)⟩
theorem lw_p5 : lw_okq (⟨"WayMarks$Net", "hasRoad", "(II)Z"⟩, 12) := ⟨⟨by decide +kernel, by decide +kernel⟩, List.mem_of_getElem? (i := 23) (by decide +kernel), List.mem_of_getElem? (i := 313) (by decide +kernel), List.mem_of_getElem? (i := 314) (by decide +kernel)⟩
theorem lw_p6 : lw_okq (⟨"WayMarks$Net", "layRoad", "(III)V"⟩, 12) := ⟨⟨by decide +kernel, by decide +kernel⟩, List.mem_of_getElem? (i := 23) (by decide +kernel), List.mem_of_getElem? (i := 317) (by decide +kernel), List.mem_of_getElem? (i := 318) (by decide +kernel)⟩
theorem lw_p7 : lw_okq (⟨"WayMarks$Tape", "hasRoomFor", "(I)Z"⟩, 2) := ⟨⟨by decide +kernel, by decide +kernel⟩, List.mem_of_getElem? (i := 111) (by decide +kernel), List.mem_of_getElem? (i := 331) (by decide +kernel), List.mem_of_getElem? (i := 332) (by decide +kernel)⟩
theorem lw_p8 : lw_okq (⟨"WayMarks$Tape", "takeFour", "(I)V"⟩, 2) := ⟨⟨by decide +kernel, by decide +kernel⟩, List.mem_of_getElem? (i := 111) (by decide +kernel), List.mem_of_getElem? (i := 335) (by decide +kernel), List.mem_of_getElem? (i := 336) (by decide +kernel)⟩
theorem lw_p9 : lw_okq (⟨"WayMarks$Tape", "byteAt", "(I)I"⟩, 2) := ⟨⟨by decide +kernel, by decide +kernel⟩, List.mem_of_getElem? (i := 111) (by decide +kernel), List.mem_of_getElem? (i := 343) (by decide +kernel), List.mem_of_getElem? (i := 344) (by decide +kernel)⟩
theorem lw_p10 : lw_okq (⟨"WayMarks$Net", "need", "()I"⟩, 12) := ⟨⟨by decide +kernel, by decide +kernel⟩, List.mem_of_getElem? (i := 23) (by decide +kernel), List.mem_of_getElem? (i := 367) (by decide +kernel), List.mem_of_getElem? (i := 368) (by decide +kernel)⟩
theorem lw_p11 : lw_okq (⟨"WayMarks", "freshSight", "()LWayMarks$Sight;"⟩, 9) := ⟨⟨by decide +kernel, by decide +kernel⟩, List.mem_of_getElem? (i := 15) (by decide +kernel), List.mem_of_getElem? (i := 379) (by decide +kernel), List.mem_of_getElem? (i := 380) (by decide +kernel)⟩
theorem lw_p12 : lw_okq (⟨"WayMarks$Sight", "look", "(LWayMarks$Net;)V"⟩, 8) := ⟨⟨by decide +kernel, by decide +kernel⟩, List.mem_of_getElem? (i := 125) (by decide +kernel), List.mem_of_getElem? (i := 383) (by decide +kernel), List.mem_of_getElem? (i := 384) (by decide +kernel)⟩
theorem lw_p13 : lw_okq (⟨"WayMarks$Net", "besideBits", "(I)I"⟩, 12) := ⟨⟨by decide +kernel, by decide +kernel⟩, List.mem_of_getElem? (i := 23) (by decide +kernel), List.mem_of_getElem? (i := 387) (by decide +kernel), List.mem_of_getElem? (i := 388) (by decide +kernel)⟩
theorem lw_p14 : lw_okq (⟨"WayMarks$Sight", "findWays", "(LWayMarks$Net;)V"⟩, 8) := ⟨⟨by decide +kernel, by decide +kernel⟩, List.mem_of_getElem? (i := 125) (by decide +kernel), List.mem_of_getElem? (i := 391) (by decide +kernel), List.mem_of_getElem? (i := 392) (by decide +kernel)⟩
theorem lw_p15 : lw_okq (⟨"WayMarks$Sight", "shortenWays", "(II)V"⟩, 8) := ⟨⟨by decide +kernel, by decide +kernel⟩, List.mem_of_getElem? (i := 125) (by decide +kernel), List.mem_of_getElem? (i := 397) (by decide +kernel), List.mem_of_getElem? (i := 398) (by decide +kernel)⟩
def lw_privs_1 : List (MethodName × Nat) := [(⟨"WayMarks", "beforeAct", "()V"⟩, 9), (⟨"WayMarks$Past", "keep", "(LWayMarks$Net;)V"⟩, 3), (⟨"WayMarks$Net", "become", "(LWayMarks$Net;)V"⟩, 12), (⟨"WayMarks$Net", "roadCanBe", "(III)Z"⟩, 12), (⟨"WayMarks$Net", "isPost", "(I)Z"⟩, 12), (⟨"WayMarks$Net", "hasRoad", "(II)Z"⟩, 12), (⟨"WayMarks$Net", "layRoad", "(III)V"⟩, 12), (⟨"WayMarks$Tape", "hasRoomFor", "(I)Z"⟩, 2), (⟨"WayMarks$Tape", "takeFour", "(I)V"⟩, 2), (⟨"WayMarks$Tape", "byteAt", "(I)I"⟩, 2), (⟨"WayMarks$Net", "need", "()I"⟩, 12), (⟨"WayMarks", "freshSight", "()LWayMarks$Sight;"⟩, 9), (⟨"WayMarks$Sight", "look", "(LWayMarks$Net;)V"⟩, 8), (⟨"WayMarks$Net", "besideBits", "(I)I"⟩, 12), (⟨"WayMarks$Sight", "findWays", "(LWayMarks$Net;)V"⟩, 8), (⟨"WayMarks$Sight", "shortenWays", "(II)V"⟩, 8)]
theorem lw_r1 : ∀ q ∈ lw_privs_1, lw_okq q := List.forall_mem_cons.mpr ⟨lw_p0, List.forall_mem_cons.mpr ⟨lw_p1, List.forall_mem_cons.mpr ⟨lw_p2, List.forall_mem_cons.mpr ⟨lw_p3, List.forall_mem_cons.mpr ⟨lw_p4, List.forall_mem_cons.mpr ⟨lw_p5, List.forall_mem_cons.mpr ⟨lw_p6, List.forall_mem_cons.mpr ⟨lw_p7, List.forall_mem_cons.mpr ⟨lw_p8, List.forall_mem_cons.mpr ⟨lw_p9, List.forall_mem_cons.mpr ⟨lw_p10, List.forall_mem_cons.mpr ⟨lw_p11, List.forall_mem_cons.mpr ⟨lw_p12, List.forall_mem_cons.mpr ⟨lw_p13, List.forall_mem_cons.mpr ⟨lw_p14, List.forall_mem_cons.mpr ⟨lw_p15, fun _ h => absurd h List.not_mem_nil⟩⟩⟩⟩⟩⟩⟩⟩⟩⟩⟩⟩⟩⟩⟩⟩
theorem lw_p16 : lw_okq (⟨"WayMarks$Sight", "answerOf", "(LWayMarks$Net;II)I"⟩, 8) := ⟨⟨by decide +kernel, by decide +kernel⟩, List.mem_of_getElem? (i := 125) (by decide +kernel), List.mem_of_getElem? (i := 401) (by decide +kernel), List.mem_of_getElem? (i := 402) (by decide +kernel)⟩
theorem lw_p17 : lw_okq (⟨"WayMarks$Sight", "groupPosts", "(I)V"⟩, 8) := ⟨⟨by decide +kernel, by decide +kernel⟩, List.mem_of_getElem? (i := 125) (by decide +kernel), List.mem_of_getElem? (i := 405) (by decide +kernel), List.mem_of_getElem? (i := 406) (by decide +kernel)⟩
theorem lw_p18 : lw_okq (⟨"WayMarks$Sight", "sameAnswer", "(II)I"⟩, 8) := ⟨⟨by decide +kernel, by decide +kernel⟩, List.mem_of_getElem? (i := 125) (by decide +kernel), List.mem_of_getElem? (i := 409) (by decide +kernel), List.mem_of_getElem? (i := 410) (by decide +kernel)⟩
theorem lw_p19 : lw_okq (⟨"WayMarks$Sight", "findParters", "()V"⟩, 8) := ⟨⟨by decide +kernel, by decide +kernel⟩, List.mem_of_getElem? (i := 125) (by decide +kernel), List.mem_of_getElem? (i := 413) (by decide +kernel), List.mem_of_getElem? (i := 414) (by decide +kernel)⟩
theorem lw_p20 : lw_okq (⟨"WayMarks$Sight", "findYes", "(I)V"⟩, 8) := ⟨⟨by decide +kernel, by decide +kernel⟩, List.mem_of_getElem? (i := 125) (by decide +kernel), List.mem_of_getElem? (i := 417) (by decide +kernel), List.mem_of_getElem? (i := 418) (by decide +kernel)⟩
theorem lw_p21 : lw_okq (⟨"WayMarks$Sight", "countReachedFrom", "(I)I"⟩, 8) := ⟨⟨by decide +kernel, by decide +kernel⟩, List.mem_of_getElem? (i := 125) (by decide +kernel), List.mem_of_getElem? (i := 432) (by decide +kernel), List.mem_of_getElem? (i := 433) (by decide +kernel)⟩
theorem lw_p22 : lw_okq (⟨"WayMarks$Net", "isSet", "(I)Z"⟩, 12) := ⟨⟨by decide +kernel, by decide +kernel⟩, List.mem_of_getElem? (i := 23) (by decide +kernel), List.mem_of_getElem? (i := 444) (by decide +kernel), List.mem_of_getElem? (i := 445) (by decide +kernel)⟩
theorem lw_p23 : lw_okq (⟨"WayMarks$Sight", "firstPairLacking", "(II)I"⟩, 8) := ⟨⟨by decide +kernel, by decide +kernel⟩, List.mem_of_getElem? (i := 125) (by decide +kernel), List.mem_of_getElem? (i := 456) (by decide +kernel), List.mem_of_getElem? (i := 457) (by decide +kernel)⟩
theorem lw_p24 : lw_okq (⟨"WayMarks$Sight", "pairLacks", "(IIII)Z"⟩, 8) := ⟨⟨by decide +kernel, by decide +kernel⟩, List.mem_of_getElem? (i := 125) (by decide +kernel), List.mem_of_getElem? (i := 460) (by decide +kernel), List.mem_of_getElem? (i := 461) (by decide +kernel)⟩
theorem lw_p25 : lw_okq (⟨"WayMarks$Sight", "firstPostLacking", "(II)I"⟩, 8) := ⟨⟨by decide +kernel, by decide +kernel⟩, List.mem_of_getElem? (i := 125) (by decide +kernel), List.mem_of_getElem? (i := 465) (by decide +kernel), List.mem_of_getElem? (i := 466) (by decide +kernel)⟩
theorem lw_p26 : lw_okq (⟨"WayMarks$Sight", "twinPair", "(I)I"⟩, 8) := ⟨⟨by decide +kernel, by decide +kernel⟩, List.mem_of_getElem? (i := 125) (by decide +kernel), List.mem_of_getElem? (i := 473) (by decide +kernel), List.mem_of_getElem? (i := 474) (by decide +kernel)⟩
theorem lw_p27 : lw_okq (⟨"WayMarks$Sight", "areTwins", "(II)Z"⟩, 8) := ⟨⟨by decide +kernel, by decide +kernel⟩, List.mem_of_getElem? (i := 125) (by decide +kernel), List.mem_of_getElem? (i := 477) (by decide +kernel), List.mem_of_getElem? (i := 478) (by decide +kernel)⟩
theorem lw_p28 : lw_okq (⟨"WayMarks$Choice", "search", "(LWayMarks$Net;LWayMarks$Sight;Z)V"⟩, 10) := ⟨⟨by decide +kernel, by decide +kernel⟩, List.mem_of_getElem? (i := 167) (by decide +kernel), List.mem_of_getElem? (i := 487) (by decide +kernel), List.mem_of_getElem? (i := 488) (by decide +kernel)⟩
theorem lw_p29 : lw_okq (⟨"WayMarks$Choice", "gatherDemands", "(LWayMarks$Net;LWayMarks$Sight;)V"⟩, 10) := ⟨⟨by decide +kernel, by decide +kernel⟩, List.mem_of_getElem? (i := 167) (by decide +kernel), List.mem_of_getElem? (i := 493) (by decide +kernel), List.mem_of_getElem? (i := 494) (by decide +kernel)⟩
theorem lw_p30 : lw_okq (⟨"WayMarks$Choice", "demand", "(I)V"⟩, 10) := ⟨⟨by decide +kernel, by decide +kernel⟩, List.mem_of_getElem? (i := 167) (by decide +kernel), List.mem_of_getElem? (i := 498) (by decide +kernel), List.mem_of_getElem? (i := 499) (by decide +kernel)⟩
theorem lw_p31 : lw_okq (⟨"WayMarks$Choice", "decide", "(IIII)V"⟩, 10) := ⟨⟨by decide +kernel, by decide +kernel⟩, List.mem_of_getElem? (i := 167) (by decide +kernel), List.mem_of_getElem? (i := 503) (by decide +kernel), List.mem_of_getElem? (i := 504) (by decide +kernel)⟩
def lw_privs_2 : List (MethodName × Nat) := [(⟨"WayMarks$Sight", "answerOf", "(LWayMarks$Net;II)I"⟩, 8), (⟨"WayMarks$Sight", "groupPosts", "(I)V"⟩, 8), (⟨"WayMarks$Sight", "sameAnswer", "(II)I"⟩, 8), (⟨"WayMarks$Sight", "findParters", "()V"⟩, 8), (⟨"WayMarks$Sight", "findYes", "(I)V"⟩, 8), (⟨"WayMarks$Sight", "countReachedFrom", "(I)I"⟩, 8), (⟨"WayMarks$Net", "isSet", "(I)Z"⟩, 12), (⟨"WayMarks$Sight", "firstPairLacking", "(II)I"⟩, 8), (⟨"WayMarks$Sight", "pairLacks", "(IIII)Z"⟩, 8), (⟨"WayMarks$Sight", "firstPostLacking", "(II)I"⟩, 8), (⟨"WayMarks$Sight", "twinPair", "(I)I"⟩, 8), (⟨"WayMarks$Sight", "areTwins", "(II)Z"⟩, 8), (⟨"WayMarks$Choice", "search", "(LWayMarks$Net;LWayMarks$Sight;Z)V"⟩, 10), (⟨"WayMarks$Choice", "gatherDemands", "(LWayMarks$Net;LWayMarks$Sight;)V"⟩, 10), (⟨"WayMarks$Choice", "demand", "(I)V"⟩, 10), (⟨"WayMarks$Choice", "decide", "(IIII)V"⟩, 10)]
theorem lw_r2 : ∀ q ∈ lw_privs_2, lw_okq q := List.forall_mem_cons.mpr ⟨lw_p16, List.forall_mem_cons.mpr ⟨lw_p17, List.forall_mem_cons.mpr ⟨lw_p18, List.forall_mem_cons.mpr ⟨lw_p19, List.forall_mem_cons.mpr ⟨lw_p20, List.forall_mem_cons.mpr ⟨lw_p21, List.forall_mem_cons.mpr ⟨lw_p22, List.forall_mem_cons.mpr ⟨lw_p23, List.forall_mem_cons.mpr ⟨lw_p24, List.forall_mem_cons.mpr ⟨lw_p25, List.forall_mem_cons.mpr ⟨lw_p26, List.forall_mem_cons.mpr ⟨lw_p27, List.forall_mem_cons.mpr ⟨lw_p28, List.forall_mem_cons.mpr ⟨lw_p29, List.forall_mem_cons.mpr ⟨lw_p30, List.forall_mem_cons.mpr ⟨lw_p31, fun _ h => absurd h List.not_mem_nil⟩⟩⟩⟩⟩⟩⟩⟩⟩⟩⟩⟩⟩⟩⟩⟩
theorem lw_p32 : lw_okq (⟨"WayMarks$Choice", "canBeMet", "(II)Z"⟩, 10) := ⟨⟨by decide +kernel, by decide +kernel⟩, List.mem_of_getElem? (i := 167) (by decide +kernel), List.mem_of_getElem? (i := 507) (by decide +kernel), List.mem_of_getElem? (i := 508) (by decide +kernel)⟩
theorem lw_p33 : lw_okq (⟨"WayMarks$Choice", "takeIfBest", "(II)V"⟩, 10) := ⟨⟨by decide +kernel, by decide +kernel⟩, List.mem_of_getElem? (i := 167) (by decide +kernel), List.mem_of_getElem? (i := 512) (by decide +kernel), List.mem_of_getElem? (i := 513) (by decide +kernel)⟩
theorem lw_p34 : lw_okq (⟨"WayMarks", "tellChoice", "()I"⟩, 9) := ⟨⟨by decide +kernel, by decide +kernel⟩, List.mem_of_getElem? (i := 15) (by decide +kernel), List.mem_of_getElem? (i := 520) (by decide +kernel), List.mem_of_getElem? (i := 521) (by decide +kernel)⟩
theorem lw_p35 : lw_okq (⟨"WayMarks$Sight", "countApartPairs", "()I"⟩, 8) := ⟨⟨by decide +kernel, by decide +kernel⟩, List.mem_of_getElem? (i := 125) (by decide +kernel), List.mem_of_getElem? (i := 540) (by decide +kernel), List.mem_of_getElem? (i := 541) (by decide +kernel)⟩
theorem lw_p36 : lw_okq (⟨"WayMarks$Sight", "goThroughApartPairs", "(IZ)I"⟩, 8) := ⟨⟨by decide +kernel, by decide +kernel⟩, List.mem_of_getElem? (i := 125) (by decide +kernel), List.mem_of_getElem? (i := 544) (by decide +kernel), List.mem_of_getElem? (i := 545) (by decide +kernel)⟩
theorem lw_p37 : lw_okq (⟨"WayMarks$Sight", "apartPair", "(I)I"⟩, 8) := ⟨⟨by decide +kernel, by decide +kernel⟩, List.mem_of_getElem? (i := 125) (by decide +kernel), List.mem_of_getElem? (i := 552) (by decide +kernel), List.mem_of_getElem? (i := 553) (by decide +kernel)⟩
theorem lw_p38 : lw_okq (⟨"WayMarks$Sight", "greedySet", "(I)I"⟩, 8) := ⟨⟨by decide +kernel, by decide +kernel⟩, List.mem_of_getElem? (i := 125) (by decide +kernel), List.mem_of_getElem? (i := 560) (by decide +kernel), List.mem_of_getElem? (i := 561) (by decide +kernel)⟩
theorem lw_p39 : lw_okq (⟨"WayMarks$Sight", "markPartingMost", "(II)I"⟩, 8) := ⟨⟨by decide +kernel, by decide +kernel⟩, List.mem_of_getElem? (i := 125) (by decide +kernel), List.mem_of_getElem? (i := 564) (by decide +kernel), List.mem_of_getElem? (i := 565) (by decide +kernel)⟩
theorem lw_p40 : lw_okq (⟨"WayMarks$Sight", "countLackingPartedBy", "(III)I"⟩, 8) := ⟨⟨by decide +kernel, by decide +kernel⟩, List.mem_of_getElem? (i := 125) (by decide +kernel), List.mem_of_getElem? (i := 568) (by decide +kernel), List.mem_of_getElem? (i := 569) (by decide +kernel)⟩
theorem lw_p41 : lw_okq (⟨"WayMarks$Sight", "countPairsLacking", "(II)I"⟩, 8) := ⟨⟨by decide +kernel, by decide +kernel⟩, List.mem_of_getElem? (i := 125) (by decide +kernel), List.mem_of_getElem? (i := 572) (by decide +kernel), List.mem_of_getElem? (i := 573) (by decide +kernel)⟩
theorem lw_p42 : lw_okq (⟨"WayMarks$Net", "hasWord", "(I)Z"⟩, 12) := ⟨⟨by decide +kernel, by decide +kernel⟩, List.mem_of_getElem? (i := 23) (by decide +kernel), List.mem_of_getElem? (i := 580) (by decide +kernel), List.mem_of_getElem? (i := 581) (by decide +kernel)⟩
theorem lw_p43 : lw_okq (⟨"WayMarks", "fitsWords", "(I)Z"⟩, 9) := ⟨⟨by decide +kernel, by decide +kernel⟩, List.mem_of_getElem? (i := 15) (by decide +kernel), List.mem_of_getElem? (i := 592) (by decide +kernel), List.mem_of_getElem? (i := 593) (by decide +kernel)⟩
theorem lw_p44 : lw_okq (⟨"WayMarks", "wordsAgainst", "(I)I"⟩, 9) := ⟨⟨by decide +kernel, by decide +kernel⟩, List.mem_of_getElem? (i := 15) (by decide +kernel), List.mem_of_getElem? (i := 596) (by decide +kernel), List.mem_of_getElem? (i := 597) (by decide +kernel)⟩
theorem lw_p45 : lw_okq (⟨"WayMarks", "canBeAsked", "(I)Z"⟩, 9) := ⟨⟨by decide +kernel, by decide +kernel⟩, List.mem_of_getElem? (i := 15) (by decide +kernel), List.mem_of_getElem? (i := 612) (by decide +kernel), List.mem_of_getElem? (i := 613) (by decide +kernel)⟩
theorem lw_p46 : lw_okq (⟨"WayMarks$Asking", "prepare", "(ILWayMarks$Net;LWayMarks$Sight;Z)V"⟩, 8) := ⟨⟨by decide +kernel, by decide +kernel⟩, List.mem_of_getElem? (i := 207) (by decide +kernel), List.mem_of_getElem? (i := 616) (by decide +kernel), List.mem_of_getElem? (i := 617) (by decide +kernel)⟩
theorem lw_p47 : lw_okq (⟨"WayMarks$Asking", "findPlaces", "(ILWayMarks$Net;LWayMarks$Sight;)V"⟩, 8) := ⟨⟨by decide +kernel, by decide +kernel⟩, List.mem_of_getElem? (i := 207) (by decide +kernel), List.mem_of_getElem? (i := 620) (by decide +kernel), List.mem_of_getElem? (i := 621) (by decide +kernel)⟩
def lw_privs_3 : List (MethodName × Nat) := [(⟨"WayMarks$Choice", "canBeMet", "(II)Z"⟩, 10), (⟨"WayMarks$Choice", "takeIfBest", "(II)V"⟩, 10), (⟨"WayMarks", "tellChoice", "()I"⟩, 9), (⟨"WayMarks$Sight", "countApartPairs", "()I"⟩, 8), (⟨"WayMarks$Sight", "goThroughApartPairs", "(IZ)I"⟩, 8), (⟨"WayMarks$Sight", "apartPair", "(I)I"⟩, 8), (⟨"WayMarks$Sight", "greedySet", "(I)I"⟩, 8), (⟨"WayMarks$Sight", "markPartingMost", "(II)I"⟩, 8), (⟨"WayMarks$Sight", "countLackingPartedBy", "(III)I"⟩, 8), (⟨"WayMarks$Sight", "countPairsLacking", "(II)I"⟩, 8), (⟨"WayMarks$Net", "hasWord", "(I)Z"⟩, 12), (⟨"WayMarks", "fitsWords", "(I)Z"⟩, 9), (⟨"WayMarks", "wordsAgainst", "(I)I"⟩, 9), (⟨"WayMarks", "canBeAsked", "(I)Z"⟩, 9), (⟨"WayMarks$Asking", "prepare", "(ILWayMarks$Net;LWayMarks$Sight;Z)V"⟩, 8), (⟨"WayMarks$Asking", "findPlaces", "(ILWayMarks$Net;LWayMarks$Sight;)V"⟩, 8)]
theorem lw_r3 : ∀ q ∈ lw_privs_3, lw_okq q := List.forall_mem_cons.mpr ⟨lw_p32, List.forall_mem_cons.mpr ⟨lw_p33, List.forall_mem_cons.mpr ⟨lw_p34, List.forall_mem_cons.mpr ⟨lw_p35, List.forall_mem_cons.mpr ⟨lw_p36, List.forall_mem_cons.mpr ⟨lw_p37, List.forall_mem_cons.mpr ⟨lw_p38, List.forall_mem_cons.mpr ⟨lw_p39, List.forall_mem_cons.mpr ⟨lw_p40, List.forall_mem_cons.mpr ⟨lw_p41, List.forall_mem_cons.mpr ⟨lw_p42, List.forall_mem_cons.mpr ⟨lw_p43, List.forall_mem_cons.mpr ⟨lw_p44, List.forall_mem_cons.mpr ⟨lw_p45, List.forall_mem_cons.mpr ⟨lw_p46, List.forall_mem_cons.mpr ⟨lw_p47, fun _ h => absurd h List.not_mem_nil⟩⟩⟩⟩⟩⟩⟩⟩⟩⟩⟩⟩⟩⟩⟩⟩
theorem lw_p48 : lw_okq (⟨"WayMarks$Asking", "placeOf", "(ILWayMarks$Sight;)I"⟩, 8) := ⟨⟨by decide +kernel, by decide +kernel⟩, List.mem_of_getElem? (i := 207) (by decide +kernel), List.mem_of_getElem? (i := 624) (by decide +kernel), List.mem_of_getElem? (i := 625) (by decide +kernel)⟩
theorem lw_p49 : lw_okq (⟨"WayMarks$Asking", "groupPlaces", "(ILWayMarks$Sight;)V"⟩, 8) := ⟨⟨by decide +kernel, by decide +kernel⟩, List.mem_of_getElem? (i := 207) (by decide +kernel), List.mem_of_getElem? (i := 629) (by decide +kernel), List.mem_of_getElem? (i := 630) (by decide +kernel)⟩
theorem lw_p50 : lw_okq (⟨"WayMarks$Asking", "leastCost", "()I"⟩, 8) := ⟨⟨by decide +kernel, by decide +kernel⟩, List.mem_of_getElem? (i := 207) (by decide +kernel), List.mem_of_getElem? (i := 633) (by decide +kernel), List.mem_of_getElem? (i := 634) (by decide +kernel)⟩
theorem lw_p51 : lw_okq (⟨"WayMarks$Asking", "costOf", "(II)I"⟩, 8) := ⟨⟨by decide +kernel, by decide +kernel⟩, List.mem_of_getElem? (i := 207) (by decide +kernel), List.mem_of_getElem? (i := 637) (by decide +kernel), List.mem_of_getElem? (i := 638) (by decide +kernel)⟩
theorem lw_p52 : lw_okq (⟨"WayMarks$Asking", "costOfAsking", "(III)I"⟩, 8) := ⟨⟨by decide +kernel, by decide +kernel⟩, List.mem_of_getElem? (i := 207) (by decide +kernel), List.mem_of_getElem? (i := 642) (by decide +kernel), List.mem_of_getElem? (i := 643) (by decide +kernel)⟩
theorem lw_p53 : lw_okq (⟨"WayMarks$Asking", "chanceOf", "(I)I"⟩, 8) := ⟨⟨by decide +kernel, by decide +kernel⟩, List.mem_of_getElem? (i := 207) (by decide +kernel), List.mem_of_getElem? (i := 647) (by decide +kernel), List.mem_of_getElem? (i := 648) (by decide +kernel)⟩
theorem lw_p54 : lw_okq (⟨"WayMarks$Asking", "firstMark", "()I"⟩, 8) := ⟨⟨by decide +kernel, by decide +kernel⟩, List.mem_of_getElem? (i := 207) (by decide +kernel), List.mem_of_getElem? (i := 656) (by decide +kernel), List.mem_of_getElem? (i := 657) (by decide +kernel)⟩
theorem lw_p55 : lw_okq (⟨"WayMarks$Seeking", "fewestRounds", "(ILWayMarks$Sight;)I"⟩, 2) := ⟨⟨by decide +kernel, by decide +kernel⟩, List.mem_of_getElem? (i := 238) (by decide +kernel), List.mem_of_getElem? (i := 668) (by decide +kernel), List.mem_of_getElem? (i := 669) (by decide +kernel)⟩
theorem lw_p56 : lw_okq (⟨"WayMarks$Seeking", "prepare", "(ILWayMarks$Sight;)V"⟩, 2) := ⟨⟨by decide +kernel, by decide +kernel⟩, List.mem_of_getElem? (i := 238) (by decide +kernel), List.mem_of_getElem? (i := 673) (by decide +kernel), List.mem_of_getElem? (i := 674) (by decide +kernel)⟩
theorem lw_p57 : lw_okq (⟨"WayMarks$Seeking", "findInRound", "(IILWayMarks$Sight;)Z"⟩, 2) := ⟨⟨by decide +kernel, by decide +kernel⟩, List.mem_of_getElem? (i := 238) (by decide +kernel), List.mem_of_getElem? (i := 678) (by decide +kernel), List.mem_of_getElem? (i := 679) (by decide +kernel)⟩
theorem lw_p58 : lw_okq (⟨"WayMarks$Seeking", "someMarkFinds", "(IILWayMarks$Sight;)Z"⟩, 2) := ⟨⟨by decide +kernel, by decide +kernel⟩, List.mem_of_getElem? (i := 238) (by decide +kernel), List.mem_of_getElem? (i := 682) (by decide +kernel), List.mem_of_getElem? (i := 683) (by decide +kernel)⟩
theorem lw_p59 : lw_okq (⟨"WayMarks$Seeking", "markFinds", "(IIILWayMarks$Sight;)Z"⟩, 2) := ⟨⟨by decide +kernel, by decide +kernel⟩, List.mem_of_getElem? (i := 238) (by decide +kernel), List.mem_of_getElem? (i := 686) (by decide +kernel), List.mem_of_getElem? (i := 687) (by decide +kernel)⟩
theorem lw_p60 : lw_okq (⟨"WayMarks$Net", "countRoads", "()I"⟩, 12) := ⟨⟨by decide +kernel, by decide +kernel⟩, List.mem_of_getElem? (i := 23) (by decide +kernel), List.mem_of_getElem? (i := 694) (by decide +kernel), List.mem_of_getElem? (i := 695) (by decide +kernel)⟩
theorem lw_p61 : lw_okq (⟨"WayMarks$Sight", "leavesLessKnots", "()I"⟩, 8) := ⟨⟨by decide +kernel, by decide +kernel⟩, List.mem_of_getElem? (i := 125) (by decide +kernel), List.mem_of_getElem? (i := 700) (by decide +kernel), List.mem_of_getElem? (i := 701) (by decide +kernel)⟩
theorem lw_p62 : lw_okq (⟨"WayMarks$Sight", "countBeside", "(I)I"⟩, 8) := ⟨⟨by decide +kernel, by decide +kernel⟩, List.mem_of_getElem? (i := 125) (by decide +kernel), List.mem_of_getElem? (i := 704) (by decide +kernel), List.mem_of_getElem? (i := 705) (by decide +kernel)⟩
theorem lw_p63 : lw_okq (⟨"WayMarks$Sight", "knotOfLeaf", "(I)I"⟩, 8) := ⟨⟨by decide +kernel, by decide +kernel⟩, List.mem_of_getElem? (i := 125) (by decide +kernel), List.mem_of_getElem? (i := 708) (by decide +kernel), List.mem_of_getElem? (i := 709) (by decide +kernel)⟩
def lw_privs_4 : List (MethodName × Nat) := [(⟨"WayMarks$Asking", "placeOf", "(ILWayMarks$Sight;)I"⟩, 8), (⟨"WayMarks$Asking", "groupPlaces", "(ILWayMarks$Sight;)V"⟩, 8), (⟨"WayMarks$Asking", "leastCost", "()I"⟩, 8), (⟨"WayMarks$Asking", "costOf", "(II)I"⟩, 8), (⟨"WayMarks$Asking", "costOfAsking", "(III)I"⟩, 8), (⟨"WayMarks$Asking", "chanceOf", "(I)I"⟩, 8), (⟨"WayMarks$Asking", "firstMark", "()I"⟩, 8), (⟨"WayMarks$Seeking", "fewestRounds", "(ILWayMarks$Sight;)I"⟩, 2), (⟨"WayMarks$Seeking", "prepare", "(ILWayMarks$Sight;)V"⟩, 2), (⟨"WayMarks$Seeking", "findInRound", "(IILWayMarks$Sight;)Z"⟩, 2), (⟨"WayMarks$Seeking", "someMarkFinds", "(IILWayMarks$Sight;)Z"⟩, 2), (⟨"WayMarks$Seeking", "markFinds", "(IIILWayMarks$Sight;)Z"⟩, 2), (⟨"WayMarks$Net", "countRoads", "()I"⟩, 12), (⟨"WayMarks$Sight", "leavesLessKnots", "()I"⟩, 8), (⟨"WayMarks$Sight", "countBeside", "(I)I"⟩, 8), (⟨"WayMarks$Sight", "knotOfLeaf", "(I)I"⟩, 8)]
theorem lw_r4 : ∀ q ∈ lw_privs_4, lw_okq q := List.forall_mem_cons.mpr ⟨lw_p48, List.forall_mem_cons.mpr ⟨lw_p49, List.forall_mem_cons.mpr ⟨lw_p50, List.forall_mem_cons.mpr ⟨lw_p51, List.forall_mem_cons.mpr ⟨lw_p52, List.forall_mem_cons.mpr ⟨lw_p53, List.forall_mem_cons.mpr ⟨lw_p54, List.forall_mem_cons.mpr ⟨lw_p55, List.forall_mem_cons.mpr ⟨lw_p56, List.forall_mem_cons.mpr ⟨lw_p57, List.forall_mem_cons.mpr ⟨lw_p58, List.forall_mem_cons.mpr ⟨lw_p59, List.forall_mem_cons.mpr ⟨lw_p60, List.forall_mem_cons.mpr ⟨lw_p61, List.forall_mem_cons.mpr ⟨lw_p62, List.forall_mem_cons.mpr ⟨lw_p63, fun _ h => absurd h List.not_mem_nil⟩⟩⟩⟩⟩⟩⟩⟩⟩⟩⟩⟩⟩⟩⟩⟩
theorem lw_p64 : lw_okq (⟨"WayMarks$Past", "goBack", "(LWayMarks$Net;I)V"⟩, 3) := ⟨⟨by decide +kernel, by decide +kernel⟩, List.mem_of_getElem? (i := 91) (by decide +kernel), List.mem_of_getElem? (i := 717) (by decide +kernel), List.mem_of_getElem? (i := 718) (by decide +kernel)⟩
theorem lw_p65 : lw_okq (⟨"WayMarksModel", "first", "(I)V"⟩, 16) := ⟨⟨by decide +kernel, by decide +kernel⟩, List.mem_of_getElem? (i := 728) (by decide +kernel), List.mem_of_getElem? (i := 736) (by decide +kernel), List.mem_of_getElem? (i := 737) (by decide +kernel)⟩
theorem lw_p66 : lw_okq (⟨"WayMarksModel", "walk", "()V"⟩, 16) := ⟨⟨by decide +kernel, by decide +kernel⟩, List.mem_of_getElem? (i := 728) (by decide +kernel), List.mem_of_getElem? (i := 740) (by decide +kernel), List.mem_of_getElem? (i := 741) (by decide +kernel)⟩
theorem lw_p67 : lw_okq (⟨"WayMarksModel", "length", "(II)I"⟩, 16) := ⟨⟨by decide +kernel, by decide +kernel⟩, List.mem_of_getElem? (i := 728) (by decide +kernel), List.mem_of_getElem? (i := 744) (by decide +kernel), List.mem_of_getElem? (i := 745) (by decide +kernel)⟩
theorem lw_p68 : lw_okq (⟨"WayMarksModel", "n", "()I"⟩, 16) := ⟨⟨by decide +kernel, by decide +kernel⟩, List.mem_of_getElem? (i := 728) (by decide +kernel), List.mem_of_getElem? (i := 749) (by decide +kernel), List.mem_of_getElem? (i := 750) (by decide +kernel)⟩
theorem lw_p69 : lw_okq (⟨"WayMarksModel", "says", "(II)I"⟩, 16) := ⟨⟨by decide +kernel, by decide +kernel⟩, List.mem_of_getElem? (i := 728) (by decide +kernel), List.mem_of_getElem? (i := 753) (by decide +kernel), List.mem_of_getElem? (i := 754) (by decide +kernel)⟩
theorem lw_p70 : lw_okq (⟨"WayMarksModel", "act", "()V"⟩, 16) := ⟨⟨by decide +kernel, by decide +kernel⟩, List.mem_of_getElem? (i := 728) (by decide +kernel), List.mem_of_getElem? (i := 814) (by decide +kernel), List.mem_of_getElem? (i := 815) (by decide +kernel)⟩
theorem lw_p71 : lw_okq (⟨"WayMarksModel", "isRoad", "(III)Z"⟩, 16) := ⟨⟨by decide +kernel, by decide +kernel⟩, List.mem_of_getElem? (i := 728) (by decide +kernel), List.mem_of_getElem? (i := 822) (by decide +kernel), List.mem_of_getElem? (i := 823) (by decide +kernel)⟩
theorem lw_p72 : lw_okq (⟨"WayMarksModel", "isPost", "(I)Z"⟩, 16) := ⟨⟨by decide +kernel, by decide +kernel⟩, List.mem_of_getElem? (i := 728) (by decide +kernel), List.mem_of_getElem? (i := 826) (by decide +kernel), List.mem_of_getElem? (i := 827) (by decide +kernel)⟩
theorem lw_p73 : lw_okq (⟨"WayMarksModel", "lay", "(III)V"⟩, 16) := ⟨⟨by decide +kernel, by decide +kernel⟩, List.mem_of_getElem? (i := 728) (by decide +kernel), List.mem_of_getElem? (i := 830) (by decide +kernel), List.mem_of_getElem? (i := 831) (by decide +kernel)⟩
theorem lw_p74 : lw_okq (⟨"WayMarksModel", "four", "(I)V"⟩, 16) := ⟨⟨by decide +kernel, by decide +kernel⟩, List.mem_of_getElem? (i := 728) (by decide +kernel), List.mem_of_getElem? (i := 842) (by decide +kernel), List.mem_of_getElem? (i := 843) (by decide +kernel)⟩
theorem lw_p75 : lw_okq (⟨"WayMarksModel", "need", "()I"⟩, 16) := ⟨⟨by decide +kernel, by decide +kernel⟩, List.mem_of_getElem? (i := 728) (by decide +kernel), List.mem_of_getElem? (i := 870) (by decide +kernel), List.mem_of_getElem? (i := 871) (by decide +kernel)⟩
theorem lw_p76 : lw_okq (⟨"WayMarksModel", "besideBits", "(I)I"⟩, 16) := ⟨⟨by decide +kernel, by decide +kernel⟩, List.mem_of_getElem? (i := 728) (by decide +kernel), List.mem_of_getElem? (i := 886) (by decide +kernel), List.mem_of_getElem? (i := 887) (by decide +kernel)⟩
theorem lw_p77 : lw_okq (⟨"WayMarksModel", "answerOf", "(II)I"⟩, 16) := ⟨⟨by decide +kernel, by decide +kernel⟩, List.mem_of_getElem? (i := 728) (by decide +kernel), List.mem_of_getElem? (i := 897) (by decide +kernel), List.mem_of_getElem? (i := 898) (by decide +kernel)⟩
theorem lw_p78 : lw_okq (⟨"WayMarksModel", "isSet", "(I)Z"⟩, 16) := ⟨⟨by decide +kernel, by decide +kernel⟩, List.mem_of_getElem? (i := 728) (by decide +kernel), List.mem_of_getElem? (i := 905) (by decide +kernel), List.mem_of_getElem? (i := 906) (by decide +kernel)⟩
theorem lw_p79 : lw_okq (⟨"WayMarksModel", "parting", "(II)I"⟩, 16) := ⟨⟨by decide +kernel, by decide +kernel⟩, List.mem_of_getElem? (i := 728) (by decide +kernel), List.mem_of_getElem? (i := 909) (by decide +kernel), List.mem_of_getElem? (i := 910) (by decide +kernel)⟩
def lw_privs_5 : List (MethodName × Nat) := [(⟨"WayMarks$Past", "goBack", "(LWayMarks$Net;I)V"⟩, 3), (⟨"WayMarksModel", "first", "(I)V"⟩, 16), (⟨"WayMarksModel", "walk", "()V"⟩, 16), (⟨"WayMarksModel", "length", "(II)I"⟩, 16), (⟨"WayMarksModel", "n", "()I"⟩, 16), (⟨"WayMarksModel", "says", "(II)I"⟩, 16), (⟨"WayMarksModel", "act", "()V"⟩, 16), (⟨"WayMarksModel", "isRoad", "(III)Z"⟩, 16), (⟨"WayMarksModel", "isPost", "(I)Z"⟩, 16), (⟨"WayMarksModel", "lay", "(III)V"⟩, 16), (⟨"WayMarksModel", "four", "(I)V"⟩, 16), (⟨"WayMarksModel", "need", "()I"⟩, 16), (⟨"WayMarksModel", "besideBits", "(I)I"⟩, 16), (⟨"WayMarksModel", "answerOf", "(II)I"⟩, 16), (⟨"WayMarksModel", "isSet", "(I)Z"⟩, 16), (⟨"WayMarksModel", "parting", "(II)I"⟩, 16)]
theorem lw_r5 : ∀ q ∈ lw_privs_5, lw_okq q := List.forall_mem_cons.mpr ⟨lw_p64, List.forall_mem_cons.mpr ⟨lw_p65, List.forall_mem_cons.mpr ⟨lw_p66, List.forall_mem_cons.mpr ⟨lw_p67, List.forall_mem_cons.mpr ⟨lw_p68, List.forall_mem_cons.mpr ⟨lw_p69, List.forall_mem_cons.mpr ⟨lw_p70, List.forall_mem_cons.mpr ⟨lw_p71, List.forall_mem_cons.mpr ⟨lw_p72, List.forall_mem_cons.mpr ⟨lw_p73, List.forall_mem_cons.mpr ⟨lw_p74, List.forall_mem_cons.mpr ⟨lw_p75, List.forall_mem_cons.mpr ⟨lw_p76, List.forall_mem_cons.mpr ⟨lw_p77, List.forall_mem_cons.mpr ⟨lw_p78, List.forall_mem_cons.mpr ⟨lw_p79, fun _ h => absurd h List.not_mem_nil⟩⟩⟩⟩⟩⟩⟩⟩⟩⟩⟩⟩⟩⟩⟩⟩
theorem lw_p80 : lw_okq (⟨"WayMarksModel", "isParting", "(III)Z"⟩, 16) := ⟨⟨by decide +kernel, by decide +kernel⟩, List.mem_of_getElem? (i := 728) (by decide +kernel), List.mem_of_getElem? (i := 913) (by decide +kernel), List.mem_of_getElem? (i := 914) (by decide +kernel)⟩
theorem lw_p81 : lw_okq (⟨"WayMarksModel", "gather", "()V"⟩, 16) := ⟨⟨by decide +kernel, by decide +kernel⟩, List.mem_of_getElem? (i := 728) (by decide +kernel), List.mem_of_getElem? (i := 921) (by decide +kernel), List.mem_of_getElem? (i := 922) (by decide +kernel)⟩
theorem lw_p82 : lw_okq (⟨"WayMarksModel", "yes", "(I)I"⟩, 16) := ⟨⟨by decide +kernel, by decide +kernel⟩, List.mem_of_getElem? (i := 728) (by decide +kernel), List.mem_of_getElem? (i := 925) (by decide +kernel), List.mem_of_getElem? (i := 926) (by decide +kernel)⟩
theorem lw_p83 : lw_okq (⟨"WayMarksModel", "isYes", "(II)Z"⟩, 16) := ⟨⟨by decide +kernel, by decide +kernel⟩, List.mem_of_getElem? (i := 728) (by decide +kernel), List.mem_of_getElem? (i := 929) (by decide +kernel), List.mem_of_getElem? (i := 930) (by decide +kernel)⟩
theorem lw_p84 : lw_okq (⟨"WayMarksModel", "clashOf", "(I)I"⟩, 16) := ⟨⟨by decide +kernel, by decide +kernel⟩, List.mem_of_getElem? (i := 728) (by decide +kernel), List.mem_of_getElem? (i := 933) (by decide +kernel), List.mem_of_getElem? (i := 934) (by decide +kernel)⟩
theorem lw_p85 : lw_okq (⟨"WayMarksModel", "areTwins", "(II)Z"⟩, 16) := ⟨⟨by decide +kernel, by decide +kernel⟩, List.mem_of_getElem? (i := 728) (by decide +kernel), List.mem_of_getElem? (i := 941) (by decide +kernel), List.mem_of_getElem? (i := 942) (by decide +kernel)⟩
theorem lw_p86 : lw_okq (⟨"WayMarksModel", "best", "(Z)I"⟩, 16) := ⟨⟨by decide +kernel, by decide +kernel⟩, List.mem_of_getElem? (i := 728) (by decide +kernel), List.mem_of_getElem? (i := 949) (by decide +kernel), List.mem_of_getElem? (i := 950) (by decide +kernel)⟩
theorem lw_p87 : lw_okq (⟨"WayMarksModel", "price", "(I)I"⟩, 16) := ⟨⟨by decide +kernel, by decide +kernel⟩, List.mem_of_getElem? (i := 728) (by decide +kernel), List.mem_of_getElem? (i := 953) (by decide +kernel), List.mem_of_getElem? (i := 954) (by decide +kernel)⟩
theorem lw_p88 : lw_okq (⟨"WayMarksModel", "show", "()I"⟩, 16) := ⟨⟨by decide +kernel, by decide +kernel⟩, List.mem_of_getElem? (i := 728) (by decide +kernel), List.mem_of_getElem? (i := 973) (by decide +kernel), List.mem_of_getElem? (i := 974) (by decide +kernel)⟩
theorem lw_p89 : lw_okq (⟨"WayMarksModel", "lacks", "(II)Z"⟩, 16) := ⟨⟨by decide +kernel, by decide +kernel⟩, List.mem_of_getElem? (i := 728) (by decide +kernel), List.mem_of_getElem? (i := 985) (by decide +kernel), List.mem_of_getElem? (i := 986) (by decide +kernel)⟩
theorem lw_p90 : lw_okq (⟨"WayMarksModel", "isFit", "(I)Z"⟩, 16) := ⟨⟨by decide +kernel, by decide +kernel⟩, List.mem_of_getElem? (i := 728) (by decide +kernel), List.mem_of_getElem? (i := 1001) (by decide +kernel), List.mem_of_getElem? (i := 1002) (by decide +kernel)⟩
theorem lw_p91 : lw_okq (⟨"WayMarksModel", "againstBits", "(I)I"⟩, 16) := ⟨⟨by decide +kernel, by decide +kernel⟩, List.mem_of_getElem? (i := 728) (by decide +kernel), List.mem_of_getElem? (i := 1005) (by decide +kernel), List.mem_of_getElem? (i := 1006) (by decide +kernel)⟩
theorem lw_p92 : lw_okq (⟨"WayMarksModel", "isAsked", "(I)Z"⟩, 16) := ⟨⟨by decide +kernel, by decide +kernel⟩, List.mem_of_getElem? (i := 728) (by decide +kernel), List.mem_of_getElem? (i := 1021) (by decide +kernel), List.mem_of_getElem? (i := 1022) (by decide +kernel)⟩
theorem lw_p93 : lw_okq (⟨"WayMarksModel", "fill", "(I)V"⟩, 16) := ⟨⟨by decide +kernel, by decide +kernel⟩, List.mem_of_getElem? (i := 728) (by decide +kernel), List.mem_of_getElem? (i := 1025) (by decide +kernel), List.mem_of_getElem? (i := 1026) (by decide +kernel)⟩
theorem lw_p94 : lw_okq (⟨"WayMarksModel", "fillOne", "(I)V"⟩, 16) := ⟨⟨by decide +kernel, by decide +kernel⟩, List.mem_of_getElem? (i := 728) (by decide +kernel), List.mem_of_getElem? (i := 1029) (by decide +kernel), List.mem_of_getElem? (i := 1030) (by decide +kernel)⟩
theorem lw_p95 : lw_okq (⟨"WayMarksModel", "isDone", "(I)Z"⟩, 16) := ⟨⟨by decide +kernel, by decide +kernel⟩, List.mem_of_getElem? (i := 728) (by decide +kernel), List.mem_of_getElem? (i := 1033) (by decide +kernel), List.mem_of_getElem? (i := 1034) (by decide +kernel)⟩
def lw_privs_6 : List (MethodName × Nat) := [(⟨"WayMarksModel", "isParting", "(III)Z"⟩, 16), (⟨"WayMarksModel", "gather", "()V"⟩, 16), (⟨"WayMarksModel", "yes", "(I)I"⟩, 16), (⟨"WayMarksModel", "isYes", "(II)Z"⟩, 16), (⟨"WayMarksModel", "clashOf", "(I)I"⟩, 16), (⟨"WayMarksModel", "areTwins", "(II)Z"⟩, 16), (⟨"WayMarksModel", "best", "(Z)I"⟩, 16), (⟨"WayMarksModel", "price", "(I)I"⟩, 16), (⟨"WayMarksModel", "show", "()I"⟩, 16), (⟨"WayMarksModel", "lacks", "(II)Z"⟩, 16), (⟨"WayMarksModel", "isFit", "(I)Z"⟩, 16), (⟨"WayMarksModel", "againstBits", "(I)I"⟩, 16), (⟨"WayMarksModel", "isAsked", "(I)Z"⟩, 16), (⟨"WayMarksModel", "fill", "(I)V"⟩, 16), (⟨"WayMarksModel", "fillOne", "(I)V"⟩, 16), (⟨"WayMarksModel", "isDone", "(I)Z"⟩, 16)]
theorem lw_r6 : ∀ q ∈ lw_privs_6, lw_okq q := List.forall_mem_cons.mpr ⟨lw_p80, List.forall_mem_cons.mpr ⟨lw_p81, List.forall_mem_cons.mpr ⟨lw_p82, List.forall_mem_cons.mpr ⟨lw_p83, List.forall_mem_cons.mpr ⟨lw_p84, List.forall_mem_cons.mpr ⟨lw_p85, List.forall_mem_cons.mpr ⟨lw_p86, List.forall_mem_cons.mpr ⟨lw_p87, List.forall_mem_cons.mpr ⟨lw_p88, List.forall_mem_cons.mpr ⟨lw_p89, List.forall_mem_cons.mpr ⟨lw_p90, List.forall_mem_cons.mpr ⟨lw_p91, List.forall_mem_cons.mpr ⟨lw_p92, List.forall_mem_cons.mpr ⟨lw_p93, List.forall_mem_cons.mpr ⟨lw_p94, List.forall_mem_cons.mpr ⟨lw_p95, fun _ h => absurd h List.not_mem_nil⟩⟩⟩⟩⟩⟩⟩⟩⟩⟩⟩⟩⟩⟩⟩⟩
theorem lw_p96 : lw_okq (⟨"WayMarksModel", "staying", "(III)I"⟩, 16) := ⟨⟨by decide +kernel, by decide +kernel⟩, List.mem_of_getElem? (i := 728) (by decide +kernel), List.mem_of_getElem? (i := 1038) (by decide +kernel), List.mem_of_getElem? (i := 1039) (by decide +kernel)⟩
theorem lw_p97 : lw_okq (⟨"WayMarksModel", "isFoundIn", "(II)Z"⟩, 16) := ⟨⟨by decide +kernel, by decide +kernel⟩, List.mem_of_getElem? (i := 728) (by decide +kernel), List.mem_of_getElem? (i := 1054) (by decide +kernel), List.mem_of_getElem? (i := 1055) (by decide +kernel)⟩
theorem lw_p98 : lw_okq (⟨"WayMarksModel", "moved", "(I)I"⟩, 16) := ⟨⟨by decide +kernel, by decide +kernel⟩, List.mem_of_getElem? (i := 728) (by decide +kernel), List.mem_of_getElem? (i := 1058) (by decide +kernel), List.mem_of_getElem? (i := 1059) (by decide +kernel)⟩
theorem lw_p99 : lw_okq (⟨"WayMarksModel", "isLed", "(I)Z"⟩, 16) := ⟨⟨by decide +kernel, by decide +kernel⟩, List.mem_of_getElem? (i := 728) (by decide +kernel), List.mem_of_getElem? (i := 1067) (by decide +kernel), List.mem_of_getElem? (i := 1068) (by decide +kernel)⟩
def lw_privs_7 : List (MethodName × Nat) := [(⟨"WayMarksModel", "staying", "(III)I"⟩, 16), (⟨"WayMarksModel", "isFoundIn", "(II)Z"⟩, 16), (⟨"WayMarksModel", "moved", "(I)I"⟩, 16), (⟨"WayMarksModel", "isLed", "(I)Z"⟩, 16)]
theorem lw_r7 : ∀ q ∈ lw_privs_7, lw_okq q := List.forall_mem_cons.mpr ⟨lw_p96, List.forall_mem_cons.mpr ⟨lw_p97, List.forall_mem_cons.mpr ⟨lw_p98, List.forall_mem_cons.mpr ⟨lw_p99, fun _ h => absurd h List.not_mem_nil⟩⟩⟩⟩
def lw_privs : List (MethodName × Nat) := lw_privs_1 ++ (lw_privs_2 ++ (lw_privs_3 ++ (lw_privs_4 ++ (lw_privs_5 ++ (lw_privs_6 ++ (lw_privs_7))))))
def lw_tbl : List Cond := k2_sels lw_privs ++ tables_1
theorem lw_privs_ok : ∀ q ∈ lw_privs, lw_okq q := by
  show ∀ q ∈ lw_privs_1 ++ (lw_privs_2 ++ (lw_privs_3 ++ (lw_privs_4 ++ (lw_privs_5 ++ (lw_privs_6 ++ (lw_privs_7)))))), lw_okq q
  exact List.forall_mem_append.mpr ⟨lw_r1, List.forall_mem_append.mpr ⟨lw_r2, List.forall_mem_append.mpr ⟨lw_r3, List.forall_mem_append.mpr ⟨lw_r4, List.forall_mem_append.mpr ⟨lw_r5, List.forall_mem_append.mpr ⟨lw_r6, lw_r7⟩⟩⟩⟩⟩⟩
end
section
def RX0 : String := "WayMarks$Asking"
def TX0 : u_T := fun k => match k with
  | 0 => ("WayMarks$Asking", "costs", "[I", true)
  | 1 => ("WayMarks$Asking", "heads", "[I", true)
  | 2 => ("WayMarks$Asking", "chances", "[I", true)
  | 3 => ("WayMarks$Asking", "places", "I", false)
  | 4 => ("WayMarks$Asking", "marks", "I", false)
  | 5 => ("WayMarks$Asking", "summing", "Z", false)
  | 6 => ("WayMarks$Asking", "groups", "[I", true)
  | _ => ("WayMarks$Asking", "groupCounts", "[I", true)
def tyX0 : Nat → FieldType := fun k => match k with
  | 0 => .array .int
  | 1 => .array .int
  | 2 => .array .int
  | 3 => .int
  | 4 => .int
  | 5 => .boolean
  | 6 => .array .int
  | _ => .array .int
abbrev wsX00 : List Cond := u_ws RX0 TX0 8
theorem nmX0 : ∀ a, a < 8 → ∀ b, b < 8 → a ≠ b → (TX0 a).2.1 ≠ (TX0 b).2.1 := by decide +kernel
theorem tyX0_ok : ∀ k, k < 8 → parseFieldDescriptor (TX0 k).2.2.1 = some (tyX0 k) := by decide +kernel
abbrev cX0_init : ByteArray := prog_2_method_1_code
def yX0_init : MethodName := ⟨RX0, "<init>", "()V"⟩
abbrev cX0_prepare : ByteArray := prog_2_method_2_code
def yX0_prepare : MethodName := ⟨RX0, "prepare", "(ILWayMarks$Net;LWayMarks$Sight;Z)V"⟩
abbrev cX0_findPlaces : ByteArray := prog_2_method_3_code
def yX0_findPlaces : MethodName := ⟨RX0, "findPlaces", "(ILWayMarks$Net;LWayMarks$Sight;)V"⟩
abbrev cX0_placeOf : ByteArray := prog_2_method_4_code
def yX0_placeOf : MethodName := ⟨RX0, "placeOf", "(ILWayMarks$Sight;)I"⟩
abbrev cX0_groupPlaces : ByteArray := prog_2_method_5_code
def yX0_groupPlaces : MethodName := ⟨RX0, "groupPlaces", "(ILWayMarks$Sight;)V"⟩
abbrev cX0_leastCost : ByteArray := prog_2_method_6_code
def yX0_leastCost : MethodName := ⟨RX0, "leastCost", "()I"⟩
abbrev cX0_firstMark : ByteArray := prog_2_method_7_code
def yX0_firstMark : MethodName := ⟨RX0, "firstMark", "()I"⟩
abbrev cX0_costOf : ByteArray := prog_2_method_8_code
def yX0_costOf : MethodName := ⟨RX0, "costOf", "(II)I"⟩
abbrev cX0_costOfAsking : ByteArray := prog_2_method_9_code
def yX0_costOfAsking : MethodName := ⟨RX0, "costOfAsking", "(III)I"⟩
abbrev cX0_chanceOf : ByteArray := prog_2_method_10_code
def yX0_chanceOf : MethodName := ⟨RX0, "chanceOf", "(I)I"⟩
def RX1 : String := "WayMarks$Choice"
def TX1 : u_T := fun k => match k with
  | 0 => ("WayMarks$Choice", "demands", "[I", true)
  | 1 => ("WayMarks$Choice", "demandCount", "I", false)
  | 2 => ("WayMarks$Choice", "need", "I", false)
  | 3 => ("WayMarks$Choice", "costs", "[I", true)
  | 4 => ("WayMarks$Choice", "leastCost", "I", false)
  | 5 => ("WayMarks$Choice", "tightest", "I", false)
  | 6 => ("WayMarks$Choice", "stillNeeded", "I", false)
  | 7 => ("WayMarks$Choice", "bestSum", "I", false)
  | 8 => ("WayMarks$Choice", "bestSet", "I", false)
  | _ => ("WayMarks$Choice", "bestCount", "I", false)
def tyX1 : Nat → FieldType := fun k => match k with
  | 0 => .array .int
  | 1 => .int
  | 2 => .int
  | 3 => .array .int
  | 4 => .int
  | 5 => .int
  | 6 => .int
  | 7 => .int
  | 8 => .int
  | _ => .int
abbrev wsX10 : List Cond := u_ws RX1 TX1 10
theorem nmX1 : ∀ a, a < 10 → ∀ b, b < 10 → a ≠ b → (TX1 a).2.1 ≠ (TX1 b).2.1 := by decide +kernel
theorem tyX1_ok : ∀ k, k < 10 → parseFieldDescriptor (TX1 k).2.2.1 = some (tyX1 k) := by decide +kernel
abbrev cX1_init : ByteArray := prog_3_method_1_code
def yX1_init : MethodName := ⟨RX1, "<init>", "()V"⟩
abbrev cX1_search : ByteArray := prog_3_method_2_code
def yX1_search : MethodName := ⟨RX1, "search", "(LWayMarks$Net;LWayMarks$Sight;Z)V"⟩
abbrev cX1_gatherDemands : ByteArray := prog_3_method_3_code
def yX1_gatherDemands : MethodName := ⟨RX1, "gatherDemands", "(LWayMarks$Net;LWayMarks$Sight;)V"⟩
abbrev cX1_demand : ByteArray := prog_3_method_4_code
def yX1_demand : MethodName := ⟨RX1, "demand", "(I)V"⟩
abbrev cX1_decide : ByteArray := prog_3_method_5_code
def yX1_decide : MethodName := ⟨RX1, "decide", "(IIII)V"⟩
abbrev cX1_canBeMet : ByteArray := prog_3_method_6_code
def yX1_canBeMet : MethodName := ⟨RX1, "canBeMet", "(II)Z"⟩
abbrev cX1_takeIfBest : ByteArray := prog_3_method_7_code
def yX1_takeIfBest : MethodName := ⟨RX1, "takeIfBest", "(II)V"⟩
def RX2 : String := "WayMarks$Net"
def TX2 : u_T := fun k => match k with
  | 0 => ("WayMarks$Net", "posts", "I", false)
  | 1 => ("WayMarks$Net", "kind", "I", false)
  | 2 => ("WayMarks$Net", "within", "I", false)
  | 3 => ("WayMarks$Net", "faults", "I", false)
  | 4 => ("WayMarks$Net", "lying", "Z", false)
  | 5 => ("WayMarks$Net", "yesWanted", "Z", false)
  | 6 => ("WayMarks$Net", "worded", "I", false)
  | 7 => ("WayMarks$Net", "lengths", "[I", true)
  | 8 => ("WayMarks$Net", "reaches", "[I", true)
  | 9 => ("WayMarks$Net", "prices", "[I", true)
  | 10 => ("WayMarks$Net", "chances", "[I", true)
  | _ => ("WayMarks$Net", "words", "[I", true)
def tyX2 : Nat → FieldType := fun k => match k with
  | 0 => .int
  | 1 => .int
  | 2 => .int
  | 3 => .int
  | 4 => .boolean
  | 5 => .boolean
  | 6 => .int
  | 7 => .array .int
  | 8 => .array .int
  | 9 => .array .int
  | 10 => .array .int
  | _ => .array .int
abbrev wsX20 : List Cond := u_ws RX2 TX2 12
theorem nmX2 : ∀ a, a < 12 → ∀ b, b < 12 → a ≠ b → (TX2 a).2.1 ≠ (TX2 b).2.1 := by decide +kernel
theorem tyX2_ok : ∀ k, k < 12 → parseFieldDescriptor (TX2 k).2.2.1 = some (tyX2 k) := by decide +kernel
abbrev cX2_init : ByteArray := prog_4_method_1_code
def yX2_init : MethodName := ⟨RX2, "<init>", "()V"⟩
abbrev cX2_become : ByteArray := prog_4_method_2_code
def yX2_become : MethodName := ⟨RX2, "become", "(LWayMarks$Net;)V"⟩
abbrev cX2_isPost : ByteArray := prog_4_method_3_code
def yX2_isPost : MethodName := ⟨RX2, "isPost", "(I)Z"⟩
abbrev cX2_isSet : ByteArray := prog_4_method_4_code
def yX2_isSet : MethodName := ⟨RX2, "isSet", "(I)Z"⟩
abbrev cX2_hasRoad : ByteArray := prog_4_method_5_code
def yX2_hasRoad : MethodName := ⟨RX2, "hasRoad", "(II)Z"⟩
abbrev cX2_hasWord : ByteArray := prog_4_method_6_code
def yX2_hasWord : MethodName := ⟨RX2, "hasWord", "(I)Z"⟩
abbrev cX2_roadCanBe : ByteArray := prog_4_method_7_code
def yX2_roadCanBe : MethodName := ⟨RX2, "roadCanBe", "(III)Z"⟩
abbrev cX2_layRoad : ByteArray := prog_4_method_8_code
def yX2_layRoad : MethodName := ⟨RX2, "layRoad", "(III)V"⟩
abbrev cX2_besideBits : ByteArray := prog_4_method_9_code
def yX2_besideBits : MethodName := ⟨RX2, "besideBits", "(I)I"⟩
abbrev cX2_countRoads : ByteArray := prog_4_method_10_code
def yX2_countRoads : MethodName := ⟨RX2, "countRoads", "()I"⟩
abbrev cX2_need : ByteArray := prog_4_method_11_code
def yX2_need : MethodName := ⟨RX2, "need", "()I"⟩
def RX3 : String := "WayMarks$Past"
def TX3 : u_T := fun k => match k with
  | 0 => ("WayMarks$Past", "kept", "[LWayMarks$Net;", true)
  | 1 => ("WayMarks$Past", "top", "I", false)
  | _ => ("WayMarks$Past", "count", "I", false)
def tyX3 : Nat → FieldType := fun k => match k with
  | 0 => .array (.object "WayMarks$Net")
  | 1 => .int
  | _ => .int
abbrev wsX30 : List Cond := u_ws RX3 TX3 3
theorem nmX3 : ∀ a, a < 3 → ∀ b, b < 3 → a ≠ b → (TX3 a).2.1 ≠ (TX3 b).2.1 := by decide +kernel
theorem tyX3_ok : ∀ k, k < 3 → parseFieldDescriptor (TX3 k).2.2.1 = some (tyX3 k) := by decide +kernel
abbrev cX3_init : ByteArray := prog_5_method_1_code
def yX3_init : MethodName := ⟨RX3, "<init>", "()V"⟩
abbrev cX3_keep : ByteArray := prog_5_method_2_code
def yX3_keep : MethodName := ⟨RX3, "keep", "(LWayMarks$Net;)V"⟩
abbrev cX3_goBack : ByteArray := prog_5_method_3_code
def yX3_goBack : MethodName := ⟨RX3, "goBack", "(LWayMarks$Net;I)V"⟩
def RX4 : String := "WayMarks$Seeking"
def TX4 : u_T := fun k => match k with
  | 0 => ("WayMarks$Seeking", "rounds", "[I", true)
  | _ => ("WayMarks$Seeking", "spreads", "[I", true)
def tyX4 : Nat → FieldType := fun k => match k with
  | 0 => .array .int
  | _ => .array .int
abbrev wsX40 : List Cond := u_ws RX4 TX4 2
theorem nmX4 : ∀ a, a < 2 → ∀ b, b < 2 → a ≠ b → (TX4 a).2.1 ≠ (TX4 b).2.1 := by decide +kernel
theorem tyX4_ok : ∀ k, k < 2 → parseFieldDescriptor (TX4 k).2.2.1 = some (tyX4 k) := by decide +kernel
abbrev cX4_init : ByteArray := prog_6_method_1_code
def yX4_init : MethodName := ⟨RX4, "<init>", "()V"⟩
abbrev cX4_fewestRounds : ByteArray := prog_6_method_2_code
def yX4_fewestRounds : MethodName := ⟨RX4, "fewestRounds", "(ILWayMarks$Sight;)I"⟩
abbrev cX4_prepare : ByteArray := prog_6_method_3_code
def yX4_prepare : MethodName := ⟨RX4, "prepare", "(ILWayMarks$Sight;)V"⟩
abbrev cX4_findInRound : ByteArray := prog_6_method_4_code
def yX4_findInRound : MethodName := ⟨RX4, "findInRound", "(IILWayMarks$Sight;)Z"⟩
abbrev cX4_someMarkFinds : ByteArray := prog_6_method_5_code
def yX4_someMarkFinds : MethodName := ⟨RX4, "someMarkFinds", "(IILWayMarks$Sight;)Z"⟩
abbrev cX4_markFinds : ByteArray := prog_6_method_6_code
def yX4_markFinds : MethodName := ⟨RX4, "markFinds", "(IIILWayMarks$Sight;)Z"⟩
def RX5 : String := "WayMarks$Sight"
def TX5 : u_T := fun k => match k with
  | 0 => ("WayMarks$Sight", "posts", "I", false)
  | 1 => ("WayMarks$Sight", "beside", "[I", true)
  | 2 => ("WayMarks$Sight", "ways", "[I", true)
  | 3 => ("WayMarks$Sight", "answers", "[I", true)
  | 4 => ("WayMarks$Sight", "parters", "[I", true)
  | 5 => ("WayMarks$Sight", "yes", "[I", true)
  | 6 => ("WayMarks$Sight", "groups", "[I", true)
  | _ => ("WayMarks$Sight", "groupCounts", "[I", true)
def tyX5 : Nat → FieldType := fun k => match k with
  | 0 => .int
  | 1 => .array .int
  | 2 => .array .int
  | 3 => .array .int
  | 4 => .array .int
  | 5 => .array .int
  | 6 => .array .int
  | _ => .array .int
abbrev wsX50 : List Cond := u_ws RX5 TX5 8
theorem nmX5 : ∀ a, a < 8 → ∀ b, b < 8 → a ≠ b → (TX5 a).2.1 ≠ (TX5 b).2.1 := by decide +kernel
theorem tyX5_ok : ∀ k, k < 8 → parseFieldDescriptor (TX5 k).2.2.1 = some (tyX5 k) := by decide +kernel
abbrev cX5_init : ByteArray := prog_7_method_1_code
def yX5_init : MethodName := ⟨RX5, "<init>", "()V"⟩
abbrev cX5_look : ByteArray := prog_7_method_2_code
def yX5_look : MethodName := ⟨RX5, "look", "(LWayMarks$Net;)V"⟩
abbrev cX5_findWays : ByteArray := prog_7_method_3_code
def yX5_findWays : MethodName := ⟨RX5, "findWays", "(LWayMarks$Net;)V"⟩
abbrev cX5_shortenWays : ByteArray := prog_7_method_4_code
def yX5_shortenWays : MethodName := ⟨RX5, "shortenWays", "(II)V"⟩
abbrev cX5_answerOf : ByteArray := prog_7_method_5_code
def yX5_answerOf : MethodName := ⟨RX5, "answerOf", "(LWayMarks$Net;II)I"⟩
abbrev cX5_groupPosts : ByteArray := prog_7_method_6_code
def yX5_groupPosts : MethodName := ⟨RX5, "groupPosts", "(I)V"⟩
abbrev cX5_sameAnswer : ByteArray := prog_7_method_7_code
def yX5_sameAnswer : MethodName := ⟨RX5, "sameAnswer", "(II)I"⟩
abbrev cX5_findParters : ByteArray := prog_7_method_8_code
def yX5_findParters : MethodName := ⟨RX5, "findParters", "()V"⟩
abbrev cX5_findYes : ByteArray := prog_7_method_9_code
def yX5_findYes : MethodName := ⟨RX5, "findYes", "(I)V"⟩
abbrev cX5_countBeside : ByteArray := prog_7_method_10_code
def yX5_countBeside : MethodName := ⟨RX5, "countBeside", "(I)I"⟩
abbrev cX5_countReachedFrom : ByteArray := prog_7_method_11_code
def yX5_countReachedFrom : MethodName := ⟨RX5, "countReachedFrom", "(I)I"⟩
abbrev cX5_leavesLessKnots : ByteArray := prog_7_method_12_code
def yX5_leavesLessKnots : MethodName := ⟨RX5, "leavesLessKnots", "()I"⟩
abbrev cX5_knotOfLeaf : ByteArray := prog_7_method_13_code
def yX5_knotOfLeaf : MethodName := ⟨RX5, "knotOfLeaf", "(I)I"⟩
abbrev cX5_areTwins : ByteArray := prog_7_method_14_code
def yX5_areTwins : MethodName := ⟨RX5, "areTwins", "(II)Z"⟩
abbrev cX5_twinPair : ByteArray := prog_7_method_15_code
def yX5_twinPair : MethodName := ⟨RX5, "twinPair", "(I)I"⟩
abbrev cX5_pairLacks : ByteArray := prog_7_method_16_code
def yX5_pairLacks : MethodName := ⟨RX5, "pairLacks", "(IIII)Z"⟩
abbrev cX5_firstPairLacking : ByteArray := prog_7_method_17_code
def yX5_firstPairLacking : MethodName := ⟨RX5, "firstPairLacking", "(II)I"⟩
abbrev cX5_countPairsLacking : ByteArray := prog_7_method_18_code
def yX5_countPairsLacking : MethodName := ⟨RX5, "countPairsLacking", "(II)I"⟩
abbrev cX5_firstPostLacking : ByteArray := prog_7_method_19_code
def yX5_firstPostLacking : MethodName := ⟨RX5, "firstPostLacking", "(II)I"⟩
abbrev cX5_countApartPairs : ByteArray := prog_7_method_20_code
def yX5_countApartPairs : MethodName := ⟨RX5, "countApartPairs", "()I"⟩
abbrev cX5_apartPair : ByteArray := prog_7_method_21_code
def yX5_apartPair : MethodName := ⟨RX5, "apartPair", "(I)I"⟩
abbrev cX5_goThroughApartPairs : ByteArray := prog_7_method_22_code
def yX5_goThroughApartPairs : MethodName := ⟨RX5, "goThroughApartPairs", "(IZ)I"⟩
abbrev cX5_greedySet : ByteArray := prog_7_method_23_code
def yX5_greedySet : MethodName := ⟨RX5, "greedySet", "(I)I"⟩
abbrev cX5_markPartingMost : ByteArray := prog_7_method_24_code
def yX5_markPartingMost : MethodName := ⟨RX5, "markPartingMost", "(II)I"⟩
abbrev cX5_countLackingPartedBy : ByteArray := prog_7_method_25_code
def yX5_countLackingPartedBy : MethodName := ⟨RX5, "countLackingPartedBy", "(III)I"⟩
def RX6 : String := "WayMarks$Tape"
def TX6 : u_T := fun k => match k with
  | 0 => ("WayMarks$Tape", "bytes", "[I", true)
  | _ => ("WayMarks$Tape", "count", "I", false)
def tyX6 : Nat → FieldType := fun k => match k with
  | 0 => .array .int
  | _ => .int
abbrev wsX60 : List Cond := u_ws RX6 TX6 2
theorem nmX6 : ∀ a, a < 2 → ∀ b, b < 2 → a ≠ b → (TX6 a).2.1 ≠ (TX6 b).2.1 := by decide +kernel
theorem tyX6_ok : ∀ k, k < 2 → parseFieldDescriptor (TX6 k).2.2.1 = some (tyX6 k) := by decide +kernel
abbrev cX6_init : ByteArray := prog_8_method_1_code
def yX6_init : MethodName := ⟨RX6, "<init>", "()V"⟩
abbrev cX6_hasRoomFor : ByteArray := prog_8_method_2_code
def yX6_hasRoomFor : MethodName := ⟨RX6, "hasRoomFor", "(I)Z"⟩
abbrev cX6_takeFour : ByteArray := prog_8_method_3_code
def yX6_takeFour : MethodName := ⟨RX6, "takeFour", "(I)V"⟩
abbrev cX6_byteAt : ByteArray := prog_8_method_4_code
def yX6_byteAt : MethodName := ⟨RX6, "byteAt", "(I)I"⟩
def RX7 : String := "WayMarks"
def TX7 : u_T := fun k => match k with
  | 0 => ("WayMarks", "net", "LWayMarks$Net;", true)
  | 1 => ("WayMarks", "past", "LWayMarks$Past;", true)
  | 2 => ("WayMarks", "tape", "LWayMarks$Tape;", true)
  | 3 => ("WayMarks", "sight", "LWayMarks$Sight;", true)
  | 4 => ("WayMarks", "choice", "LWayMarks$Choice;", true)
  | 5 => ("WayMarks", "asking", "LWayMarks$Asking;", true)
  | 6 => ("WayMarks", "seeking", "LWayMarks$Seeking;", true)
  | 7 => ("WayMarks", "stale", "Z", false)
  | _ => ("WayMarks", "latestSet", "I", false)
def tyX7 : Nat → FieldType := fun k => match k with
  | 0 => .object "WayMarks$Net"
  | 1 => .object "WayMarks$Past"
  | 2 => .object "WayMarks$Tape"
  | 3 => .object "WayMarks$Sight"
  | 4 => .object "WayMarks$Choice"
  | 5 => .object "WayMarks$Asking"
  | 6 => .object "WayMarks$Seeking"
  | 7 => .boolean
  | _ => .int
abbrev wsX70 : List Cond := u_ws RX7 TX7 9
theorem nmX7 : ∀ a, a < 9 → ∀ b, b < 9 → a ≠ b → (TX7 a).2.1 ≠ (TX7 b).2.1 := by decide +kernel
theorem tyX7_ok : ∀ k, k < 9 → parseFieldDescriptor (TX7 k).2.2.1 = some (tyX7 k) := by decide +kernel
abbrev cX7_init : ByteArray := prog_1_method_1_code
def yX7_init : MethodName := ⟨RX7, "<init>", "()V"⟩
abbrev cX7_post : ByteArray := prog_1_method_2_code
def yX7_post : MethodName := ⟨RX7, "post", "()I"⟩
abbrev cX7_road : ByteArray := prog_1_method_3_code
def yX7_road : MethodName := ⟨RX7, "road", "(III)Z"⟩
abbrev cX7_cut : ByteArray := prog_1_method_4_code
def yX7_cut : MethodName := ⟨RX7, "cut", "(II)Z"⟩
abbrev cX7_feed : ByteArray := prog_1_method_5_code
def yX7_feed : MethodName := ⟨RX7, "feed", "(IIIII)I"⟩
abbrev cX7_roads : ByteArray := prog_1_method_6_code
def yX7_roads : MethodName := ⟨RX7, "roads", "(I)I"⟩
abbrev cX7_reach : ByteArray := prog_1_method_7_code
def yX7_reach : MethodName := ⟨RX7, "reach", "(II)Z"⟩
abbrev cX7_price : ByteArray := prog_1_method_8_code
def yX7_price : MethodName := ⟨RX7, "price", "(II)Z"⟩
abbrev cX7_chance : ByteArray := prog_1_method_9_code
def yX7_chance : MethodName := ⟨RX7, "chance", "(II)Z"⟩
abbrev cX7_rule : ByteArray := prog_1_method_10_code
def yX7_rule : MethodName := ⟨RX7, "rule", "(II)Z"⟩
abbrev cX7_may : ByteArray := prog_1_method_11_code
def yX7_may : MethodName := ⟨RX7, "may", "(IZ)I"⟩
abbrev cX7_want : ByteArray := prog_1_method_12_code
def yX7_want : MethodName := ⟨RX7, "want", "(Z)V"⟩
abbrev cX7_way : ByteArray := prog_1_method_13_code
def yX7_way : MethodName := ⟨RX7, "way", "(II)I"⟩
abbrev cX7_of : ByteArray := prog_1_method_14_code
def yX7_of : MethodName := ⟨RX7, "of", "(II)I"⟩
abbrev cX7_answer : ByteArray := prog_1_method_15_code
def yX7_answer : MethodName := ⟨RX7, "answer", "(II)I"⟩
abbrev cX7_parts : ByteArray := prog_1_method_16_code
def yX7_parts : MethodName := ⟨RX7, "parts", "(III)I"⟩
abbrev cX7_clash : ByteArray := prog_1_method_17_code
def yX7_clash : MethodName := ⟨RX7, "clash", "(I)I"⟩
abbrev cX7_twins : ByteArray := prog_1_method_18_code
def yX7_twins : MethodName := ⟨RX7, "twins", "(I)I"⟩
abbrev cX7_least : ByteArray := prog_1_method_19_code
def yX7_least : MethodName := ⟨RX7, "least", "()I"⟩
abbrev cX7_every : ByteArray := prog_1_method_20_code
def yX7_every : MethodName := ⟨RX7, "every", "()I"⟩
abbrev cX7_cheapest : ByteArray := prog_1_method_21_code
def yX7_cheapest : MethodName := ⟨RX7, "cheapest", "()I"⟩
abbrev cX7_set : ByteArray := prog_1_method_22_code
def yX7_set : MethodName := ⟨RX7, "set", "()I"⟩
abbrev cX7_shown : ByteArray := prog_1_method_23_code
def yX7_shown : MethodName := ⟨RX7, "shown", "()I"⟩
abbrev cX7_pair : ByteArray := prog_1_method_24_code
def yX7_pair : MethodName := ⟨RX7, "pair", "(I)I"⟩
abbrev cX7_greedy : ByteArray := prog_1_method_25_code
def yX7_greedy : MethodName := ⟨RX7, "greedy", "()I"⟩
abbrev cX7_word : ByteArray := prog_1_method_26_code
def yX7_word : MethodName := ⟨RX7, "word", "(II)I"⟩
abbrev cX7_clear : ByteArray := prog_1_method_27_code
def yX7_clear : MethodName := ⟨RX7, "clear", "()I"⟩
abbrev cX7_fits : ByteArray := prog_1_method_28_code
def yX7_fits : MethodName := ⟨RX7, "fits", "()I"⟩
abbrev cX7_where : ByteArray := prog_1_method_29_code
def yX7_where : MethodName := ⟨RX7, "where", "(I)I"⟩
abbrev cX7_against : ByteArray := prog_1_method_30_code
def yX7_against : MethodName := ⟨RX7, "against", "(I)I"⟩
abbrev cX7_worst : ByteArray := prog_1_method_31_code
def yX7_worst : MethodName := ⟨RX7, "worst", "(I)I"⟩
abbrev cX7_next : ByteArray := prog_1_method_32_code
def yX7_next : MethodName := ⟨RX7, "next", "(I)I"⟩
abbrev cX7_mean : ByteArray := prog_1_method_33_code
def yX7_mean : MethodName := ⟨RX7, "mean", "(I)I"⟩
abbrev cX7_seek : ByteArray := prog_1_method_34_code
def yX7_seek : MethodName := ⟨RX7, "seek", "(I)I"⟩
abbrev cX7_tree : ByteArray := prog_1_method_35_code
def yX7_tree : MethodName := ⟨RX7, "tree", "()I"⟩
abbrev cX7_undo : ByteArray := prog_1_method_36_code
def yX7_undo : MethodName := ⟨RX7, "undo", "(I)I"⟩
abbrev cX7_about : ByteArray := prog_1_method_37_code
def yX7_about : MethodName := ⟨RX7, "about", "(I)I"⟩
abbrev cX7_beforeAct : ByteArray := prog_1_method_38_code
def yX7_beforeAct : MethodName := ⟨RX7, "beforeAct", "()V"⟩
abbrev cX7_freshSight : ByteArray := prog_1_method_39_code
def yX7_freshSight : MethodName := ⟨RX7, "freshSight", "()LWayMarks$Sight;"⟩
abbrev cX7_tellChoice : ByteArray := prog_1_method_40_code
def yX7_tellChoice : MethodName := ⟨RX7, "tellChoice", "()I"⟩
abbrev cX7_wordsAgainst : ByteArray := prog_1_method_41_code
def yX7_wordsAgainst : MethodName := ⟨RX7, "wordsAgainst", "(I)I"⟩
abbrev cX7_fitsWords : ByteArray := prog_1_method_42_code
def yX7_fitsWords : MethodName := ⟨RX7, "fitsWords", "(I)Z"⟩
abbrev cX7_canBeAsked : ByteArray := prog_1_method_43_code
def yX7_canBeAsked : MethodName := ⟨RX7, "canBeAsked", "(I)Z"⟩
def RX8 : String := "WayMarksModel"
def TX8 : u_T := fun k => match k with
  | 0 => ("WayMarksModel", "st", "[I", true)
  | 1 => ("WayMarksModel", "kept", "[I", true)
  | 2 => ("WayMarksModel", "undoable", "I", false)
  | 3 => ("WayMarksModel", "newest", "I", false)
  | 4 => ("WayMarksModel", "tape", "[I", true)
  | 5 => ("WayMarksModel", "taped", "I", false)
  | 6 => ("WayMarksModel", "setTold", "I", false)
  | 7 => ("WayMarksModel", "ways", "[I", true)
  | 8 => ("WayMarksModel", "answers", "[I", true)
  | 9 => ("WayMarksModel", "partBy", "[I", true)
  | 10 => ("WayMarksModel", "yesBy", "[I", true)
  | 11 => ("WayMarksModel", "shown", "[I", true)
  | 12 => ("WayMarksModel", "worst", "[I", true)
  | 13 => ("WayMarksModel", "mean", "[I", true)
  | 14 => ("WayMarksModel", "next", "[I", true)
  | _ => ("WayMarksModel", "roundsOf", "[I", true)
def tyX8 : Nat → FieldType := fun k => match k with
  | 0 => .array .int
  | 1 => .array .int
  | 2 => .int
  | 3 => .int
  | 4 => .array .int
  | 5 => .int
  | 6 => .int
  | 7 => .array .int
  | 8 => .array .int
  | 9 => .array .int
  | 10 => .array .int
  | 11 => .array .int
  | 12 => .array .int
  | 13 => .array .int
  | 14 => .array .int
  | _ => .array .int
abbrev wsX80 : List Cond := u_ws RX8 TX8 16
theorem nmX8 : ∀ a, a < 16 → ∀ b, b < 16 → a ≠ b → (TX8 a).2.1 ≠ (TX8 b).2.1 := by decide +kernel
theorem tyX8_ok : ∀ k, k < 16 → parseFieldDescriptor (TX8 k).2.2.1 = some (tyX8 k) := by decide +kernel
abbrev cX8_init : ByteArray := prog_10_method_1_code
def yX8_init : MethodName := ⟨RX8, "<init>", "()V"⟩
abbrev cX8_first : ByteArray := prog_10_method_2_code
def yX8_first : MethodName := ⟨RX8, "first", "(I)V"⟩
abbrev cX8_act : ByteArray := prog_10_method_3_code
def yX8_act : MethodName := ⟨RX8, "act", "()V"⟩
abbrev cX8_undo : ByteArray := prog_10_method_4_code
def yX8_undo : MethodName := ⟨RX8, "undo", "(I)I"⟩
abbrev cX8_n : ByteArray := prog_10_method_5_code
def yX8_n : MethodName := ⟨RX8, "n", "()I"⟩
abbrev cX8_isPost : ByteArray := prog_10_method_6_code
def yX8_isPost : MethodName := ⟨RX8, "isPost", "(I)Z"⟩
abbrev cX8_isSet : ByteArray := prog_10_method_7_code
def yX8_isSet : MethodName := ⟨RX8, "isSet", "(I)Z"⟩
abbrev cX8_length : ByteArray := prog_10_method_8_code
def yX8_length : MethodName := ⟨RX8, "length", "(II)I"⟩
abbrev cX8_isRoad : ByteArray := prog_10_method_9_code
def yX8_isRoad : MethodName := ⟨RX8, "isRoad", "(III)Z"⟩
abbrev cX8_lay : ByteArray := prog_10_method_10_code
def yX8_lay : MethodName := ⟨RX8, "lay", "(III)V"⟩
abbrev cX8_walk : ByteArray := prog_10_method_11_code
def yX8_walk : MethodName := ⟨RX8, "walk", "()V"⟩
abbrev cX8_says : ByteArray := prog_10_method_12_code
def yX8_says : MethodName := ⟨RX8, "says", "(II)I"⟩
abbrev cX8_answerOf : ByteArray := prog_10_method_13_code
def yX8_answerOf : MethodName := ⟨RX8, "answerOf", "(II)I"⟩
abbrev cX8_post : ByteArray := prog_10_method_14_code
def yX8_post : MethodName := ⟨RX8, "post", "()I"⟩
abbrev cX8_road : ByteArray := prog_10_method_15_code
def yX8_road : MethodName := ⟨RX8, "road", "(III)Z"⟩
abbrev cX8_cut : ByteArray := prog_10_method_16_code
def yX8_cut : MethodName := ⟨RX8, "cut", "(II)Z"⟩
abbrev cX8_feed : ByteArray := prog_10_method_17_code
def yX8_feed : MethodName := ⟨RX8, "feed", "(IIIII)I"⟩
abbrev cX8_four : ByteArray := prog_10_method_18_code
def yX8_four : MethodName := ⟨RX8, "four", "(I)V"⟩
abbrev cX8_roads : ByteArray := prog_10_method_19_code
def yX8_roads : MethodName := ⟨RX8, "roads", "(I)I"⟩
abbrev cX8_reach : ByteArray := prog_10_method_20_code
def yX8_reach : MethodName := ⟨RX8, "reach", "(II)Z"⟩
abbrev cX8_price : ByteArray := prog_10_method_21_code
def yX8_price : MethodName := ⟨RX8, "price", "(II)Z"⟩
abbrev cX8_chance : ByteArray := prog_10_method_22_code
def yX8_chance : MethodName := ⟨RX8, "chance", "(II)Z"⟩
abbrev cX8_rule : ByteArray := prog_10_method_23_code
def yX8_rule : MethodName := ⟨RX8, "rule", "(II)Z"⟩
abbrev cX8_need : ByteArray := prog_10_method_24_code
def yX8_need : MethodName := ⟨RX8, "need", "()I"⟩
abbrev cX8_may : ByteArray := prog_10_method_25_code
def yX8_may : MethodName := ⟨RX8, "may", "(IZ)I"⟩
abbrev cX8_want : ByteArray := prog_10_method_26_code
def yX8_want : MethodName := ⟨RX8, "want", "(Z)V"⟩
abbrev cX8_way : ByteArray := prog_10_method_27_code
def yX8_way : MethodName := ⟨RX8, "way", "(II)I"⟩
abbrev cX8_besideBits : ByteArray := prog_10_method_28_code
def yX8_besideBits : MethodName := ⟨RX8, "besideBits", "(I)I"⟩
abbrev cX8_many : ByteArray := prog_10_method_29_code
def yX8_many : MethodName := ⟨RX8, "many", "(I)I"⟩
abbrev cX8_of : ByteArray := prog_10_method_30_code
def yX8_of : MethodName := ⟨RX8, "of", "(II)I"⟩
abbrev cX8_answer : ByteArray := prog_10_method_31_code
def yX8_answer : MethodName := ⟨RX8, "answer", "(II)I"⟩
abbrev cX8_isParting : ByteArray := prog_10_method_32_code
def yX8_isParting : MethodName := ⟨RX8, "isParting", "(III)Z"⟩
abbrev cX8_parting : ByteArray := prog_10_method_33_code
def yX8_parting : MethodName := ⟨RX8, "parting", "(II)I"⟩
abbrev cX8_areTwins : ByteArray := prog_10_method_34_code
def yX8_areTwins : MethodName := ⟨RX8, "areTwins", "(II)Z"⟩
abbrev cX8_isYes : ByteArray := prog_10_method_35_code
def yX8_isYes : MethodName := ⟨RX8, "isYes", "(II)Z"⟩
abbrev cX8_yes : ByteArray := prog_10_method_36_code
def yX8_yes : MethodName := ⟨RX8, "yes", "(I)I"⟩
abbrev cX8_parts : ByteArray := prog_10_method_37_code
def yX8_parts : MethodName := ⟨RX8, "parts", "(III)I"⟩
abbrev cX8_gather : ByteArray := prog_10_method_38_code
def yX8_gather : MethodName := ⟨RX8, "gather", "()V"⟩
abbrev cX8_clashOf : ByteArray := prog_10_method_39_code
def yX8_clashOf : MethodName := ⟨RX8, "clashOf", "(I)I"⟩
abbrev cX8_clash : ByteArray := prog_10_method_40_code
def yX8_clash : MethodName := ⟨RX8, "clash", "(I)I"⟩
abbrev cX8_twins : ByteArray := prog_10_method_41_code
def yX8_twins : MethodName := ⟨RX8, "twins", "(I)I"⟩
abbrev cX8_best : ByteArray := prog_10_method_42_code
def yX8_best : MethodName := ⟨RX8, "best", "(Z)I"⟩
abbrev cX8_price_ : ByteArray := prog_10_method_43_code
def yX8_price_ : MethodName := ⟨RX8, "price", "(I)I"⟩
abbrev cX8_least : ByteArray := prog_10_method_44_code
def yX8_least : MethodName := ⟨RX8, "least", "()I"⟩
abbrev cX8_every : ByteArray := prog_10_method_45_code
def yX8_every : MethodName := ⟨RX8, "every", "()I"⟩
abbrev cX8_cheapest : ByteArray := prog_10_method_46_code
def yX8_cheapest : MethodName := ⟨RX8, "cheapest", "()I"⟩
abbrev cX8_set : ByteArray := prog_10_method_47_code
def yX8_set : MethodName := ⟨RX8, "set", "()I"⟩
abbrev cX8_show : ByteArray := prog_10_method_48_code
def yX8_show : MethodName := ⟨RX8, "show", "()I"⟩
abbrev cX8_shown : ByteArray := prog_10_method_49_code
def yX8_shown : MethodName := ⟨RX8, "shown", "()I"⟩
abbrev cX8_pair : ByteArray := prog_10_method_50_code
def yX8_pair : MethodName := ⟨RX8, "pair", "(I)I"⟩
abbrev cX8_lacks : ByteArray := prog_10_method_51_code
def yX8_lacks : MethodName := ⟨RX8, "lacks", "(II)Z"⟩
abbrev cX8_greedy : ByteArray := prog_10_method_52_code
def yX8_greedy : MethodName := ⟨RX8, "greedy", "()I"⟩
abbrev cX8_word : ByteArray := prog_10_method_53_code
def yX8_word : MethodName := ⟨RX8, "word", "(II)I"⟩
abbrev cX8_clear : ByteArray := prog_10_method_54_code
def yX8_clear : MethodName := ⟨RX8, "clear", "()I"⟩
abbrev cX8_againstBits : ByteArray := prog_10_method_55_code
def yX8_againstBits : MethodName := ⟨RX8, "againstBits", "(I)I"⟩
abbrev cX8_isFit : ByteArray := prog_10_method_56_code
def yX8_isFit : MethodName := ⟨RX8, "isFit", "(I)Z"⟩
abbrev cX8_fits : ByteArray := prog_10_method_57_code
def yX8_fits : MethodName := ⟨RX8, "fits", "()I"⟩
abbrev cX8_where : ByteArray := prog_10_method_58_code
def yX8_where : MethodName := ⟨RX8, "where", "(I)I"⟩
abbrev cX8_against : ByteArray := prog_10_method_59_code
def yX8_against : MethodName := ⟨RX8, "against", "(I)I"⟩
abbrev cX8_isDone : ByteArray := prog_10_method_60_code
def yX8_isDone : MethodName := ⟨RX8, "isDone", "(I)Z"⟩
abbrev cX8_staying : ByteArray := prog_10_method_61_code
def yX8_staying : MethodName := ⟨RX8, "staying", "(III)I"⟩
abbrev cX8_isAsked : ByteArray := prog_10_method_62_code
def yX8_isAsked : MethodName := ⟨RX8, "isAsked", "(I)Z"⟩
abbrev cX8_fill : ByteArray := prog_10_method_63_code
def yX8_fill : MethodName := ⟨RX8, "fill", "(I)V"⟩
abbrev cX8_fillOne : ByteArray := prog_10_method_64_code
def yX8_fillOne : MethodName := ⟨RX8, "fillOne", "(I)V"⟩
abbrev cX8_worst : ByteArray := prog_10_method_65_code
def yX8_worst : MethodName := ⟨RX8, "worst", "(I)I"⟩
abbrev cX8_next : ByteArray := prog_10_method_66_code
def yX8_next : MethodName := ⟨RX8, "next", "(I)I"⟩
abbrev cX8_mean : ByteArray := prog_10_method_67_code
def yX8_mean : MethodName := ⟨RX8, "mean", "(I)I"⟩
abbrev cX8_moved : ByteArray := prog_10_method_68_code
def yX8_moved : MethodName := ⟨RX8, "moved", "(I)I"⟩
abbrev cX8_seek : ByteArray := prog_10_method_69_code
def yX8_seek : MethodName := ⟨RX8, "seek", "(I)I"⟩
abbrev cX8_isFoundIn : ByteArray := prog_10_method_70_code
def yX8_isFoundIn : MethodName := ⟨RX8, "isFoundIn", "(II)Z"⟩
abbrev cX8_tree : ByteArray := prog_10_method_71_code
def yX8_tree : MethodName := ⟨RX8, "tree", "()I"⟩
abbrev cX8_isLed : ByteArray := prog_10_method_72_code
def yX8_isLed : MethodName := ⟨RX8, "isLed", "(I)Z"⟩
abbrev cX8_only : ByteArray := prog_10_method_73_code
def yX8_only : MethodName := ⟨RX8, "only", "(I)I"⟩
abbrev cX8_about : ByteArray := prog_10_method_74_code
def yX8_about : MethodName := ⟨RX8, "about", "(I)I"⟩
def RJ6 : String := "java/lang/Integer"
abbrev cJ6_numberOfTrailingZeros_0f7a4 : ByteArray := prog_11_method_48_code
def yJ6_numberOfTrailingZeros_0f7a4 : MethodName := ⟨RJ6, "numberOfTrailingZeros", "(I)I"⟩
abbrev cJ6_bitCount_0f7a4 : ByteArray := prog_11_method_49_code
def yJ6_bitCount_0f7a4 : MethodName := ⟨RJ6, "bitCount", "(I)I"⟩
def RJ9 : String := "java/lang/Math"
abbrev cJ9_floorMod_7cf53 : ByteArray := prog_12_method_50_code
def yJ9_floorMod_7cf53 : MethodName := ⟨RJ9, "floorMod", "(II)I"⟩
abbrev cJ9_max_7cf53 : ByteArray := prog_12_method_65_code
def yJ9_max_7cf53 : MethodName := ⟨RJ9, "max", "(II)I"⟩
abbrev cJ9_min_7cf53 : ByteArray := prog_12_method_69_code
def yJ9_min_7cf53 : MethodName := ⟨RJ9, "min", "(II)I"⟩
def RJ10 : String := "java/lang/System"
def RJ7 : String := "java/util/Arrays"
abbrev cJ7_fill_53178 : ByteArray := prog_14_method_103_code
def yJ7_fill_53178 : MethodName := ⟨RJ7, "fill", "([II)V"⟩
def RL : String := "WayMarksLaw"
abbrev cL_law : ByteArray := code
def yL_law : MethodName := ⟨RL, "law", "([I)Z"⟩
end
section
/-! THE ABSTRACT LAYER. The system's cells are az_K blocks with fixed shapes (az_sh); a memory gives each block its ints (an array's elements, an object's int fields); references never change behind the constructors. az_Ev: from pc, locals L, operand stack st and memory mem the method M comes to its end with Q of answer and memory. az_Sp: M's contract for these arguments and this memory. -/
abbrev az_V : Type := Int32 ⊕ Nat
abbrev az_M : Type := Nat → Nat → Int32
abbrev az_S : Type := Nat ⊕ ((Nat × List (Option Nat)) ⊕ List Nat)
abbrev az_X : Type := Launch × va_G × (ClassId × ClassId) × (Nat → Nat)
abbrev az_Me : Type := MethodName × ByteArray × Nat × Option FieldType
def az_cl : List vw_C := [(RX0, TX0, 8), (RX1, TX1, 10), (RX2, TX2, 12), (RX3, TX3, 3), (RX4, TX4, 2), (RX5, TX5, 8), (RX6, TX6, 2), (RX7, TX7, 9), (RX8, TX8, 16)]
def az_tb : List Cond := lw_tbl.filter goodWord
theorem az_in {w : Cond} (i : Nat) (h : lw_tbl[i]? = some w) (hg : goodWord w = true) : w ∈ az_tb := List.mem_filter.mpr ⟨List.mem_of_getElem? h, hg⟩
def az_K : Nat := 404
def az_net (b : Nat) : List (Option Nat) := [none, none, none, none, none, none, none, some (b + 1), some (b + 2), some (b + 3), some (b + 4), some (b + 5)]
def az_arr (j : Nat) : Nat := if j = 1 then 256 else 16
def az_past : List Nat := (List.range 60).map (fun i => 9 + 6 * i)
def az_t0 : List az_S := [.inr (.inl (7, [some 1, some 7, some 369, some 371, some 379, some 382, some 388, none, none])), .inr (.inl (2, az_net 1)), .inl 256, .inl 16, .inl 16, .inl 16, .inl 16, .inr (.inl (3, [some 8, none, none])), .inr (.inr az_past)]
def az_t1 : List az_S := [.inr (.inl (6, [some 370, none])), .inl 400, .inr (.inl (5, [none, some 372, some 373, some 374, some 375, some 376, some 377, some 378])), .inl 16, .inl 256, .inl 256, .inl 256, .inl 16, .inl 256, .inl 16, .inr (.inl (1, [some 380, none, none, some 381, none, none, none, none, none, none])), .inl 256, .inl 16, .inr (.inl (0, [some 383, some 384, some 385, none, none, none, some 386, some 387])), .inl 4096, .inl 12, .inl 12, .inl 256, .inl 16, .inr (.inl (4, [some 389, some 390])), .inl 1024, .inl 1024, .inr (.inl (8, [some 392, some 393, none, none, some 394, none, none, some 395, some 396, some 397, some 398, some 399, some 400, some 401, some 402, some 403])), .inl 600, .inl 36000, .inl 400, .inl 256, .inl 256, .inl 256, .inl 16, .inl 120, .inl 65536, .inl 65536, .inl 65536, .inl 1024]
def az_sh (k : Nat) : az_S :=
  if k < 9 then az_t0.getD k (.inl 0) else if k < 369 then (if (k - 9) % 6 = 0 then .inr (.inl (2, az_net k)) else .inl (az_arr ((k - 9) % 6))) else az_t1.getD (k - 369) (.inl 0)
def az_Ob (k ci : Nat) (fs : List (Option Nat)) : Prop := k < az_K ∧ az_sh k = .inr (.inl (ci, fs))
def az_Ar (k n : Nat) : Prop := k < az_K ∧ az_sh k = .inl n
def az_cv (X : az_X) (v : az_V) : Value := match v with
  | .inl x => .int x
  | .inr k => .ref (X.2.2.2 k)
def az_ft (o : Option Nat) (f : Nat → Int32) (j : Nat) : az_V := match o with
  | none => .inl (f j)
  | some b => .inr b
def az_fl (X : az_X) (fs : List (Option Nat)) (f : Nat → Int32) : List Value := (List.range fs.length).map (fun j => az_cv X (az_ft (fs.getD j none) f j))
def az_ce (X : az_X) (k : Nat) (f : Nat → Int32) : va_E := match az_sh k with
  | .inl n => .inl (X.2.2.1.1, n, .inl f)
  | .inr (.inl o) => .inr (o.1, az_fl X o.2 f)
  | .inr (.inr bs) => .inl (X.2.2.1.2, bs.length, .inr (.inr (.inr (.inr (fun i => (bs[i]?).map X.2.2.2)))))
def az_wl (X : az_X) (mem : az_M) : va_W := (List.range az_K).map (fun k => (X.2.2.2 k, az_ce X k (mem k)))
def az_st (mem : az_M) (k : Nat) (f : Nat → Int32) : az_M := fun a => if a = k then f else mem a
def az_w (mem : az_M) (k j : Nat) (v : Int32) : az_M := az_st mem k (upd (mem k) j v)
theorem az_wl_at {X : az_X} {mem : az_M} {k : Nat} (hk : k < az_K) : (az_wl X mem)[k]? = some (X.2.2.2 k, az_ce X k (mem k)) := by
  simp [az_wl, hk]
theorem az_wl_set {X : az_X} {mem : az_M} {k : Nat} {f : Nat → Int32} (hk : k < az_K) : (az_wl X mem).set k (X.2.2.2 k, az_ce X k f) = az_wl X (az_st mem k f) := by
  apply List.ext_getElem?
  intro i
  have hlen : (az_wl X mem).length = az_K := by simp [az_wl]
  by_cases h : i = k
  · subst h
    rw [List.getElem?_set_self (by rw [hlen]; exact hk), az_wl_at hk]
    simp [az_st]
  · rw [List.getElem?_set_ne (Ne.symm h)]
    by_cases hi : i < az_K
    · rw [az_wl_at hi, az_wl_at hi]; simp [az_st, h]
    · rw [List.getElem?_eq_none (by rw [hlen]; omega), List.getElem?_eq_none (by simp [az_wl]; omega)]
theorem az_w_eq (mem : az_M) (k j : Nat) (v : Int32) (a b : Nat) : az_w mem k j v a b = if a = k ∧ b = j then v else mem a b := by
  unfold az_w az_st upd
  by_cases h : a = k
  · subst h; by_cases h2 : b = j <;> simp [h2]
  · simp [h]
theorem az_st_eq (mem : az_M) (k : Nat) (f : Nat → Int32) (a : Nat) : az_st mem k f a = if a = k then f else mem a := rfl
theorem az_fl_at {X : az_X} {fs : List (Option Nat)} {f : Nat → Int32} {j : Nat} {o : Option Nat} (h : fs[j]? = some o) : (az_fl X fs f)[j]? = some (az_cv X (az_ft o f j)) := by
  obtain ⟨hl, he⟩ := List.getElem?_eq_some_iff.mp h
  simp [az_fl, hl, he]
theorem az_fl_set {X : az_X} {fs : List (Option Nat)} {f : Nat → Int32} {j : Nat} {v : Int32} (h : fs[j]? = some none) : (az_fl X fs f).set j (.int v) = az_fl X fs (upd f j v) := by
  have hl := (List.getElem?_eq_some_iff.mp h).1
  apply List.ext_getElem?
  intro i
  have hlen : (az_fl X fs f).length = fs.length := by simp [az_fl]
  by_cases hi : i = j
  · subst hi
    rw [List.getElem?_set_self (by rw [hlen]; exact hl), az_fl_at h]
    simp [az_ft, az_cv, upd]
  · rw [List.getElem?_set_ne (Ne.symm hi)]
    by_cases h2 : i < fs.length
    · have h3 : fs[i]? = some fs[i] := List.getElem?_eq_getElem h2
      rw [az_fl_at h3, az_fl_at h3]
      cases hc : fs[i] with
      | none => simp [az_ft, upd, hi]
      | some b => simp [az_ft]
    · rw [List.getElem?_eq_none (by rw [hlen]; omega), List.getElem?_eq_none (by simp [az_fl]; omega)]
theorem az_ce_ob {X : az_X} {k ci : Nat} {fs : List (Option Nat)} (h : az_Ob k ci fs) (f : Nat → Int32) : az_ce X k f = .inr (ci, az_fl X fs f) := by
  unfold az_ce; rw [h.2]
theorem az_ce_ar {X : az_X} {k n : Nat} (h : az_Ar k n) (f : Nat → Int32) : az_ce X k f = .inl (X.2.2.1.1, n, .inl f) := by
  unfold az_ce; rw [h.2]
def az_ty (X : az_X) : List (ClassId × FieldType) := [(X.2.2.1.1, .int), (X.2.2.1.2, .object "WayMarks$Net")]
def az_A (X : az_X) : Nat → Prop := fun q => ∃ k, k < az_K ∧ q = X.2.2.2 k
def az_Wd (X : az_X) (mem : az_M) (H : Heap) : Prop := va_P X.2.1 az_cl (az_wl X mem) H ∧ va_D (az_A X) (az_wl X mem)
def az_Q (X : az_X) (Q : Option az_V → az_M → Prop) : Array Value → State → Outcome → State → Prop := fun _ st oc t => (∃ (r : Option az_V) (mem : az_M), oc = .returned (r.map (az_cv X)) ∧ Q r mem ∧ az_Wd X mem t.heap ∧ va_K X.2.1 az_cl (az_ty X) t) ∧ va_F (az_A X) st t
def az_rm (d : Nat) : Room := { frames := d, cells := 0, slots := 0, locals := 64 * d }
def az_ws (M : az_Me) : List Cond := .code M.1 M.2.1 M.2.2.1 M.2.2.2 :: az_tb
def az_Sp (X : az_X) (d : Nat) (M : az_Me) (args : List az_V) (mem : az_M) (Q : Option az_V → az_M → Prop) : Prop := Met X.1 M.1 (az_ws M) (az_rm d) (va_Pc (args.map (az_cv X)) (fun U => az_Wd X mem U.heap ∧ va_K X.2.1 az_cl (az_ty X) U)) (az_Q X Q) 0 0 (az_A X)
def az_LR (X : az_X) (ls : Array Slot) (n : Nat) (L : List (Option az_V)) : Prop := ls.size = n ∧ lv_wf ls ∧ ∀ (i : Nat) (v : az_V), L[i]? = some (some v) → ls[i]? = some (.val (az_cv X v))
def az_Ev (X : az_X) (d : Nat) (M : az_Me) (pc : Nat) (L : List (Option az_V)) (st : List az_V) (mem : az_M) (Q : Option az_V → az_M → Prop) : Prop :=
  ∀ (p : Program) (e : Env) (s : State) (m : MethodId) (args : Array Value) (below : List Frame) (meth : Method) (c : Code) (H : Heap) (locs : List Loc) (ls : Array Slot),
    p.tables.exec = Jvm.exec → c.code = M.2.1 → c.maxLocals = M.2.2.1 → s.vm.findClass M.1.cls = some m.cls → meth.sig.returnType = M.2.2.2 → meth.locks = false → (∀ w ∈ az_tb, w.before args s = true) → va_K X.2.1 az_cl (az_ty X) s → az_Wd X mem H → va_S (az_A X) s.heap H locs → az_LR X ls M.2.2.1 L →
    W p X.1 e (az_rm d) s m args below meth c H locs 0 0 (MQ below (az_Q X Q) args s 0 0 (az_A X)) (F0 m pc ls (st.map (az_cv X)))
def az_pr (X : az_X) (L : List (Option az_V)) : List (Nat × Value) := (List.range L.length).filterMap (fun i => (L.getD i none).map (fun v => (i, az_cv X v)))
theorem az_pr_mem {X : az_X} {L : List (Option az_V)} {q : Nat × Value} : q ∈ az_pr X L ↔ ∃ v, L[q.1]? = some (some v) ∧ q.2 = az_cv X v := by
  obtain ⟨i, w⟩ := q
  simp only [az_pr, List.mem_filterMap, List.mem_range, Option.map_eq_some_iff, List.getD_eq_getElem?_getD]
  constructor
  · rintro ⟨j, hj, v, hv, he⟩
    cases he
    refine ⟨v, ?_, rfl⟩
    rw [List.getElem?_eq_getElem hj] at hv ⊢
    simpa using hv
  · rintro ⟨v, hv, rfl⟩
    have hl := (List.getElem?_eq_some_iff.mp hv).1
    exact ⟨i, hl, v, by rw [hv]; rfl, rfl⟩
theorem az_LR_has {X : az_X} {ls : Array Slot} {n : Nat} {L : List (Option az_V)} (h : az_LR X ls n L) : lv_has ls n (az_pr X L) := by
  refine ⟨h.1, h.2.1, fun q hq => ?_⟩
  obtain ⟨v, h1, h2⟩ := az_pr_mem.mp hq
  rw [h2]
  exact h.2.2 _ _ h1
theorem az_cat (X : az_X) (v : az_V) : (az_cv X v).category = 1 := by cases v <;> rfl
theorem az_LR_set {X : az_X} {ls : Array Slot} {n i : Nat} {L : List (Option az_V)} {v : az_V} (h : lv_has ls n ((i, az_cv X v) :: (az_pr X L).filter (fun q => !(q.1 == i) && !(q.1 + 1 == i && q.2.category == 2)))) : az_LR X ls n (L.set i (some v)) := by
  refine ⟨h.1, h.2.1, fun j w hw => ?_⟩
  by_cases hj : j = i
  · subst hj
    have hl : j < L.length := by
      have := (List.getElem?_eq_some_iff.mp hw).1
      simpa using this
    rw [List.getElem?_set_self hl] at hw
    cases hw
    exact h.2.2 (j, az_cv X v) List.mem_cons_self
  · rw [List.getElem?_set_ne (Ne.symm hj)] at hw
    refine h.2.2 (j, az_cv X w) (List.mem_cons_of_mem _ (List.mem_filter.mpr ⟨az_pr_mem.mpr ⟨w, hw, rfl⟩, ?_⟩))
    simp [hj, az_cat]
abbrev az_ps (r : Option az_V) (rest : List az_V) : List az_V := match r with
  | none => rest
  | some v => v :: rest
section AZ1
variable {X : az_X} {d : Nat} {M : az_Me} {pc : Nat} {L : List (Option az_V)} {st : List az_V} {mem : az_M} {Q : Option az_V → az_M → Prop}
/-- another shape of the same state -/
theorem az_Ev.eq {pc2 : Nat} {L2 : List (Option az_V)} {st2 : List az_V} {mem2 : az_M} (h : az_Ev X d M pc2 L2 st2 mem2 Q) (h1 : pc2 = pc) (h2 : L2 = L) (h3 : st2 = st) (h4 : mem2 = mem) : az_Ev X d M pc L st mem Q := by
  subst h1; subst h2; subst h3; subst h4; exact h
theorem az_iload {i : Nat} {v : Int32} (hd : decode M.2.1 pc = .ok (.iload i, 2)) (hl : L[i]? = some (some (.inl v))) (k : az_Ev X d M (pc + 2) L (.inl v :: st) mem Q) : az_Ev X d M pc L st mem Q := by
  intro p e s m args below meth c H locs ls hx hb hml hown hr hlk hts hK hW hS hL
  exact lv_iload hx hb hd (hL.2.2 _ _ hl) (k p e s m args below meth c H locs ls hx hb hml hown hr hlk hts hK hW hS hL)
theorem az_iloadn {i : Fin 4} {v : Int32} (hd : decode M.2.1 pc = .ok (.iload_n i, 1)) (hl : L[i.val]? = some (some (.inl v))) (k : az_Ev X d M (pc + 1) L (.inl v :: st) mem Q) : az_Ev X d M pc L st mem Q := by
  intro p e s m args below meth c H locs ls hx hb hml hown hr hlk hts hK hW hS hL
  exact lv_iload_n hx hb hd rfl (hL.2.2 _ _ hl) (k p e s m args below meth c H locs ls hx hb hml hown hr hlk hts hK hW hS hL)
theorem az_aload {i : Nat} {b : Nat} (hd : decode M.2.1 pc = .ok (.aload i, 2)) (hl : L[i]? = some (some (.inr b))) (k : az_Ev X d M (pc + 2) L (.inr b :: st) mem Q) : az_Ev X d M pc L st mem Q := by
  intro p e s m args below meth c H locs ls hx hb hml hown hr hlk hts hK hW hS hL
  exact lv_aload hx hb hd (hL.2.2 _ _ hl) (k p e s m args below meth c H locs ls hx hb hml hown hr hlk hts hK hW hS hL)
theorem az_aloadn {i : Fin 4} {b : Nat} (hd : decode M.2.1 pc = .ok (.aload_n i, 1)) (hl : L[i.val]? = some (some (.inr b))) (k : az_Ev X d M (pc + 1) L (.inr b :: st) mem Q) : az_Ev X d M pc L st mem Q := by
  intro p e s m args below meth c H locs ls hx hb hml hown hr hlk hts hK hW hS hL
  exact lv_aload_n hx hb hd rfl (hL.2.2 _ _ hl) (k p e s m args below meth c H locs ls hx hb hml hown hr hlk hts hK hW hS hL)
theorem az_istore {i : Nat} {v : Int32} (hd : decode M.2.1 pc = .ok (.istore i, 2)) (hi : i < M.2.2.1) (k : az_Ev X d M (pc + 2) (L.set i (some (.inl v))) st mem Q) : az_Ev X d M pc L (.inl v :: st) mem Q := by
  intro p e s m args below meth c H locs ls hx hb hml hown hr hlk hts hK hW hS hL
  exact lv_istore hx hb hd (az_LR_has hL) hi rfl (fun ls' h' => k p e s m args below meth c H locs ls' hx hb hml hown hr hlk hts hK hW hS (az_LR_set (v := .inl v) h'))
theorem az_istoren {i : Fin 4} {v : Int32} (hd : decode M.2.1 pc = .ok (.istore_n i, 1)) (hi : i.val < M.2.2.1) (k : az_Ev X d M (pc + 1) (L.set i.val (some (.inl v))) st mem Q) : az_Ev X d M pc L (.inl v :: st) mem Q := by
  intro p e s m args below meth c H locs ls hx hb hml hown hr hlk hts hK hW hS hL
  exact lv_istore_n hx hb hd rfl (az_LR_has hL) hi rfl (fun ls' h' => k p e s m args below meth c H locs ls' hx hb hml hown hr hlk hts hK hW hS (az_LR_set (v := .inl v) h'))
theorem az_astore {i : Nat} {b : Nat} (hd : decode M.2.1 pc = .ok (.astore i, 2)) (hi : i < M.2.2.1) (k : az_Ev X d M (pc + 2) (L.set i (some (.inr b))) st mem Q) : az_Ev X d M pc L (.inr b :: st) mem Q := by
  intro p e s m args below meth c H locs ls hx hb hml hown hr hlk hts hK hW hS hL
  exact lv_astore hx hb hd (az_LR_has hL) hi rfl (fun ls' h' => k p e s m args below meth c H locs ls' hx hb hml hown hr hlk hts hK hW hS (az_LR_set (v := .inr b) h'))
theorem az_astoren {i : Fin 4} {b : Nat} (hd : decode M.2.1 pc = .ok (.astore_n i, 1)) (hi : i.val < M.2.2.1) (k : az_Ev X d M (pc + 1) (L.set i.val (some (.inr b))) st mem Q) : az_Ev X d M pc L (.inr b :: st) mem Q := by
  intro p e s m args below meth c H locs ls hx hb hml hown hr hlk hts hK hW hS hL
  exact lv_astore_n hx hb hd rfl (az_LR_has hL) hi rfl (fun ls' h' => k p e s m args below meth c H locs ls' hx hb hml hown hr hlk hts hK hW hS (az_LR_set (v := .inr b) h'))
theorem az_iinc {i : Nat} {n : Int} {v w : Int32} (hd : decode M.2.1 pc = .ok (.iinc i n, 3)) (hl : L[i]? = some (some (.inl v))) (hw : Int32.ofInt n = w) (hi : i < M.2.2.1) (k : az_Ev X d M (pc + 3) (L.set i (some (.inl (v + w)))) st mem Q) : az_Ev X d M pc L st mem Q := by
  intro p e s m args below meth c H locs ls hx hb hml hown hr hlk hts hK hW hS hL
  obtain ⟨j, hj⟩ := List.getElem?_of_mem (az_pr_mem (X := X) (L := L) (q := (i, .int v)) |>.mpr ⟨.inl v, hl, rfl⟩)
  subst hw
  exact lv_iinc hx hb hd (az_LR_has hL) hj rfl hi rfl (fun ls' h' => k p e s m args below meth c H locs ls' hx hb hml hown hr hlk hts hK hW hS (az_LR_set (v := .inl (v + Int32.ofInt n)) h'))
theorem az_iconst {n : Int} {v : Int32} (hd : decode M.2.1 pc = .ok (.iconst n, 1)) (hv : Int32.ofInt n = v) (k : az_Ev X d M (pc + 1) L (.inl v :: st) mem Q) : az_Ev X d M pc L st mem Q := by
  intro p e s m args below meth c H locs ls hx hb hml hown hr hlk hts hK hW hS hL
  exact lv_iconst hx hb hd hv (k p e s m args below meth c H locs ls hx hb hml hown hr hlk hts hK hW hS hL)
theorem az_bipush {n : Int} {v : Int32} (hd : decode M.2.1 pc = .ok (.bipush n, 2)) (hv : (Int8.ofInt n).toInt32 = v) (k : az_Ev X d M (pc + 2) L (.inl v :: st) mem Q) : az_Ev X d M pc L st mem Q := by
  intro p e s m args below meth c H locs ls hx hb hml hown hr hlk hts hK hW hS hL
  exact lv_bipush hx hb hd hv (k p e s m args below meth c H locs ls hx hb hml hown hr hlk hts hK hW hS hL)
theorem az_sipush {n : Int} {v : Int32} (hd : decode M.2.1 pc = .ok (.sipush n, 3)) (hv : (Int16.ofInt n).toInt32 = v) (k : az_Ev X d M (pc + 3) L (.inl v :: st) mem Q) : az_Ev X d M pc L st mem Q := by
  intro p e s m args below meth c H locs ls hx hb hml hown hr hlk hts hK hW hS hL
  exact lv_sipush hx hb hd hv (k p e s m args below meth c H locs ls hx hb hml hown hr hlk hts hK hW hS hL)
theorem az_ldc {n : Nat} {v : Int32} (hd : decode M.2.1 pc = .ok (.ldc n, 2)) (hc : Cond.constant M.1.cls n v ∈ az_tb) (k : az_Ev X d M (pc + 2) L (.inl v :: st) mem Q) : az_Ev X d M pc L st mem Q := by
  intro p e s m args below meth c H locs ls hx hb hml hown hr hlk hts hK hW hS hL
  exact lv_ldc hx hb hown (hts _ hc) hd (k p e s m args below meth c H locs ls hx hb hml hown hr hlk hts hK hW hS hL)
theorem az_ldcw {n : Nat} {v : Int32} (hd : decode M.2.1 pc = .ok (.ldc_w n, 3)) (hc : Cond.constant M.1.cls n v ∈ az_tb) (k : az_Ev X d M (pc + 3) L (.inl v :: st) mem Q) : az_Ev X d M pc L st mem Q := by
  intro p e s m args below meth c H locs ls hx hb hml hown hr hlk hts hK hW hS hL
  exact lv_ldcw hx hb hown (hts _ hc) hd (k p e s m args below meth c H locs ls hx hb hml hown hr hlk hts hK hW hS hL)
theorem az_iadd {x y : Int32} (hd : decode M.2.1 pc = .ok (.iadd, 1)) (k : az_Ev X d M (pc + 1) L (.inl (x + y) :: st) mem Q) : az_Ev X d M pc L (.inl y :: .inl x :: st) mem Q := by
  intro p e s m args below meth c H locs ls hx hb hml hown hr hlk hts hK hW hS hL
  exact lv_iadd hx hb hd (k p e s m args below meth c H locs ls hx hb hml hown hr hlk hts hK hW hS hL)
theorem az_isub {x y : Int32} (hd : decode M.2.1 pc = .ok (.isub, 1)) (k : az_Ev X d M (pc + 1) L (.inl (x - y) :: st) mem Q) : az_Ev X d M pc L (.inl y :: .inl x :: st) mem Q := by
  intro p e s m args below meth c H locs ls hx hb hml hown hr hlk hts hK hW hS hL
  exact lv_isub hx hb hd (k p e s m args below meth c H locs ls hx hb hml hown hr hlk hts hK hW hS hL)
theorem az_imul {x y : Int32} (hd : decode M.2.1 pc = .ok (.imul, 1)) (k : az_Ev X d M (pc + 1) L (.inl (x * y) :: st) mem Q) : az_Ev X d M pc L (.inl y :: .inl x :: st) mem Q := by
  intro p e s m args below meth c H locs ls hx hb hml hown hr hlk hts hK hW hS hL
  exact lv_imul hx hb hd (k p e s m args below meth c H locs ls hx hb hml hown hr hlk hts hK hW hS hL)
theorem az_iand {x y : Int32} (hd : decode M.2.1 pc = .ok (.iand, 1)) (k : az_Ev X d M (pc + 1) L (.inl (x &&& y) :: st) mem Q) : az_Ev X d M pc L (.inl y :: .inl x :: st) mem Q := by
  intro p e s m args below meth c H locs ls hx hb hml hown hr hlk hts hK hW hS hL
  exact lv_iand hx hb hd (k p e s m args below meth c H locs ls hx hb hml hown hr hlk hts hK hW hS hL)
theorem az_ior {x y : Int32} (hd : decode M.2.1 pc = .ok (.ior, 1)) (k : az_Ev X d M (pc + 1) L (.inl (x ||| y) :: st) mem Q) : az_Ev X d M pc L (.inl y :: .inl x :: st) mem Q := by
  intro p e s m args below meth c H locs ls hx hb hml hown hr hlk hts hK hW hS hL
  exact lv_ior hx hb hd (k p e s m args below meth c H locs ls hx hb hml hown hr hlk hts hK hW hS hL)
theorem az_ixor {x y : Int32} (hd : decode M.2.1 pc = .ok (.ixor, 1)) (k : az_Ev X d M (pc + 1) L (.inl (x ^^^ y) :: st) mem Q) : az_Ev X d M pc L (.inl y :: .inl x :: st) mem Q := by
  intro p e s m args below meth c H locs ls hx hb hml hown hr hlk hts hK hW hS hL
  exact lv_ixor hx hb hd (k p e s m args below meth c H locs ls hx hb hml hown hr hlk hts hK hW hS hL)
theorem az_ishl {x y : Int32} (hd : decode M.2.1 pc = .ok (.ishl, 1)) (k : az_Ev X d M (pc + 1) L (.inl (x <<< (y &&& 31)) :: st) mem Q) : az_Ev X d M pc L (.inl y :: .inl x :: st) mem Q := by
  intro p e s m args below meth c H locs ls hx hb hml hown hr hlk hts hK hW hS hL
  exact lv_ishl hx hb hd (k p e s m args below meth c H locs ls hx hb hml hown hr hlk hts hK hW hS hL)
theorem az_ishr {x y : Int32} (hd : decode M.2.1 pc = .ok (.ishr, 1)) (k : az_Ev X d M (pc + 1) L (.inl (x >>> (y &&& 31)) :: st) mem Q) : az_Ev X d M pc L (.inl y :: .inl x :: st) mem Q := by
  intro p e s m args below meth c H locs ls hx hb hml hown hr hlk hts hK hW hS hL
  exact lv_ishr hx hb hd (k p e s m args below meth c H locs ls hx hb hml hown hr hlk hts hK hW hS hL)
theorem az_idiv {x y : Int32} (hd : decode M.2.1 pc = .ok (.idiv, 1)) (hy : ¬ y = 0) (k : az_Ev X d M (pc + 1) L (.inl (x / y) :: st) mem Q) : az_Ev X d M pc L (.inl y :: .inl x :: st) mem Q := by
  intro p e s m args below meth c H locs ls hx hb hml hown hr hlk hts hK hW hS hL
  exact lv_idiv hx hb hd hy (k p e s m args below meth c H locs ls hx hb hml hown hr hlk hts hK hW hS hL)
theorem az_irem {x y : Int32} (hd : decode M.2.1 pc = .ok (.irem, 1)) (hy : ¬ y = 0) (k : az_Ev X d M (pc + 1) L (.inl (x - x / y * y) :: st) mem Q) : az_Ev X d M pc L (.inl y :: .inl x :: st) mem Q := by
  intro p e s m args below meth c H locs ls hx hb hml hown hr hlk hts hK hW hS hL
  exact lv_irem hx hb hd hy (k p e s m args below meth c H locs ls hx hb hml hown hr hlk hts hK hW hS hL)
theorem az_iushr {x y : Int32} (hd : decode M.2.1 pc = .ok (.iushr, 1)) (k : az_Ev X d M (pc + 1) L (.inl ((x.toUInt32 >>> (y.toUInt32 &&& Int32.toUInt32 31)).toInt32) :: st) mem Q) : az_Ev X d M pc L (.inl y :: .inl x :: st) mem Q := by
  intro p e s m args below meth c H locs ls hx hb hml hown hr hlk hts hK hW hS hL
  exact lv_iushr hx hb hd rfl (k p e s m args below meth c H locs ls hx hb hml hown hr hlk hts hK hW hS hL)
theorem az_dup {v : az_V} (hd : decode M.2.1 pc = .ok (.dup, 1)) (k : az_Ev X d M (pc + 1) L (v :: v :: st) mem Q) : az_Ev X d M pc L (v :: st) mem Q := by
  intro p e s m args below meth c H locs ls hx hb hml hown hr hlk hts hK hW hS hL
  exact lv_dup hx hb hd (az_cat X v) (k p e s m args below meth c H locs ls hx hb hml hown hr hlk hts hK hW hS hL)
theorem az_dup2 {v w : az_V} (hd : decode M.2.1 pc = .ok (.dup2, 1)) (k : az_Ev X d M (pc + 1) L (v :: w :: v :: w :: st) mem Q) : az_Ev X d M pc L (v :: w :: st) mem Q := by
  intro p e s m args below meth c H locs ls hx hb hml hown hr hlk hts hK hW hS hL
  exact lv_dup2_11 hx hb hd (az_cat X v) (az_cat X w) (k p e s m args below meth c H locs ls hx hb hml hown hr hlk hts hK hW hS hL)
theorem az_goto {off : Int} {t : Nat} (hd : decode M.2.1 pc = .ok (.goto off, 3)) (ht : (pc : Int) + off = (t : Int)) (k : az_Ev X d M t L st mem Q) : az_Ev X d M pc L st mem Q := by
  intro p e s m args below meth c H locs ls hx hb hml hown hr hlk hts hK hW hS hL
  exact lv_goto hx hb hd ht (k p e s m args below meth c H locs ls hx hb hml hown hr hlk hts hK hW hS hL)
theorem az_icmpeq {x y : Int32} {off : Int} {t : Nat} (hd : decode M.2.1 pc = .ok (.if_icmp .eq off, 3)) (ht : (pc : Int) + off = (t : Int)) (kt : x = y → az_Ev X d M t L st mem Q) (kf : ¬ x = y → az_Ev X d M (pc + 3) L st mem Q) : az_Ev X d M pc L (.inl y :: .inl x :: st) mem Q := by
  intro p e s m args below meth c H locs ls hx hb hml hown hr hlk hts hK hW hS hL
  exact lv_icmp_eq hx hb hd ht (fun h => kt h p e s m args below meth c H locs ls hx hb hml hown hr hlk hts hK hW hS hL) (fun h => kf h p e s m args below meth c H locs ls hx hb hml hown hr hlk hts hK hW hS hL)
theorem az_icmpne {x y : Int32} {off : Int} {t : Nat} (hd : decode M.2.1 pc = .ok (.if_icmp .ne off, 3)) (ht : (pc : Int) + off = (t : Int)) (kt : ¬ x = y → az_Ev X d M t L st mem Q) (kf : x = y → az_Ev X d M (pc + 3) L st mem Q) : az_Ev X d M pc L (.inl y :: .inl x :: st) mem Q := by
  intro p e s m args below meth c H locs ls hx hb hml hown hr hlk hts hK hW hS hL
  exact lv_icmp_ne hx hb hd ht (fun h => kt h p e s m args below meth c H locs ls hx hb hml hown hr hlk hts hK hW hS hL) (fun h => kf h p e s m args below meth c H locs ls hx hb hml hown hr hlk hts hK hW hS hL)
theorem az_icmplt {x y : Int32} {off : Int} {t : Nat} (hd : decode M.2.1 pc = .ok (.if_icmp .lt off, 3)) (ht : (pc : Int) + off = (t : Int)) (kt : x < y → az_Ev X d M t L st mem Q) (kf : ¬ x < y → az_Ev X d M (pc + 3) L st mem Q) : az_Ev X d M pc L (.inl y :: .inl x :: st) mem Q := by
  intro p e s m args below meth c H locs ls hx hb hml hown hr hlk hts hK hW hS hL
  exact lv_icmp_lt hx hb hd ht (fun h => kt h p e s m args below meth c H locs ls hx hb hml hown hr hlk hts hK hW hS hL) (fun h => kf h p e s m args below meth c H locs ls hx hb hml hown hr hlk hts hK hW hS hL)
theorem az_icmpge {x y : Int32} {off : Int} {t : Nat} (hd : decode M.2.1 pc = .ok (.if_icmp .ge off, 3)) (ht : (pc : Int) + off = (t : Int)) (kt : y ≤ x → az_Ev X d M t L st mem Q) (kf : ¬ y ≤ x → az_Ev X d M (pc + 3) L st mem Q) : az_Ev X d M pc L (.inl y :: .inl x :: st) mem Q := by
  intro p e s m args below meth c H locs ls hx hb hml hown hr hlk hts hK hW hS hL
  exact lv_icmp_ge hx hb hd ht (fun h => kt h p e s m args below meth c H locs ls hx hb hml hown hr hlk hts hK hW hS hL) (fun h => kf h p e s m args below meth c H locs ls hx hb hml hown hr hlk hts hK hW hS hL)
theorem az_icmpgt {x y : Int32} {off : Int} {t : Nat} (hd : decode M.2.1 pc = .ok (.if_icmp .gt off, 3)) (ht : (pc : Int) + off = (t : Int)) (kt : y < x → az_Ev X d M t L st mem Q) (kf : ¬ y < x → az_Ev X d M (pc + 3) L st mem Q) : az_Ev X d M pc L (.inl y :: .inl x :: st) mem Q := by
  intro p e s m args below meth c H locs ls hx hb hml hown hr hlk hts hK hW hS hL
  exact lv_icmp_gt hx hb hd ht (fun h => kt h p e s m args below meth c H locs ls hx hb hml hown hr hlk hts hK hW hS hL) (fun h => kf h p e s m args below meth c H locs ls hx hb hml hown hr hlk hts hK hW hS hL)
theorem az_icmple {x y : Int32} {off : Int} {t : Nat} (hd : decode M.2.1 pc = .ok (.if_icmp .le off, 3)) (ht : (pc : Int) + off = (t : Int)) (kt : x ≤ y → az_Ev X d M t L st mem Q) (kf : ¬ x ≤ y → az_Ev X d M (pc + 3) L st mem Q) : az_Ev X d M pc L (.inl y :: .inl x :: st) mem Q := by
  intro p e s m args below meth c H locs ls hx hb hml hown hr hlk hts hK hW hS hL
  exact lv_icmp_le hx hb hd ht (fun h => kt h p e s m args below meth c H locs ls hx hb hml hown hr hlk hts hK hW hS hL) (fun h => kf h p e s m args below meth c H locs ls hx hb hml hown hr hlk hts hK hW hS hL)
theorem az_ifeq {x : Int32} {off : Int} {t : Nat} (hd : decode M.2.1 pc = .ok (.ifCond .eq off, 3)) (ht : (pc : Int) + off = (t : Int)) (kt : x = 0 → az_Ev X d M t L st mem Q) (kf : ¬ x = 0 → az_Ev X d M (pc + 3) L st mem Q) : az_Ev X d M pc L (.inl x :: st) mem Q := by
  intro p e s m args below meth c H locs ls hx hb hml hown hr hlk hts hK hW hS hL
  exact lv_if_eq hx hb hd ht (fun h => kt h p e s m args below meth c H locs ls hx hb hml hown hr hlk hts hK hW hS hL) (fun h => kf h p e s m args below meth c H locs ls hx hb hml hown hr hlk hts hK hW hS hL)
theorem az_ifne {x : Int32} {off : Int} {t : Nat} (hd : decode M.2.1 pc = .ok (.ifCond .ne off, 3)) (ht : (pc : Int) + off = (t : Int)) (kt : ¬ x = 0 → az_Ev X d M t L st mem Q) (kf : x = 0 → az_Ev X d M (pc + 3) L st mem Q) : az_Ev X d M pc L (.inl x :: st) mem Q := by
  intro p e s m args below meth c H locs ls hx hb hml hown hr hlk hts hK hW hS hL
  exact lv_if_ne hx hb hd ht (fun h => kt h p e s m args below meth c H locs ls hx hb hml hown hr hlk hts hK hW hS hL) (fun h => kf h p e s m args below meth c H locs ls hx hb hml hown hr hlk hts hK hW hS hL)
theorem az_iflt {x : Int32} {off : Int} {t : Nat} (hd : decode M.2.1 pc = .ok (.ifCond .lt off, 3)) (ht : (pc : Int) + off = (t : Int)) (kt : x < 0 → az_Ev X d M t L st mem Q) (kf : ¬ x < 0 → az_Ev X d M (pc + 3) L st mem Q) : az_Ev X d M pc L (.inl x :: st) mem Q := by
  intro p e s m args below meth c H locs ls hx hb hml hown hr hlk hts hK hW hS hL
  exact lv_if_lt hx hb hd ht (fun h => kt h p e s m args below meth c H locs ls hx hb hml hown hr hlk hts hK hW hS hL) (fun h => kf h p e s m args below meth c H locs ls hx hb hml hown hr hlk hts hK hW hS hL)
theorem az_ifge {x : Int32} {off : Int} {t : Nat} (hd : decode M.2.1 pc = .ok (.ifCond .ge off, 3)) (ht : (pc : Int) + off = (t : Int)) (kt : 0 ≤ x → az_Ev X d M t L st mem Q) (kf : ¬ 0 ≤ x → az_Ev X d M (pc + 3) L st mem Q) : az_Ev X d M pc L (.inl x :: st) mem Q := by
  intro p e s m args below meth c H locs ls hx hb hml hown hr hlk hts hK hW hS hL
  exact lv_if_ge hx hb hd ht (fun h => kt h p e s m args below meth c H locs ls hx hb hml hown hr hlk hts hK hW hS hL) (fun h => kf h p e s m args below meth c H locs ls hx hb hml hown hr hlk hts hK hW hS hL)
theorem az_ifgt {x : Int32} {off : Int} {t : Nat} (hd : decode M.2.1 pc = .ok (.ifCond .gt off, 3)) (ht : (pc : Int) + off = (t : Int)) (kt : 0 < x → az_Ev X d M t L st mem Q) (kf : ¬ 0 < x → az_Ev X d M (pc + 3) L st mem Q) : az_Ev X d M pc L (.inl x :: st) mem Q := by
  intro p e s m args below meth c H locs ls hx hb hml hown hr hlk hts hK hW hS hL
  exact lv_if_gt hx hb hd ht (fun h => kt h p e s m args below meth c H locs ls hx hb hml hown hr hlk hts hK hW hS hL) (fun h => kf h p e s m args below meth c H locs ls hx hb hml hown hr hlk hts hK hW hS hL)
theorem az_ifle {x : Int32} {off : Int} {t : Nat} (hd : decode M.2.1 pc = .ok (.ifCond .le off, 3)) (ht : (pc : Int) + off = (t : Int)) (kt : x ≤ 0 → az_Ev X d M t L st mem Q) (kf : ¬ x ≤ 0 → az_Ev X d M (pc + 3) L st mem Q) : az_Ev X d M pc L (.inl x :: st) mem Q := by
  intro p e s m args below meth c H locs ls hx hb hml hown hr hlk hts hK hW hS hL
  exact lv_if_le hx hb hd ht (fun h => kt h p e s m args below meth c H locs ls hx hb hml hown hr hlk hts hK hW hS hL) (fun h => kf h p e s m args below meth c H locs ls hx hb hml hown hr hlk hts hK hW hS hL)
theorem az_tout {dflt lo hi : Int} {offs : Array Int} {len : Nat} {x : Int32} {t : Nat} (hd : decode M.2.1 pc = .ok (.tableswitch dflt lo hi offs, len)) (h : x.toInt < lo ∨ hi < x.toInt) (ht : (pc : Int) + dflt = (t : Int)) (k : az_Ev X d M t L st mem Q) : az_Ev X d M pc L (.inl x :: st) mem Q := by
  intro p e s m args below meth c H locs ls hx hb hml hown hr hlk hts hK hW hS hL
  exact lv_tableOut hx hb hd h ht (k p e s m args below meth c H locs ls hx hb hml hown hr hlk hts hK hW hS hL)
theorem az_tin {dflt lo hi : Int} {offs : Array Int} {len : Nat} {x : Int32} {off : Int} {t : Nat} (hd : decode M.2.1 pc = .ok (.tableswitch dflt lo hi offs, len)) (h1 : ¬ x.toInt < lo) (h2 : ¬ hi < x.toInt) (ho : offs[(x.toInt - lo).toNat]? = some off) (ht : (pc : Int) + off = (t : Int)) (k : az_Ev X d M t L st mem Q) : az_Ev X d M pc L (.inl x :: st) mem Q := by
  intro p e s m args below meth c H locs ls hx hb hml hown hr hlk hts hK hW hS hL
  exact lv_tableIn hx hb hd h1 h2 ho ht (k p e s m args below meth c H locs ls hx hb hml hown hr hlk hts hK hW hS hL)
/-- a field's link: from class own's entry idx to field j of class ci -/
def az_FL (own : String) (idx ci j : Nat) : Prop := ∃ (C : String) (T : u_T) (N : Nat), az_cl[ci]? = some (C, T, N) ∧ j < N ∧ (∀ w ∈ u_ws C T N, w ∈ az_tb) ∧ (T j).1 = C ∧ ((Cond.fieldLink own idx C (T j).2.1 (T j).2.2.1 ∈ az_tb) ∨ ∃ host, Cond.fieldLinkNest own idx C (T j).2.1 (T j).2.2.1 host ∈ az_tb)
theorem az_get {idx ci j k : Nat} {fs : List (Option Nat)} {o : Option Nat} (hd : decode M.2.1 pc = .ok (.getfield idx, 3)) (hf : az_FL M.1.cls idx ci j) (hob : az_Ob k ci fs) (ho : fs[j]? = some o) (kk : az_Ev X d M (pc + 3) L (az_ft o (mem k) j :: st) mem Q) : az_Ev X d M pc L (.inr k :: st) mem Q := by
  intro p e s m args below meth c H locs ls hx hb hml hown hr hlk hts hK hW hS hL
  obtain ⟨C, T, N, hc, hj, hin, hC, hl⟩ := hf
  have he : (az_wl X mem)[k]? = some (X.2.2.2 k, .inr (ci, az_fl X fs (mem k))) := by rw [az_wl_at hob.1, az_ce_ob hob]
  rcases hl with hl | ⟨host, hl⟩
  · exact va_get (ref := C) hx hb hts hin hown hK hW.1 k he hc j hj (hts _ hl) (fun x h => by rw [hC] at h; exact h) (az_fl_at ho) hd (kk p e s m args below meth c H locs ls hx hb hml hown hr hlk hts hK hW hS hL)
  · exact va_getN (ref := C) (host := host) hx hb hts hin hown hK hW.1 k he hc j hj (hts _ hl) (fun x h => by rw [hC] at h; exact h) (az_fl_at ho) hd (kk p e s m args below meth c H locs ls hx hb hml hown hr hlk hts hK hW hS hL)
theorem az_geti {idx ci j k : Nat} {fs : List (Option Nat)} (hd : decode M.2.1 pc = .ok (.getfield idx, 3)) (hf : az_FL M.1.cls idx ci j) (hob : az_Ob k ci fs) (ho : fs[j]? = some none) (kk : az_Ev X d M (pc + 3) L (.inl (mem k j) :: st) mem Q) : az_Ev X d M pc L (.inr k :: st) mem Q := az_get hd hf hob ho kk
theorem az_getr {idx ci j k b : Nat} {fs : List (Option Nat)} (hd : decode M.2.1 pc = .ok (.getfield idx, 3)) (hf : az_FL M.1.cls idx ci j) (hob : az_Ob k ci fs) (ho : fs[j]? = some (some b)) (kk : az_Ev X d M (pc + 3) L (.inr b :: st) mem Q) : az_Ev X d M pc L (.inr k :: st) mem Q := az_get hd hf hob ho kk
/-- such a link, of a field that isn't final, of int or boolean -/
def az_PL (own : String) (idx ci j : Nat) (ty : FieldType) : Prop := ∃ (C : String) (T : u_T) (N : Nat) (ty0 : Nat → FieldType), az_cl[ci]? = some (C, T, N) ∧ j < N ∧ (∀ w ∈ u_ws C T N, w ∈ az_tb) ∧ (T j).1 = C ∧ ((Cond.fieldLink own idx C (T j).2.1 (T j).2.2.1 ∈ az_tb) ∨ ∃ host, Cond.fieldLinkNest own idx C (T j).2.1 (T j).2.2.1 host ∈ az_tb) ∧
  (∀ k, k < N → parseFieldDescriptor (T k).2.2.1 = some (ty0 k)) ∧ (∀ a, a < N → ∀ b, b < N → a ≠ b → (T a).2.1 ≠ (T b).2.1) ∧ (T j).2.2.2 = false ∧ ty0 j = ty
theorem az_put {idx ci j k : Nat} {fs : List (Option Nat)} {v : Int32} {ty : FieldType} (hd : decode M.2.1 pc = .ok (.putfield idx, 3)) (hf : az_PL M.1.cls idx ci j ty) (hob : az_Ob k ci fs) (ho : fs[j]? = some none) (hn : narrow ty (.int v) = .int v) (hfit : fits ty (.int v) = true) (kk : az_Ev X d M (pc + 3) L st (az_w mem k j v) Q) : az_Ev X d M pc L (.inl v :: .inr k :: st) mem Q := by
  intro p e s m args below meth c H locs ls hx hb hml hown hr hlk hts hK hW hS hL
  obtain ⟨C, T, N, ty0, hc, hj, hin, hC, hl, hty, hnm, hfin, htj⟩ := hf
  have he : (az_wl X mem)[k]? = some (X.2.2.2 k, .inr (ci, az_fl X fs (mem k))) := by rw [az_wl_at hob.1, az_ce_ob hob]
  have hlen : j < (az_fl X fs (mem k)).length := by
    have := (List.getElem?_eq_some_iff.mp ho).1
    simpa [az_fl] using this
  have hset : (az_wl X mem).set k (X.2.2.2 k, .inr (ci, (az_fl X fs (mem k)).set j (.int v))) = az_wl X (az_w mem k j v) := by
    rw [az_fl_set ho, ← az_ce_ob hob, az_wl_set hob.1]; rfl
  have go : ∀ (H1 : Heap) (locs1 : List Loc), va_P X.2.1 az_cl ((az_wl X mem).set k (X.2.2.2 k, .inr (ci, (az_fl X fs (mem k)).set j (.int v)))) H1 → va_D (az_A X) ((az_wl X mem).set k (X.2.2.2 k, .inr (ci, (az_fl X fs (mem k)).set j (.int v)))) → va_S (az_A X) s.heap H1 locs1 → W p X.1 e (az_rm d) s m args below meth c H1 locs1 0 0 (MQ below (az_Q X Q) args s 0 0 (az_A X)) (F0 m (pc + 3) ls (st.map (az_cv X))) := by
    intro H1 locs1 h1 h2 h3
    rw [hset] at h1 h2
    exact kk p e s m args below meth c H1 locs1 ls hx hb hml hown hr hlk hts hK ⟨h1, h2⟩ h3 hL
  rcases hl with hl | ⟨host, hl⟩
  · exact va_put (ref := C) hx hb hts hin ty0 hty hnm hown hK hW.1 hW.2 hS k he hc j hj (hts _ hl) (fun x h => by rw [hC] at h; exact h) hfin (by rw [hty j hj, htj]) hn hfit hlen hd go
  · exact va_putN (ref := C) (host := host) hx hb hts hin ty0 hty hnm hown hK hW.1 hW.2 hS k he hc j hj (hts _ hl) (fun x h => by rw [hC] at h; exact h) hfin (by rw [hty j hj, htj]) hn hfit hlen hd go
theorem az_puti {idx ci j k : Nat} {fs : List (Option Nat)} {v : Int32} (hd : decode M.2.1 pc = .ok (.putfield idx, 3)) (hf : az_PL M.1.cls idx ci j .int) (hob : az_Ob k ci fs) (ho : fs[j]? = some none) (kk : az_Ev X d M (pc + 3) L st (az_w mem k j v) Q) : az_Ev X d M pc L (.inl v :: .inr k :: st) mem Q := az_put hd hf hob ho rfl rfl kk
theorem az_putz {idx ci j k : Nat} {fs : List (Option Nat)} {v : Int32} (hd : decode M.2.1 pc = .ok (.putfield idx, 3)) (hf : az_PL M.1.cls idx ci j .boolean) (hob : az_Ob k ci fs) (ho : fs[j]? = some none) (hv : v = 0 ∨ v = 1) (kk : az_Ev X d M (pc + 3) L st (az_w mem k j v) Q) : az_Ev X d M pc L (.inl v :: .inr k :: st) mem Q :=
  az_put hd hf hob ho (by rcases hv with rfl | rfl <;> rfl) (by rcases hv with rfl | rfl <;> rfl) kk
theorem az_iald {k n : Nat} {x : Int32} (i : Nat) (hd : decode M.2.1 pc = .ok (.iaload, 1)) (ha : az_Ar k n) (hi : i < n) (hn : n < 2 ^ 31) (hx' : x = nI i) (kk : az_Ev X d M (pc + 1) L (.inl (mem k i) :: st) mem Q) : az_Ev X d M pc L (.inl x :: .inr k :: st) mem Q := by
  intro p e s m args below meth c H locs ls hx hb hml hown hr hlk hts hK hW hS hL
  have he : (az_wl X mem)[k]? = some (X.2.2.2 k, .inl (X.2.2.1.1, n, .inl (mem k))) := by rw [az_wl_at ha.1, az_ce_ar ha]
  subst hx'
  have hc : (nI i).toNatClampNeg = i := nI_clamp (by omega)
  exact va_iald hx hb hK hW.1 k 0 he rfl (vp_in_nI hi hn) hd (by rw [hc]; exact kk p e s m args below meth c H locs ls hx hb hml hown hr hlk hts hK hW hS hL)
theorem az_iast {k n : Nat} {x v : Int32} (i : Nat) (hd : decode M.2.1 pc = .ok (.iastore, 1)) (ha : az_Ar k n) (hi : i < n) (hn : n < 2 ^ 31) (hx' : x = nI i) (kk : az_Ev X d M (pc + 1) L st (az_w mem k i v) Q) : az_Ev X d M pc L (.inl v :: .inl x :: .inr k :: st) mem Q := by
  intro p e s m args below meth c H locs ls hx hb hml hown hr hlk hts hK hW hS hL
  have he : (az_wl X mem)[k]? = some (X.2.2.2 k, .inl (X.2.2.1.1, n, .inl (mem k))) := by rw [az_wl_at ha.1, az_ce_ar ha]
  subst hx'
  have hc : (nI i).toNatClampNeg = i := nI_clamp (by omega)
  have hset : (az_wl X mem).set k (X.2.2.2 k, .inl (X.2.2.1.1, n, .inl (upd (mem k) (nI i).toNatClampNeg v))) = az_wl X (az_w mem k i v) := by
    rw [hc, ← az_ce_ar ha, az_wl_set ha.1]; rfl
  refine va_iast hx hb hK hW.1 hW.2 hS k 0 he rfl (vp_in_nI hi hn) hd (fun H1 locs1 h1 h2 h3 => ?_)
  rw [hset] at h1 h2
  exact kk p e s m args below meth c H1 locs1 ls hx hb hml hown hr hlk hts hK ⟨h1, h2⟩ h3 hL
theorem az_aald {k b : Nat} {bs : List Nat} {x : Int32} (i : Nat) (hd : decode M.2.1 pc = .ok (.aaload, 1)) (ha : k < az_K ∧ az_sh k = .inr (.inr bs)) (hi : bs[i]? = some b) (hn : bs.length < 2 ^ 31) (hx' : x = nI i) (kk : az_Ev X d M (pc + 1) L (.inr b :: st) mem Q) : az_Ev X d M pc L (.inl x :: .inr k :: st) mem Q := by
  intro p e s m args below meth c H locs ls hx hb hml hown hr hlk hts hK hW hS hL
  have he : (az_wl X mem)[k]? = some (X.2.2.2 k, .inl (X.2.2.1.2, bs.length, .inr (.inr (.inr (.inr (fun i => (bs[i]?).map X.2.2.2)))))) := by
    rw [az_wl_at ha.1]; unfold az_ce; rw [ha.2]
  subst hx'
  have hlt := (List.getElem?_eq_some_iff.mp hi).1
  have hc : (nI i).toNatClampNeg = i := nI_clamp (by omega)
  refine va_aldq hx hb hK hW.1 k 1 he rfl (vp_in_nI hlt hn) hd ?_
  rw [hc, hi]
  exact kk p e s m args below meth c H locs ls hx hb hml hown hr hlk hts hK hW hS hL
theorem az_alen {k n : Nat} (hd : decode M.2.1 pc = .ok (.arraylength, 1)) (ha : az_Ar k n) (kk : az_Ev X d M (pc + 1) L (.inl (nI n) :: st) mem Q) : az_Ev X d M pc L (.inr k :: st) mem Q := by
  intro p e s m args below meth c H locs ls hx hb hml hown hr hlk hts hK hW hS hL
  have he : (az_wl X mem)[k]? = some (X.2.2.2 k, .inl (X.2.2.1.1, n, .inl (mem k))) := by rw [az_wl_at ha.1, az_ce_ar ha]
  exact va_alen (ty := .int) hx hb hK hW.1 k 0 he rfl rfl hd (kk p e s m args below meth c H locs ls hx hb hml hown hr hlk hts hK hW hS hL)
theorem az_iret {v : Int32} (hd : decode M.2.1 pc = .ok (.ireturn, 1)) (hM : M.2.2.2 = some .int) (h : Q (some (.inl v)) mem) : az_Ev X d M pc L [.inl v] mem Q := by
  intro p e s m args below meth c H locs ls hx hb hml hown hr hlk hts hK hW hS hL
  exact W.iret (v := v) hx hb (hr.trans hM) (fun t ht hWm => ⟨⟨some (.inl v), mem, rfl, h, by rw [ht]; exact hW, va_K.moved hWm.alike hK⟩, hS.F ht⟩) hS.2.2 hd hlk
theorem az_zret {v : Int32} (hd : decode M.2.1 pc = .ok (.ireturn, 1)) (hM : M.2.2.2 = some .boolean) (hv : v = 0 ∨ v = 1) (h : Q (some (.inl v)) mem) : az_Ev X d M pc L [.inl v] mem Q := by
  intro p e s m args below meth c H locs ls hx hb hml hown hr hlk hts hK hW hS hL
  exact W.zret (v := v) hx hb (hr.trans hM) (by rcases hv with rfl | rfl <;> rfl) (fun t ht hWm => ⟨⟨some (.inl v), mem, rfl, h, by rw [ht]; exact hW, va_K.moved hWm.alike hK⟩, hS.F ht⟩) hS.2.2 hd hlk
theorem az_aret {b : Nat} {C : String} (hd : decode M.2.1 pc = .ok (.areturn, 1)) (hM : M.2.2.2 = some (.object C)) (h : Q (some (.inr b)) mem) : az_Ev X d M pc L [.inr b] mem Q := by
  intro p e s m args below meth c H locs ls hx hb hml hown hr hlk hts hK hW hS hL
  exact W.aret (v := .ref (X.2.2.2 b)) hx hb (hr.trans hM) (Or.inl ⟨C, rfl⟩) (Or.inr ⟨_, rfl⟩) (fun t ht hWm => ⟨⟨some (.inr b), mem, rfl, h, by rw [ht]; exact hW, va_K.moved hWm.alike hK⟩, hS.F ht⟩) hS.2.2 hd hlk
theorem az_vret (hd : decode M.2.1 pc = .ok (.return_, 1)) (hM : M.2.2.2 = none) (h : Q none mem) : az_Ev X d M pc L [] mem Q := by
  intro p e s m args below meth c H locs ls hx hb hml hown hr hlk hts hK hW hS hL
  exact W.vret hx hb (hr.trans hM) (fun t ht hWm => ⟨⟨none, mem, rfl, h, by rw [ht]; exact hW, va_K.moved hWm.alike hK⟩, hS.F ht⟩) hS.2.2 hd hlk
/-- a contract out of a walk of the body -/
theorem az_body {args : List az_V} (hy : plainName M.1.cls = true) (hl : args.length ≤ M.2.2.1) (h : az_Ev X d M 0 (args.map some ++ List.replicate (M.2.2.1 - args.length) none) [] mem Q) : az_Sp X d M args mem Q := by
  refine Met.ofW (cc := M.2.1) (maxL := M.2.2.1) (ret := M.2.2.2) hy rfl ?_
  intro p e s m ar below meth c s₁ B hml hv
  obtain ⟨rfl, hW, hK⟩ := hv
  have hts := atoms_spec (ws := az_ws M) B.pre
  have hslen : ∀ vs : List az_V, lg_sl (vs.map (az_cv X)) = vs.map (fun v => Slot.val (az_cv X v)) := by
    intro vs
    induction vs with
    | nil => rfl
    | cons v vs ih =>
      have : lg_sl ((v :: vs).map (az_cv X)) = (if (az_cv X v).category = 2 then [Slot.val (az_cv X v), .second] else [Slot.val (az_cv X v)]) ++ lg_sl (vs.map (az_cv X)) := rfl
      rw [this, ih]
      simp [az_cat]
  have hle : (lg_sl (args.map (az_cv X))).length ≤ M.2.2.1 := by rw [hslen]; simpa using hl
  have hl0 := lv_entry (args.map (az_cv X)) (n := M.2.2.1) hle
  rw [lg_entry_eq]
  have hLR : az_LR X ((lg_sl (args.map (az_cv X)) ++ List.replicate (M.2.2.1 - (lg_sl (args.map (az_cv X))).length) Slot.unset).toArray) M.2.2.1 (args.map some ++ List.replicate (M.2.2.1 - args.length) none) := by
    refine ⟨hl0.1, hl0.2.1, fun i v hv => ?_⟩
    rw [hslen]
    by_cases hi : i < args.length
    · rw [List.getElem?_append_left (by simpa using hi)] at hv
      rw [List.getElem?_map, Option.map_eq_some_iff] at hv
      obtain ⟨w, hw, he⟩ := hv
      cases he
      simp only [List.getElem?_toArray]
      rw [List.getElem?_append_left (by simpa using hi), List.getElem?_map, hw]
      rfl
    · rw [List.getElem?_append_right (by simpa using hi)] at hv
      have := List.mem_of_getElem? hv
      rw [List.mem_replicate] at this
      exact absurd this.2 (by simp)
  have hx := h p e s m (args.map (az_cv X)).toArray below meth c s.heap [] _ B.exec B.bytes hml (findClass_of_methodNamed B.named) B.returns B.notSynchronized (fun w hw => hts w (List.mem_cons_of_mem _ hw)) hK hW va_S.rf hLR
  exact hx
end AZ1
end
section
/-! CALLS in the abstract layer -/
theorem az_good : az_tb.all goodWord = true := List.all_eq_true.mpr (fun w h => (List.mem_filter.mp h).2)
/-- what the tables say of a method that is called -/
def az_OK (N : az_Me) (n : Nat) : Prop := Cond.code N.1 N.2.1 N.2.2.1 N.2.2.2 ∈ az_tb ∧ Cond.initialized N.1.cls ∈ az_tb ∧ (N.1.cls ≠ "java/lang/invoke/MethodHandle" ∧ N.1.cls ≠ "java/lang/invoke/VarHandle" ∧ (parseMethodDescriptor N.1.desc).map (fun d => d.parameters.length) = some n) ∧ N.2.2.1 ≤ 40
def az_OV (N : az_Me) (n : Nat) : Prop := az_OK N n ∧ Cond.instanceMethod N.1 ∈ az_tb ∧ Cond.selects N.1.cls N.1 N.1 ∈ az_tb
def az_OS (N : az_Me) (n : Nat) : Prop := az_OK N n ∧ Cond.static N.1 ∈ az_tb
def az_Lk (own : String) (idx : Nat) (y : MethodName) : Prop := Cond.methodLink own idx y ∈ az_tb ∨ ∃ host, Cond.methodLinkNest own idx y host ∈ az_tb
theorem az_goodIn {N : az_Me} {n : Nat} (h : az_OK N n) : GoodIn az_tb (az_ws N) := by
  intro w hw
  have hm : w ∈ az_tb := by
    rcases List.mem_cons.mp hw with rfl | hw
    · exact h.1
    · exact hw
  exact ⟨hm, good_of_word (List.all_eq_true.mp az_good w hm)⟩
theorem az_room {N : az_Me} {n : Nat} (h : az_OK N n) (d : Nat) : (az_rm d).frames + 1 ≤ (az_rm (d + 1)).frames ∧ 8 + (N.2.2.1 + 11) + (az_rm d).locals ≤ (az_rm (d + 1)).locals := by
  have := h.2.2.2
  constructor
  · exact Nat.le_refl _
  · show 8 + (N.2.2.1 + 11) + 64 * d ≤ 64 * (d + 1)
    omega
theorem az_ps_map (X : az_X) (r : Option az_V) (rest : List az_V) : (az_ps r rest).map (az_cv X) = (r.map (az_cv X)).toList ++ rest.map (az_cv X) := by
  cases r <;> rfl
theorem az_sum (X : az_X) (rest : List az_V) : ((rest.map (az_cv X)).map fun v => v.category).sum = rest.length := by
  induction rest with
  | nil => rfl
  | cons a l ih => simp only [List.map_cons, List.sum_cons, List.length_cons, ih, az_cat]; omega
section AZ2
variable {p : Program} {e : Env} {s : State} {m : MethodId} {args : Array Value} {below : List Frame} {meth : Method} {c : Code} {H : Heap} {locs : List Loc} {R : Room} {Z : State → Prop}
variable {X : az_X} {pc : Nat} {ls : Array Slot}
theorem az_back {Q1 : Option az_V → az_M → Prop} {rest : List az_V} {st0 : List Value} {a : Array Value} (hr : va_Run p X.1 e R s m args below meth c H locs 0 0 0 0 (F0 m pc ls st0) (rest.map (az_cv X)) (az_Q X Q1 a) (az_A X)) (hS : va_S (az_A X) s.heap H locs)
    (kk : ∀ (r : Option az_V) (mem : az_M) (H1 : Heap) (locs1 : List Loc), Q1 r mem → az_Wd X mem H1 → va_S (az_A X) s.heap H1 locs1 → W p X.1 e R s m args below meth c H1 locs1 0 0 Z (F0 m (pc + 3) ls ((az_ps r rest).map (az_cv X)))) : W p X.1 e R s m args below meth c H locs 0 0 Z (F0 m pc ls st0) := by
  intro T hT X0
  obtain ⟨v, st₀, t, T', L, h0, X', hL, e1, e2, ⟨⟨r, mem', hv, hq, hw, hk⟩, hz, hkp⟩, st⟩ := hr T hT X0
  cases hv
  rw [h0] at hz hkp
  obtain ⟨t2, a1, b1⟩ := kk r mem' T'.heap (locs ++ L) hq (by rw [e1]; exact hw)
    ⟨Nat.le_trans hS.1 (by rw [e1]; exact hz), fun q h1 h2 => by rw [e1, hkp q (Nat.lt_of_lt_of_le h1 hS.1) h2]; exact hS.2.1 q h1 h2, fun q hq => by
      rcases List.mem_append.mp hq with h | h
      · exact hS.2.2 q h
      · exact hL q h⟩ T' rfl X'
  rw [az_ps_map] at a1
  exact ⟨t2, st t2 a1, b1⟩
end AZ2
section AZ3
variable {X : az_X} {d : Nat} {M : az_Me} {pc : Nat} {L : List (Option az_V)} {rest : List az_V} {mem : az_M} {Q : Option az_V → az_M → Prop}
theorem az_blind {X : az_X} {mem : az_M} (args : List az_V) : FrameBlind (va_Pc (args.map (az_cv X)) (fun U => az_Wd X mem U.heap ∧ va_K X.2.1 az_cl (az_ty X) U)) :=
  fun a U g mk q => ⟨q.1, q.2.1, va_K.moved (u := U) (U := U.calling g mk a) (Vm.Alike.refl U.vm) q.2.2⟩
theorem az_callV {idx ci n k : Nat} {N : az_Me} {fs : List (Option Nat)} {T : u_T} {nn : Nat} (As : List az_V) (hd : decode M.2.1 pc = .ok (.invokevirtual idx, 3)) (hk : az_Lk M.1.cls idx N.1) (hN : az_OV N n) (hob : az_Ob k ci fs) (hc : az_cl[ci]? = some (N.1.cls, T, nn)) (hn : As.length = n) (hr : rest.length ≤ 8)
    (hs : az_Sp X d N (.inr k :: As) mem (fun r mem' => az_Ev X (d + 1) M (pc + 3) L (az_ps r rest) mem' Q)) : az_Ev X (d + 1) M pc L (As.reverse ++ .inr k :: rest) mem Q := by
  intro p e s m args below meth c H locs ls hx hb hml hown hrt hlk hts hK hW hS hL
  have he : (az_wl X mem)[k]? = some (X.2.2.2 k, .inr (ci, az_fl X fs (mem k))) := by rw [az_wl_at hob.1, az_ce_ob hob]
  have hPV : PreV s H N.1.cls (X.2.2.2 k) (va_Pc ((Sum.inr k :: As).map (az_cv X)) (fun U => az_Wd X mem U.heap ∧ va_K X.2.1 az_cl (az_ty X) U)) (As.map (az_cv X)) :=
    ⟨az_blind _, va_recv (q := (N.1.cls, T, nn)) hK hW.1 hc he, fun U hU hWm => ⟨rfl, by rw [hU]; exact hW, va_K.moved hWm.alike hK⟩⟩
  have hst : (As.reverse ++ .inr k :: rest).map (az_cv X) = (As.map (az_cv X)).reverse ++ .ref (X.2.2.2 k) :: rest.map (az_cv X) := by
    simp [az_cv]
  have hsum : 2 * (F0 m pc ls ((As.reverse ++ .inr k :: rest).map (az_cv X))).monitorRoom + ((rest.map (az_cv X)).map fun v => v.category).sum ≤ 8 := by
    rw [az_sum]; exact (by simpa [JFrame.monitorRoom] using hr)
  have run : va_Run p X.1 e (az_rm (d + 1)) s m args below meth c H locs 0 0 0 0 (F0 m pc ls ((As.reverse ++ .inr k :: rest).map (az_cv X))) (rest.map (az_cv X)) (az_Q X (fun r mem' => az_Ev X (d + 1) M (pc + 3) L (az_ps r rest) mem' Q) (Value.ref (X.2.2.2 k) :: As.map (az_cv X)).toArray) (az_A X) := by
    rcases hk with hk | ⟨host, hk⟩
    · exact va_runV (C := N.1.cls) ⟨hx, hb, hml, hown, hts⟩ hs (⟨callB_of n hts (az_goodIn hN.1) rfl rfl rfl (hts _ hN.1.2.1) (hts _ hk) hN.1.2.2.1 (az_room hN.1 d), hts _ hN.2.1, hts _ hN.2.2⟩) hPV rfl (by simpa using hn) hL.1 hst hsum hd ⟨Nat.le_refl 0, Nat.le_refl 0⟩
    · exact va_runVN (C := N.1.cls) (host := host) ⟨hx, hb, hml, hown, hts⟩ hs ⟨va_cnB n hts (az_goodIn hN.1) rfl rfl rfl (hts _ hk) (hts _ hN.1.2.1) hN.1.2.2.1 (az_room hN.1 d), hts _ hN.2.1, hts _ hN.2.2⟩ hPV rfl (by simpa using hn) hL.1 hst hsum hd ⟨Nat.le_refl 0, Nat.le_refl 0⟩
  exact az_back run hS (fun r mem1 H1 locs1 hq hw hS1 => hq p e s m args below meth c H1 locs1 ls hx hb hml hown hrt hlk hts hK hw hS1 hL)
theorem az_callS {idx n : Nat} {N : az_Me} (As : List az_V) (hd : decode M.2.1 pc = .ok (.invokestatic idx, 3)) (hk : Cond.methodLink M.1.cls idx N.1 ∈ az_tb) (hN : az_OS N n) (hn : As.length = n) (hr : rest.length ≤ 8)
    (hs : az_Sp X d N As mem (fun r mem' => az_Ev X (d + 1) M (pc + 3) L (az_ps r rest) mem' Q)) : az_Ev X (d + 1) M pc L (As.reverse ++ rest) mem Q := by
  intro p e s m args below meth c H locs ls hx hb hml hown hrt hlk hts hK hW hS hL
  have hPS : PreS s H (va_Pc (As.map (az_cv X)) (fun U => az_Wd X mem U.heap ∧ va_K X.2.1 az_cl (az_ty X) U)) (As.map (az_cv X)) :=
    ⟨az_blind _, fun U hU hWm => ⟨rfl, by rw [hU]; exact hW, va_K.moved hWm.alike hK⟩⟩
  have hst : (As.reverse ++ rest).map (az_cv X) = (As.map (az_cv X)).reverse ++ rest.map (az_cv X) := by simp
  have hsum : 2 * (F0 m pc ls ((As.reverse ++ rest).map (az_cv X))).monitorRoom + ((rest.map (az_cv X)).map fun v => v.category).sum ≤ 8 := by
    rw [az_sum]; exact (by simpa [JFrame.monitorRoom] using hr)
  have run : va_Run p X.1 e (az_rm (d + 1)) s m args below meth c H locs 0 0 0 0 (F0 m pc ls ((As.reverse ++ rest).map (az_cv X))) (rest.map (az_cv X)) (az_Q X (fun r mem' => az_Ev X (d + 1) M (pc + 3) L (az_ps r rest) mem' Q) (As.map (az_cv X)).toArray) (az_A X) :=
    va_runS ⟨hx, hb, hml, hown, hts⟩ hs ⟨callB_of n hts (az_goodIn hN.1) rfl rfl rfl (hts _ hN.1.2.1) (hts _ hk) hN.1.2.2.1 (az_room hN.1 d), hts _ hN.2⟩ hPS rfl (by simpa using hn) hL.1 hst hsum hd ⟨Nat.le_refl 0, Nat.le_refl 0⟩
  exact az_back run hS (fun r mem1 H1 locs1 hq hw hS1 => hq p e s m args below meth c H1 locs1 ls hx hb hml hown hrt hlk hts hK hw hS1 hL)
theorem az_inv0 {idx ci k : Nat} {N : az_Me} {fs : List (Option Nat)} {T : u_T} {nn : Nat} (hd : decode M.2.1 pc = .ok (.invokevirtual idx, 3)) (hk : az_Lk M.1.cls idx N.1) (hN : az_OV N 0) (hob : az_Ob k ci fs) (hc : az_cl[ci]? = some (N.1.cls, T, nn)) (hr : rest.length ≤ 8)
    (hs : az_Sp X d N [.inr k] mem (fun r mem' => az_Ev X (d + 1) M (pc + 3) L (az_ps r rest) mem' Q)) : az_Ev X (d + 1) M pc L (.inr k :: rest) mem Q := az_callV [] hd hk hN hob hc rfl hr hs
theorem az_inv1 {idx ci k : Nat} {N : az_Me} {fs : List (Option Nat)} {T : u_T} {nn : Nat} {a1 : az_V} (hd : decode M.2.1 pc = .ok (.invokevirtual idx, 3)) (hk : az_Lk M.1.cls idx N.1) (hN : az_OV N 1) (hob : az_Ob k ci fs) (hc : az_cl[ci]? = some (N.1.cls, T, nn)) (hr : rest.length ≤ 8)
    (hs : az_Sp X d N [.inr k, a1] mem (fun r mem' => az_Ev X (d + 1) M (pc + 3) L (az_ps r rest) mem' Q)) : az_Ev X (d + 1) M pc L (a1 :: .inr k :: rest) mem Q := az_callV [a1] hd hk hN hob hc rfl hr hs
theorem az_inv2 {idx ci k : Nat} {N : az_Me} {fs : List (Option Nat)} {T : u_T} {nn : Nat} {a1 a2 : az_V} (hd : decode M.2.1 pc = .ok (.invokevirtual idx, 3)) (hk : az_Lk M.1.cls idx N.1) (hN : az_OV N 2) (hob : az_Ob k ci fs) (hc : az_cl[ci]? = some (N.1.cls, T, nn)) (hr : rest.length ≤ 8)
    (hs : az_Sp X d N [.inr k, a1, a2] mem (fun r mem' => az_Ev X (d + 1) M (pc + 3) L (az_ps r rest) mem' Q)) : az_Ev X (d + 1) M pc L (a2 :: a1 :: .inr k :: rest) mem Q := az_callV [a1, a2] hd hk hN hob hc rfl hr hs
theorem az_inv3 {idx ci k : Nat} {N : az_Me} {fs : List (Option Nat)} {T : u_T} {nn : Nat} {a1 a2 a3 : az_V} (hd : decode M.2.1 pc = .ok (.invokevirtual idx, 3)) (hk : az_Lk M.1.cls idx N.1) (hN : az_OV N 3) (hob : az_Ob k ci fs) (hc : az_cl[ci]? = some (N.1.cls, T, nn)) (hr : rest.length ≤ 8)
    (hs : az_Sp X d N [.inr k, a1, a2, a3] mem (fun r mem' => az_Ev X (d + 1) M (pc + 3) L (az_ps r rest) mem' Q)) : az_Ev X (d + 1) M pc L (a3 :: a2 :: a1 :: .inr k :: rest) mem Q := az_callV [a1, a2, a3] hd hk hN hob hc rfl hr hs
theorem az_inv4 {idx ci k : Nat} {N : az_Me} {fs : List (Option Nat)} {T : u_T} {nn : Nat} {a1 a2 a3 a4 : az_V} (hd : decode M.2.1 pc = .ok (.invokevirtual idx, 3)) (hk : az_Lk M.1.cls idx N.1) (hN : az_OV N 4) (hob : az_Ob k ci fs) (hc : az_cl[ci]? = some (N.1.cls, T, nn)) (hr : rest.length ≤ 8)
    (hs : az_Sp X d N [.inr k, a1, a2, a3, a4] mem (fun r mem' => az_Ev X (d + 1) M (pc + 3) L (az_ps r rest) mem' Q)) : az_Ev X (d + 1) M pc L (a4 :: a3 :: a2 :: a1 :: .inr k :: rest) mem Q := az_callV [a1, a2, a3, a4] hd hk hN hob hc rfl hr hs
theorem az_ins1 {idx : Nat} {N : az_Me} {a1 : az_V} (hd : decode M.2.1 pc = .ok (.invokestatic idx, 3)) (hk : Cond.methodLink M.1.cls idx N.1 ∈ az_tb) (hN : az_OS N 1) (hr : rest.length ≤ 8)
    (hs : az_Sp X d N [a1] mem (fun r mem' => az_Ev X (d + 1) M (pc + 3) L (az_ps r rest) mem' Q)) : az_Ev X (d + 1) M pc L (a1 :: rest) mem Q := az_callS [a1] hd hk hN rfl hr hs
theorem az_ins2 {idx : Nat} {N : az_Me} {a1 a2 : az_V} (hd : decode M.2.1 pc = .ok (.invokestatic idx, 3)) (hk : Cond.methodLink M.1.cls idx N.1 ∈ az_tb) (hN : az_OS N 2) (hr : rest.length ≤ 8)
    (hs : az_Sp X d N [a1, a2] mem (fun r mem' => az_Ev X (d + 1) M (pc + 3) L (az_ps r rest) mem' Q)) : az_Ev X (d + 1) M pc L (a2 :: a1 :: rest) mem Q := az_callS [a1, a2] hd hk hN rfl hr hs
/-- System.arraycopy between two different or equal int rows of the world -/
theorem az_copy {idx k0 k1 n0 n1 : Nat} (hd : decode M.2.1 pc = .ok (.invokestatic idx, 3)) (hk : Cond.methodLink M.1.cls idx arraycopyName ∈ az_tb) (h0 : az_Ar k0 n0) (h1 : az_Ar k1 n1) (sp dp n : Nat) (hsp : sp + n ≤ n0) (hdp : dp + n ≤ n1) (hn0 : n0 < 2 ^ 31) (hn1 : n1 < 2 ^ 31) {vs vd vn : Int32} (es : vs = nI sp) (ed : vd = nI dp) (en : vn = nI n) (hr : rest.length ≤ 8) (hdd : 2 ≤ d)
    (hw : Cond.native arraycopyName ∈ az_tb ∧ Cond.static arraycopyName ∈ az_tb ∧ Cond.initialized "java/lang/System" ∈ az_tb) (kk : az_Ev X d M (pc + 3) L rest (az_st mem k1 (va_cpy (mem k0) (mem k1) sp dp n)) Q) : az_Ev X d M pc L (.inl vn :: .inl vd :: .inr k1 :: .inl vs :: .inr k0 :: rest) mem Q := by
  intro p e s m args below meth c H locs ls hx hb hml hown hrt hlk hts hK hW hS hL
  subst es; subst ed; subst en
  have he0 : (az_wl X mem)[k0]? = some (X.2.2.2 k0, .inl (X.2.2.1.1, n0, .inl (mem k0))) := by rw [az_wl_at h0.1, az_ce_ar h0]
  have he1 : (az_wl X mem)[k1]? = some (X.2.2.2 k1, .inl (X.2.2.1.1, n1, .inl (mem k1))) := by rw [az_wl_at h1.1, az_ce_ar h1]
  have c1 : (nI sp).toNatClampNeg = sp := nI_clamp (by omega)
  have c2 : (nI dp).toNatClampNeg = dp := nI_clamp (by omega)
  have c3 : (nI n).toNatClampNeg = n := nI_clamp (by omega)
  have hset : (az_wl X mem).set k1 (X.2.2.2 k1, .inl (X.2.2.1.1, n1, .inl (va_cpy (mem k0) (mem k1) (nI sp).toNatClampNeg (nI dp).toNatClampNeg (nI n).toNatClampNeg))) = az_wl X (az_st mem k1 (va_cpy (mem k0) (mem k1) sp dp n)) := by
    rw [c1, c2, c3, ← az_ce_ar h1, az_wl_set h1.1]
  refine va_copyi (ty := .int) hx hb (hml.trans hL.1.symm) hown (hts _ hk) (hts _ hw.1) (hts _ hw.2.1) (hts _ hw.2.2) hK hW.1 hW.2 hS k0 k1 0 0 he0 he1 rfl rfl rfl (nI_pos (by omega)) (nI_pos (by omega)) (nI_pos (by omega)) (by rw [c1, c3]; exact hsp) (by rw [c2, c3]; exact hdp) (fun i hi => rfl) ?_ ?_ hd (fun H1 locs1 g1 g2 g3 => ?_)
  · show 1 ≤ d
    omega
  · rw [az_sum]
    have : nativeFrameWords "java/lang/System" "arraycopy" 5 + 11 ≤ 100 := by decide +kernel
    show _ ≤ 64 * d
    omega
  · rw [hset] at g1 g2
    exact kk p e s m args below meth c H1 locs1 ls hx hb hml hown hrt hlk hts hK ⟨g1, g2⟩ g3 hL
end AZ3
end
